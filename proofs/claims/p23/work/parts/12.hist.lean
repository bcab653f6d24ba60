abbrev HS : Type := Nat × (Nat → Option Nat) × (Nat → Nat) × (Nat → Nat → Nat) × (Nat → Nat → Nat → Int32)
def wHi (Y : YY) (h sa : Nat) (u : HS) : va_W := wH h sa (nI u.1) ++ (wA Y sa 6 u.2.1 ++ (wR Y (u.2.2.1 0) (u.2.2.2.1 0) (u.2.2.2.2 0) ++ (wR Y (u.2.2.1 1) (u.2.2.2.1 1) (u.2.2.2.2 1) ++ (wR Y (u.2.2.1 2) (u.2.2.2.1 2) (u.2.2.2.2 2) ++ (wR Y (u.2.2.1 3) (u.2.2.2.1 3) (u.2.2.2.2 3) ++ (wR Y (u.2.2.1 4) (u.2.2.2.1 4) (u.2.2.2.2 4) ++ wR Y (u.2.2.1 5) (u.2.2.2.1 5) (u.2.2.2.2 5)))))))
def hok (u : HS) : Prop := u.1 ≤ 6 ∧ ∀ k, k < 6 → u.2.1 k = some (u.2.2.1 k)
def rot {α : Type} (g : Nat → α) (j : Nat) : α := if j = 5 then g 0 else g (j + 1)
def D_X0_dropOldest (n : Int32) (f : Nat → Option Nat) (ra : Nat → Nat) (rq : Nat → Nat → Nat) (Z : Nat → Nat → Nat → Int32)  : (Int32) × (Nat → Option Nat) := ((n - 1), (va_up (va_up (va_up (va_up (va_up (va_up f (0 : Int32).toNatClampNeg (some (ra 1))) (1 : Int32).toNatClampNeg (some (ra 2))) (2 : Int32).toNatClampNeg (some (ra 3))) (3 : Int32).toNatClampNeg (some (ra 4))) (4 : Int32).toNatClampNeg (some (ra 5))) (5 : Int32).toNatClampNeg (some (ra 0))))
set_option maxRecDepth 100000 in
theorem in_X0_dropOldest_RX0 : ∀ w ∈ u_ws RX0 TX0 2, w ∈ wsX0_dropOldest := by decide +kernel
set_option maxHeartbeats 4000000 in
set_option maxRecDepth 100000 in
theorem c_X0_dropOldest (l : Launch) (D : va_G) (Y : YY) (sz : Nat) (sa : Nat) (n : Int32) (f : Nat → Option Nat) (ra : Nat → Nat) (rq : Nat → Nat → Nat) (Z : Nat → Nat → Nat → Int32) (h : Nat) (hf : ∀ k, k < 6 → f k = some (ra k)) : Met l yX0_dropOldest wsX0_dropOldest ({ frames := 0, cells := 0, slots := 0, locals := 0 } : Room) (va_Pc [.ref h] (Pst D Y sz (wH h sa n ++ (wA Y sa 6 f ++ (wR Y (ra 0) (rq 0) (Z 0) ++ (wR Y (ra 1) (rq 1) (Z 1) ++ (wR Y (ra 2) (rq 2) (Z 2) ++ (wR Y (ra 3) (rq 3) (Z 3) ++ (wR Y (ra 4) (rq 4) (Z 4) ++ wR Y (ra 5) (rq 5) (Z 5)))))))))) ((fun A : Nat → Prop => Qsv D (fun w9 => w9 = wH h sa ((D_X0_dropOldest n f ra rq Z).1) ++ (wA Y sa 6 ((D_X0_dropOldest n f ra rq Z).2) ++ (wR Y (ra 0) (rq 0) (Z 0) ++ (wR Y (ra 1) (rq 1) (Z 1) ++ (wR Y (ra 2) (rq 2) (Z 2) ++ (wR Y (ra 3) (rq 3) (Z 3) ++ (wR Y (ra 4) (rq 4) (Z 4) ++ wR Y (ra 5) (rq 5) (Z 5)))))))) A) (va_A (wH h sa n ++ (wA Y sa 6 f ++ (wR Y (ra 0) (rq 0) (Z 0) ++ (wR Y (ra 1) (rq 1) (Z 1) ++ (wR Y (ra 2) (rq 2) (Z 2) ++ (wR Y (ra 3) (rq 3) (Z 3) ++ (wR Y (ra 4) (rq 4) (Z 4) ++ wR Y (ra 5) (rq 5) (Z 5)))))))) sz)) 0 0 (va_A (wH h sa n ++ (wA Y sa 6 f ++ (wR Y (ra 0) (rq 0) (Z 0) ++ (wR Y (ra 1) (rq 1) (Z 1) ++ (wR Y (ra 2) (rq 2) (Z 2) ++ (wR Y (ra 3) (rq 3) (Z 3) ++ (wR Y (ra 4) (rq 4) (Z 4) ++ wR Y (ra 5) (rq 5) (Z 5)))))))) sz) := by
  refine ct_in (cc := cX0_dropOldest) (maxL := 3) (ret := none) (Qc := fun A : Nat → Prop => Qsv D (fun w9 => w9 = wH h sa ((D_X0_dropOldest n f ra rq Z).1) ++ (wA Y sa 6 ((D_X0_dropOldest n f ra rq Z).2) ++ (wR Y (ra 0) (rq 0) (Z 0) ++ (wR Y (ra 1) (rq 1) (Z 1) ++ (wR Y (ra 2) (rq 2) (Z 2) ++ (wR Y (ra 3) (rq 3) (Z 3) ++ (wR Y (ra 4) (rq 4) (Z 4) ++ wR Y (ra 5) (rq 5) (Z 5)))))))) A) (by decide +kernel) rfl (Nat.le_of_ble_eq_true rfl) ?_
  intro p e s m below meth c A ls hx hb hr hts hown hml hlk hin hsz hA hP hD hK hS hl
  have hown : s.vm.findClass RX0 = some m.cls := hown
  have hl : lv_has ls 3 [(0, .ref h)] := hl
  show W p l e ({ frames := 0, cells := 0, slots := 0, locals := 0 } : Room) s m ([.ref h] : List Value).toArray below meth c s.heap [] 0 0 (MQ below (Qsv D (fun w9 => w9 = wH h sa ((D_X0_dropOldest n f ra rq Z).1) ++ (wA Y sa 6 ((D_X0_dropOldest n f ra rq Z).2) ++ (wR Y (ra 0) (rq 0) (Z 0) ++ (wR Y (ra 1) (rq 1) (Z 1) ++ (wR Y (ra 2) (rq 2) (Z 2) ++ (wR Y (ra 3) (rq 3) (Z 3) ++ (wR Y (ra 4) (rq 4) (Z 4) ++ wR Y (ra 5) (rq 5) (Z 5)))))))) A) ([.ref h] : List Value).toArray s 0 0 A) (F0 m 0 ls [])
  refine lv_aload_n hx hb dX0_dropOldest_0 rfl (lv_at hl 0 rfl) ?_
  refine va_get (D := D) (ci := 0) (v := .ref sa) (C := RX0) (T := TX0) (N := 2) hx hb hts in_X0_dropOldest_RX0 hown hK.1 hP 0 rfl rfl 0 (by decide) (hts (.fieldLink RX0 11 "NineDancers$History" "states" "[LNineDancers$Ring;") (by decide +kernel)) (fun _ h9 => h9) rfl dX0_dropOldest_1 ?_
  refine lv_iconst (v := 0) hx hb dX0_dropOldest_4 (by decide) ?_
  refine my_aldq (D := D) hx hb hK.1 hP 1 2 rfl rfl (by unfold vp_in; decide) (v := .ref (ra 0)) (congrArg va_rf (show f (0 : Int32).toNatClampNeg = some (ra 0) from hf 0 (by decide))) dX0_dropOldest_5 ?_
  refine lv_astore_n (lv' := [(1, .ref (ra 0)), (0, .ref h)]) hx hb dX0_dropOldest_6 rfl hl (by decide) rfl (fun ls hl => ?_)
  refine lv_iconst (v := 1) hx hb dX0_dropOldest_7 (by decide) ?_
  refine lv_istore_n (lv' := [(2, .int 1), (1, .ref (ra 0)), (0, .ref h)]) hx hb dX0_dropOldest_8 rfl hl (by decide) rfl (fun ls hl => ?_)
  refine lv_iload_n hx hb dX0_dropOldest_9 rfl (lv_at hl 0 rfl) ?_
  refine lv_bipush (v := 6) hx hb dX0_dropOldest_10 (by decide) ?_
  refine lv_icmp_ge (tgt := 35) hx hb dX0_dropOldest_12 (by decide) (fun c_1 => ?_) (fun c_1 => ?_)
  · exact absurd c_1 (by decide)
  · refine lv_aload_n hx hb dX0_dropOldest_15 rfl (lv_at hl 2 rfl) ?_
    refine va_get (D := D) (ci := 0) (v := .ref sa) (C := RX0) (T := TX0) (N := 2) hx hb hts in_X0_dropOldest_RX0 hown hK.1 hP 0 rfl rfl 0 (by decide) (hts (.fieldLink RX0 11 "NineDancers$History" "states" "[LNineDancers$Ring;") (by decide +kernel)) (fun _ h9 => h9) rfl dX0_dropOldest_16 ?_
    refine lv_iload_n hx hb dX0_dropOldest_19 rfl (lv_at hl 0 rfl) ?_
    refine lv_iconst (v := 1) hx hb dX0_dropOldest_20 (by decide) ?_
    refine lv_isub hx hb dX0_dropOldest_21 ?_
    refine lv_topi (fun y9 e9 => ?_)
    obtain rfl : y9 = 0 := e9.trans (by decide)
    refine lv_aload_n hx hb dX0_dropOldest_22 rfl (lv_at hl 2 rfl) ?_
    refine va_get (D := D) (ci := 0) (v := .ref sa) (C := RX0) (T := TX0) (N := 2) hx hb hts in_X0_dropOldest_RX0 hown hK.1 hP 0 rfl rfl 0 (by decide) (hts (.fieldLink RX0 11 "NineDancers$History" "states" "[LNineDancers$Ring;") (by decide +kernel)) (fun _ h9 => h9) rfl dX0_dropOldest_23 ?_
    refine lv_iload_n hx hb dX0_dropOldest_26 rfl (lv_at hl 0 rfl) ?_
    refine my_aldq (D := D) hx hb hK.1 hP 1 2 rfl rfl (by unfold vp_in; decide) (v := .ref (ra 1)) (congrArg va_rf (show f (1 : Int32).toNatClampNeg = some (ra 1) from hf 1 (by decide))) dX0_dropOldest_27 ?_
    refine va_astq (D := D) hx hb hK.1 hP hD hS 1 2 13 2 rfl rfl rfl rfl (by unfold vp_in; decide) dX0_dropOldest_28 (fun H locs hP hD hS => ?_)
    have hP : va_P D vwCl (wH h sa n ++ (wA Y sa 6 (va_up f (0 : Int32).toNatClampNeg (some (ra 1))) ++ (wR Y (ra 0) (rq 0) (Z 0) ++ (wR Y (ra 1) (rq 1) (Z 1) ++ (wR Y (ra 2) (rq 2) (Z 2) ++ (wR Y (ra 3) (rq 3) (Z 3) ++ (wR Y (ra 4) (rq 4) (Z 4) ++ wR Y (ra 5) (rq 5) (Z 5)))))))) H := hP
    have hD : va_D A (wH h sa n ++ (wA Y sa 6 (va_up f (0 : Int32).toNatClampNeg (some (ra 1))) ++ (wR Y (ra 0) (rq 0) (Z 0) ++ (wR Y (ra 1) (rq 1) (Z 1) ++ (wR Y (ra 2) (rq 2) (Z 2) ++ (wR Y (ra 3) (rq 3) (Z 3) ++ (wR Y (ra 4) (rq 4) (Z 4) ++ wR Y (ra 5) (rq 5) (Z 5)))))))) := hD
    refine lv_iinc (v := 2) (lv' := [(2, .int 2), (1, .ref (ra 0)), (0, .ref h)]) hx hb dX0_dropOldest_29 hl (k := 0) rfl rfl (by decide) rfl (fun ls hl => ?_)
    refine lv_goto (tgt := 9) hx hb dX0_dropOldest_32 (by decide) ?_
    refine lv_iload_n hx hb dX0_dropOldest_9 rfl (lv_at hl 0 rfl) ?_
    refine lv_bipush (v := 6) hx hb dX0_dropOldest_10 (by decide) ?_
    refine lv_icmp_ge (tgt := 35) hx hb dX0_dropOldest_12 (by decide) (fun c_2 => ?_) (fun c_2 => ?_)
    · exact absurd c_2 (by decide)
    · refine lv_aload_n hx hb dX0_dropOldest_15 rfl (lv_at hl 2 rfl) ?_
      refine va_get (D := D) (ci := 0) (v := .ref sa) (C := RX0) (T := TX0) (N := 2) hx hb hts in_X0_dropOldest_RX0 hown hK.1 hP 0 rfl rfl 0 (by decide) (hts (.fieldLink RX0 11 "NineDancers$History" "states" "[LNineDancers$Ring;") (by decide +kernel)) (fun _ h9 => h9) rfl dX0_dropOldest_16 ?_
      refine lv_iload_n hx hb dX0_dropOldest_19 rfl (lv_at hl 0 rfl) ?_
      refine lv_iconst (v := 1) hx hb dX0_dropOldest_20 (by decide) ?_
      refine lv_isub hx hb dX0_dropOldest_21 ?_
      refine lv_topi (fun y9 e9 => ?_)
      obtain rfl : y9 = 1 := e9.trans (by decide)
      refine lv_aload_n hx hb dX0_dropOldest_22 rfl (lv_at hl 2 rfl) ?_
      refine va_get (D := D) (ci := 0) (v := .ref sa) (C := RX0) (T := TX0) (N := 2) hx hb hts in_X0_dropOldest_RX0 hown hK.1 hP 0 rfl rfl 0 (by decide) (hts (.fieldLink RX0 11 "NineDancers$History" "states" "[LNineDancers$Ring;") (by decide +kernel)) (fun _ h9 => h9) rfl dX0_dropOldest_23 ?_
      refine lv_iload_n hx hb dX0_dropOldest_26 rfl (lv_at hl 0 rfl) ?_
      refine my_aldq (D := D) hx hb hK.1 hP 1 2 rfl rfl (by unfold vp_in; decide) (v := .ref (ra 2)) (congrArg va_rf (show (va_up f (0 : Int32).toNatClampNeg (some (ra 1))) (2 : Int32).toNatClampNeg = some (ra 2) from hf 2 (by decide))) dX0_dropOldest_27 ?_
      refine va_astq (D := D) hx hb hK.1 hP hD hS 1 2 24 2 rfl rfl rfl rfl (by unfold vp_in; decide) dX0_dropOldest_28 (fun H locs hP hD hS => ?_)
      have hP : va_P D vwCl (wH h sa n ++ (wA Y sa 6 (va_up (va_up f (0 : Int32).toNatClampNeg (some (ra 1))) (1 : Int32).toNatClampNeg (some (ra 2))) ++ (wR Y (ra 0) (rq 0) (Z 0) ++ (wR Y (ra 1) (rq 1) (Z 1) ++ (wR Y (ra 2) (rq 2) (Z 2) ++ (wR Y (ra 3) (rq 3) (Z 3) ++ (wR Y (ra 4) (rq 4) (Z 4) ++ wR Y (ra 5) (rq 5) (Z 5)))))))) H := hP
      have hD : va_D A (wH h sa n ++ (wA Y sa 6 (va_up (va_up f (0 : Int32).toNatClampNeg (some (ra 1))) (1 : Int32).toNatClampNeg (some (ra 2))) ++ (wR Y (ra 0) (rq 0) (Z 0) ++ (wR Y (ra 1) (rq 1) (Z 1) ++ (wR Y (ra 2) (rq 2) (Z 2) ++ (wR Y (ra 3) (rq 3) (Z 3) ++ (wR Y (ra 4) (rq 4) (Z 4) ++ wR Y (ra 5) (rq 5) (Z 5)))))))) := hD
      refine lv_iinc (v := 3) (lv' := [(2, .int 3), (1, .ref (ra 0)), (0, .ref h)]) hx hb dX0_dropOldest_29 hl (k := 0) rfl rfl (by decide) rfl (fun ls hl => ?_)
      refine lv_goto (tgt := 9) hx hb dX0_dropOldest_32 (by decide) ?_
      refine lv_iload_n hx hb dX0_dropOldest_9 rfl (lv_at hl 0 rfl) ?_
      refine lv_bipush (v := 6) hx hb dX0_dropOldest_10 (by decide) ?_
      refine lv_icmp_ge (tgt := 35) hx hb dX0_dropOldest_12 (by decide) (fun c_3 => ?_) (fun c_3 => ?_)
      · exact absurd c_3 (by decide)
      · refine lv_aload_n hx hb dX0_dropOldest_15 rfl (lv_at hl 2 rfl) ?_
        refine va_get (D := D) (ci := 0) (v := .ref sa) (C := RX0) (T := TX0) (N := 2) hx hb hts in_X0_dropOldest_RX0 hown hK.1 hP 0 rfl rfl 0 (by decide) (hts (.fieldLink RX0 11 "NineDancers$History" "states" "[LNineDancers$Ring;") (by decide +kernel)) (fun _ h9 => h9) rfl dX0_dropOldest_16 ?_
        refine lv_iload_n hx hb dX0_dropOldest_19 rfl (lv_at hl 0 rfl) ?_
        refine lv_iconst (v := 1) hx hb dX0_dropOldest_20 (by decide) ?_
        refine lv_isub hx hb dX0_dropOldest_21 ?_
        refine lv_topi (fun y9 e9 => ?_)
        obtain rfl : y9 = 2 := e9.trans (by decide)
        refine lv_aload_n hx hb dX0_dropOldest_22 rfl (lv_at hl 2 rfl) ?_
        refine va_get (D := D) (ci := 0) (v := .ref sa) (C := RX0) (T := TX0) (N := 2) hx hb hts in_X0_dropOldest_RX0 hown hK.1 hP 0 rfl rfl 0 (by decide) (hts (.fieldLink RX0 11 "NineDancers$History" "states" "[LNineDancers$Ring;") (by decide +kernel)) (fun _ h9 => h9) rfl dX0_dropOldest_23 ?_
        refine lv_iload_n hx hb dX0_dropOldest_26 rfl (lv_at hl 0 rfl) ?_
        refine my_aldq (D := D) hx hb hK.1 hP 1 2 rfl rfl (by unfold vp_in; decide) (v := .ref (ra 3)) (congrArg va_rf (show (va_up (va_up f (0 : Int32).toNatClampNeg (some (ra 1))) (1 : Int32).toNatClampNeg (some (ra 2))) (3 : Int32).toNatClampNeg = some (ra 3) from hf 3 (by decide))) dX0_dropOldest_27 ?_
        refine va_astq (D := D) hx hb hK.1 hP hD hS 1 2 35 2 rfl rfl rfl rfl (by unfold vp_in; decide) dX0_dropOldest_28 (fun H locs hP hD hS => ?_)
        have hP : va_P D vwCl (wH h sa n ++ (wA Y sa 6 (va_up (va_up (va_up f (0 : Int32).toNatClampNeg (some (ra 1))) (1 : Int32).toNatClampNeg (some (ra 2))) (2 : Int32).toNatClampNeg (some (ra 3))) ++ (wR Y (ra 0) (rq 0) (Z 0) ++ (wR Y (ra 1) (rq 1) (Z 1) ++ (wR Y (ra 2) (rq 2) (Z 2) ++ (wR Y (ra 3) (rq 3) (Z 3) ++ (wR Y (ra 4) (rq 4) (Z 4) ++ wR Y (ra 5) (rq 5) (Z 5)))))))) H := hP
        have hD : va_D A (wH h sa n ++ (wA Y sa 6 (va_up (va_up (va_up f (0 : Int32).toNatClampNeg (some (ra 1))) (1 : Int32).toNatClampNeg (some (ra 2))) (2 : Int32).toNatClampNeg (some (ra 3))) ++ (wR Y (ra 0) (rq 0) (Z 0) ++ (wR Y (ra 1) (rq 1) (Z 1) ++ (wR Y (ra 2) (rq 2) (Z 2) ++ (wR Y (ra 3) (rq 3) (Z 3) ++ (wR Y (ra 4) (rq 4) (Z 4) ++ wR Y (ra 5) (rq 5) (Z 5)))))))) := hD
        refine lv_iinc (v := 4) (lv' := [(2, .int 4), (1, .ref (ra 0)), (0, .ref h)]) hx hb dX0_dropOldest_29 hl (k := 0) rfl rfl (by decide) rfl (fun ls hl => ?_)
        refine lv_goto (tgt := 9) hx hb dX0_dropOldest_32 (by decide) ?_
        refine lv_iload_n hx hb dX0_dropOldest_9 rfl (lv_at hl 0 rfl) ?_
        refine lv_bipush (v := 6) hx hb dX0_dropOldest_10 (by decide) ?_
        refine lv_icmp_ge (tgt := 35) hx hb dX0_dropOldest_12 (by decide) (fun c_4 => ?_) (fun c_4 => ?_)
        · exact absurd c_4 (by decide)
        · refine lv_aload_n hx hb dX0_dropOldest_15 rfl (lv_at hl 2 rfl) ?_
          refine va_get (D := D) (ci := 0) (v := .ref sa) (C := RX0) (T := TX0) (N := 2) hx hb hts in_X0_dropOldest_RX0 hown hK.1 hP 0 rfl rfl 0 (by decide) (hts (.fieldLink RX0 11 "NineDancers$History" "states" "[LNineDancers$Ring;") (by decide +kernel)) (fun _ h9 => h9) rfl dX0_dropOldest_16 ?_
          refine lv_iload_n hx hb dX0_dropOldest_19 rfl (lv_at hl 0 rfl) ?_
          refine lv_iconst (v := 1) hx hb dX0_dropOldest_20 (by decide) ?_
          refine lv_isub hx hb dX0_dropOldest_21 ?_
          refine lv_topi (fun y9 e9 => ?_)
          obtain rfl : y9 = 3 := e9.trans (by decide)
          refine lv_aload_n hx hb dX0_dropOldest_22 rfl (lv_at hl 2 rfl) ?_
          refine va_get (D := D) (ci := 0) (v := .ref sa) (C := RX0) (T := TX0) (N := 2) hx hb hts in_X0_dropOldest_RX0 hown hK.1 hP 0 rfl rfl 0 (by decide) (hts (.fieldLink RX0 11 "NineDancers$History" "states" "[LNineDancers$Ring;") (by decide +kernel)) (fun _ h9 => h9) rfl dX0_dropOldest_23 ?_
          refine lv_iload_n hx hb dX0_dropOldest_26 rfl (lv_at hl 0 rfl) ?_
          refine my_aldq (D := D) hx hb hK.1 hP 1 2 rfl rfl (by unfold vp_in; decide) (v := .ref (ra 4)) (congrArg va_rf (show (va_up (va_up (va_up f (0 : Int32).toNatClampNeg (some (ra 1))) (1 : Int32).toNatClampNeg (some (ra 2))) (2 : Int32).toNatClampNeg (some (ra 3))) (4 : Int32).toNatClampNeg = some (ra 4) from hf 4 (by decide))) dX0_dropOldest_27 ?_
          refine va_astq (D := D) hx hb hK.1 hP hD hS 1 2 46 2 rfl rfl rfl rfl (by unfold vp_in; decide) dX0_dropOldest_28 (fun H locs hP hD hS => ?_)
          have hP : va_P D vwCl (wH h sa n ++ (wA Y sa 6 (va_up (va_up (va_up (va_up f (0 : Int32).toNatClampNeg (some (ra 1))) (1 : Int32).toNatClampNeg (some (ra 2))) (2 : Int32).toNatClampNeg (some (ra 3))) (3 : Int32).toNatClampNeg (some (ra 4))) ++ (wR Y (ra 0) (rq 0) (Z 0) ++ (wR Y (ra 1) (rq 1) (Z 1) ++ (wR Y (ra 2) (rq 2) (Z 2) ++ (wR Y (ra 3) (rq 3) (Z 3) ++ (wR Y (ra 4) (rq 4) (Z 4) ++ wR Y (ra 5) (rq 5) (Z 5)))))))) H := hP
          have hD : va_D A (wH h sa n ++ (wA Y sa 6 (va_up (va_up (va_up (va_up f (0 : Int32).toNatClampNeg (some (ra 1))) (1 : Int32).toNatClampNeg (some (ra 2))) (2 : Int32).toNatClampNeg (some (ra 3))) (3 : Int32).toNatClampNeg (some (ra 4))) ++ (wR Y (ra 0) (rq 0) (Z 0) ++ (wR Y (ra 1) (rq 1) (Z 1) ++ (wR Y (ra 2) (rq 2) (Z 2) ++ (wR Y (ra 3) (rq 3) (Z 3) ++ (wR Y (ra 4) (rq 4) (Z 4) ++ wR Y (ra 5) (rq 5) (Z 5)))))))) := hD
          refine lv_iinc (v := 5) (lv' := [(2, .int 5), (1, .ref (ra 0)), (0, .ref h)]) hx hb dX0_dropOldest_29 hl (k := 0) rfl rfl (by decide) rfl (fun ls hl => ?_)
          refine lv_goto (tgt := 9) hx hb dX0_dropOldest_32 (by decide) ?_
          refine lv_iload_n hx hb dX0_dropOldest_9 rfl (lv_at hl 0 rfl) ?_
          refine lv_bipush (v := 6) hx hb dX0_dropOldest_10 (by decide) ?_
          refine lv_icmp_ge (tgt := 35) hx hb dX0_dropOldest_12 (by decide) (fun c_5 => ?_) (fun c_5 => ?_)
          · exact absurd c_5 (by decide)
          · refine lv_aload_n hx hb dX0_dropOldest_15 rfl (lv_at hl 2 rfl) ?_
            refine va_get (D := D) (ci := 0) (v := .ref sa) (C := RX0) (T := TX0) (N := 2) hx hb hts in_X0_dropOldest_RX0 hown hK.1 hP 0 rfl rfl 0 (by decide) (hts (.fieldLink RX0 11 "NineDancers$History" "states" "[LNineDancers$Ring;") (by decide +kernel)) (fun _ h9 => h9) rfl dX0_dropOldest_16 ?_
            refine lv_iload_n hx hb dX0_dropOldest_19 rfl (lv_at hl 0 rfl) ?_
            refine lv_iconst (v := 1) hx hb dX0_dropOldest_20 (by decide) ?_
            refine lv_isub hx hb dX0_dropOldest_21 ?_
            refine lv_topi (fun y9 e9 => ?_)
            obtain rfl : y9 = 4 := e9.trans (by decide)
            refine lv_aload_n hx hb dX0_dropOldest_22 rfl (lv_at hl 2 rfl) ?_
            refine va_get (D := D) (ci := 0) (v := .ref sa) (C := RX0) (T := TX0) (N := 2) hx hb hts in_X0_dropOldest_RX0 hown hK.1 hP 0 rfl rfl 0 (by decide) (hts (.fieldLink RX0 11 "NineDancers$History" "states" "[LNineDancers$Ring;") (by decide +kernel)) (fun _ h9 => h9) rfl dX0_dropOldest_23 ?_
            refine lv_iload_n hx hb dX0_dropOldest_26 rfl (lv_at hl 0 rfl) ?_
            refine my_aldq (D := D) hx hb hK.1 hP 1 2 rfl rfl (by unfold vp_in; decide) (v := .ref (ra 5)) (congrArg va_rf (show (va_up (va_up (va_up (va_up f (0 : Int32).toNatClampNeg (some (ra 1))) (1 : Int32).toNatClampNeg (some (ra 2))) (2 : Int32).toNatClampNeg (some (ra 3))) (3 : Int32).toNatClampNeg (some (ra 4))) (5 : Int32).toNatClampNeg = some (ra 5) from hf 5 (by decide))) dX0_dropOldest_27 ?_
            refine va_astq (D := D) hx hb hK.1 hP hD hS 1 2 57 2 rfl rfl rfl rfl (by unfold vp_in; decide) dX0_dropOldest_28 (fun H locs hP hD hS => ?_)
            have hP : va_P D vwCl (wH h sa n ++ (wA Y sa 6 (va_up (va_up (va_up (va_up (va_up f (0 : Int32).toNatClampNeg (some (ra 1))) (1 : Int32).toNatClampNeg (some (ra 2))) (2 : Int32).toNatClampNeg (some (ra 3))) (3 : Int32).toNatClampNeg (some (ra 4))) (4 : Int32).toNatClampNeg (some (ra 5))) ++ (wR Y (ra 0) (rq 0) (Z 0) ++ (wR Y (ra 1) (rq 1) (Z 1) ++ (wR Y (ra 2) (rq 2) (Z 2) ++ (wR Y (ra 3) (rq 3) (Z 3) ++ (wR Y (ra 4) (rq 4) (Z 4) ++ wR Y (ra 5) (rq 5) (Z 5)))))))) H := hP
            have hD : va_D A (wH h sa n ++ (wA Y sa 6 (va_up (va_up (va_up (va_up (va_up f (0 : Int32).toNatClampNeg (some (ra 1))) (1 : Int32).toNatClampNeg (some (ra 2))) (2 : Int32).toNatClampNeg (some (ra 3))) (3 : Int32).toNatClampNeg (some (ra 4))) (4 : Int32).toNatClampNeg (some (ra 5))) ++ (wR Y (ra 0) (rq 0) (Z 0) ++ (wR Y (ra 1) (rq 1) (Z 1) ++ (wR Y (ra 2) (rq 2) (Z 2) ++ (wR Y (ra 3) (rq 3) (Z 3) ++ (wR Y (ra 4) (rq 4) (Z 4) ++ wR Y (ra 5) (rq 5) (Z 5)))))))) := hD
            refine lv_iinc (v := 6) (lv' := [(2, .int 6), (1, .ref (ra 0)), (0, .ref h)]) hx hb dX0_dropOldest_29 hl (k := 0) rfl rfl (by decide) rfl (fun ls hl => ?_)
            refine lv_goto (tgt := 9) hx hb dX0_dropOldest_32 (by decide) ?_
            refine lv_iload_n hx hb dX0_dropOldest_9 rfl (lv_at hl 0 rfl) ?_
            refine lv_bipush (v := 6) hx hb dX0_dropOldest_10 (by decide) ?_
            refine lv_icmp_ge (tgt := 35) hx hb dX0_dropOldest_12 (by decide) (fun c_6 => ?_) (fun c_6 => ?_)
            · refine lv_aload_n hx hb dX0_dropOldest_35 rfl (lv_at hl 2 rfl) ?_
              refine va_get (D := D) (ci := 0) (v := .ref sa) (C := RX0) (T := TX0) (N := 2) hx hb hts in_X0_dropOldest_RX0 hown hK.1 hP 0 rfl rfl 0 (by decide) (hts (.fieldLink RX0 11 "NineDancers$History" "states" "[LNineDancers$Ring;") (by decide +kernel)) (fun _ h9 => h9) rfl dX0_dropOldest_36 ?_
              refine lv_iconst (v := 5) hx hb dX0_dropOldest_39 (by decide) ?_
              refine lv_aload_n hx hb dX0_dropOldest_40 rfl (lv_at hl 1 rfl) ?_
              refine va_astq (D := D) hx hb hK.1 hP hD hS 1 2 2 2 rfl rfl rfl rfl (by unfold vp_in; decide) dX0_dropOldest_41 (fun H locs hP hD hS => ?_)
              have hP : va_P D vwCl (wH h sa n ++ (wA Y sa 6 (va_up (va_up (va_up (va_up (va_up (va_up f (0 : Int32).toNatClampNeg (some (ra 1))) (1 : Int32).toNatClampNeg (some (ra 2))) (2 : Int32).toNatClampNeg (some (ra 3))) (3 : Int32).toNatClampNeg (some (ra 4))) (4 : Int32).toNatClampNeg (some (ra 5))) (5 : Int32).toNatClampNeg (some (ra 0))) ++ (wR Y (ra 0) (rq 0) (Z 0) ++ (wR Y (ra 1) (rq 1) (Z 1) ++ (wR Y (ra 2) (rq 2) (Z 2) ++ (wR Y (ra 3) (rq 3) (Z 3) ++ (wR Y (ra 4) (rq 4) (Z 4) ++ wR Y (ra 5) (rq 5) (Z 5)))))))) H := hP
              have hD : va_D A (wH h sa n ++ (wA Y sa 6 (va_up (va_up (va_up (va_up (va_up (va_up f (0 : Int32).toNatClampNeg (some (ra 1))) (1 : Int32).toNatClampNeg (some (ra 2))) (2 : Int32).toNatClampNeg (some (ra 3))) (3 : Int32).toNatClampNeg (some (ra 4))) (4 : Int32).toNatClampNeg (some (ra 5))) (5 : Int32).toNatClampNeg (some (ra 0))) ++ (wR Y (ra 0) (rq 0) (Z 0) ++ (wR Y (ra 1) (rq 1) (Z 1) ++ (wR Y (ra 2) (rq 2) (Z 2) ++ (wR Y (ra 3) (rq 3) (Z 3) ++ (wR Y (ra 4) (rq 4) (Z 4) ++ wR Y (ra 5) (rq 5) (Z 5)))))))) := hD
              refine lv_aload_n hx hb dX0_dropOldest_42 rfl (lv_at hl 2 rfl) ?_
              refine lv_dup hx hb dX0_dropOldest_43 rfl ?_
              refine va_get (D := D) (ci := 0) (v := .int n) (C := RX0) (T := TX0) (N := 2) hx hb hts in_X0_dropOldest_RX0 hown hK.1 hP 0 rfl rfl 1 (by decide) (hts (.fieldLink RX0 17 "NineDancers$History" "length" "I") (by decide +kernel)) (fun _ h9 => h9) rfl dX0_dropOldest_44 ?_
              refine lv_iconst (v := 1) hx hb dX0_dropOldest_47 (by decide) ?_
              refine lv_isub hx hb dX0_dropOldest_48 ?_
              refine va_put (D := D) (ci := 0) (v := .int (n - 1)) (ty := .int) (C := RX0) (T := TX0) (N := 2) hx hb hts in_X0_dropOldest_RX0 tyX0 tyX0_ok nmX0 hown hK.1 hP hD hS 0 rfl rfl 1 (by decide) (hts (.fieldLink RX0 17 "NineDancers$History" "length" "I") (by decide +kernel)) (fun _ h9 => h9) rfl (by decide +kernel) rfl rfl (Nat.le_of_ble_eq_true rfl) dX0_dropOldest_49 (fun H locs hP hD hS => ?_)
              have hP : va_P D vwCl (wH h sa (n - 1) ++ (wA Y sa 6 (va_up (va_up (va_up (va_up (va_up (va_up f (0 : Int32).toNatClampNeg (some (ra 1))) (1 : Int32).toNatClampNeg (some (ra 2))) (2 : Int32).toNatClampNeg (some (ra 3))) (3 : Int32).toNatClampNeg (some (ra 4))) (4 : Int32).toNatClampNeg (some (ra 5))) (5 : Int32).toNatClampNeg (some (ra 0))) ++ (wR Y (ra 0) (rq 0) (Z 0) ++ (wR Y (ra 1) (rq 1) (Z 1) ++ (wR Y (ra 2) (rq 2) (Z 2) ++ (wR Y (ra 3) (rq 3) (Z 3) ++ (wR Y (ra 4) (rq 4) (Z 4) ++ wR Y (ra 5) (rq 5) (Z 5)))))))) H := hP
              have hD : va_D A (wH h sa (n - 1) ++ (wA Y sa 6 (va_up (va_up (va_up (va_up (va_up (va_up f (0 : Int32).toNatClampNeg (some (ra 1))) (1 : Int32).toNatClampNeg (some (ra 2))) (2 : Int32).toNatClampNeg (some (ra 3))) (3 : Int32).toNatClampNeg (some (ra 4))) (4 : Int32).toNatClampNeg (some (ra 5))) (5 : Int32).toNatClampNeg (some (ra 0))) ++ (wR Y (ra 0) (rq 0) (Z 0) ++ (wR Y (ra 1) (rq 1) (Z 1) ++ (wR Y (ra 2) (rq 2) (Z 2) ++ (wR Y (ra 3) (rq 3) (Z 3) ++ (wR Y (ra 4) (rq 4) (Z 4) ++ wR Y (ra 5) (rq 5) (Z 5)))))))) := hD
              obtain ⟨S_1, eS_1⟩ : ∃ z9, n - 1 = z9 := ⟨_, rfl⟩
              rw [eS_1] at hP hD
              subst eS_1
              have e9 : D_X0_dropOldest n f ra rq Z = ((n - 1), (va_up (va_up (va_up (va_up (va_up (va_up f (0 : Int32).toNatClampNeg (some (ra 1))) (1 : Int32).toNatClampNeg (some (ra 2))) (2 : Int32).toNatClampNeg (some (ra 3))) (3 : Int32).toNatClampNeg (some (ra 4))) (4 : Int32).toNatClampNeg (some (ra 5))) (5 : Int32).toNatClampNeg (some (ra 0)))) := by rw [D_X0_dropOldest]
              exact ret_v hx hb hr hlk hP hD hS dX0_dropOldest_52 ⟨Nat.zero_le _, Nat.zero_le _⟩ (by rw [e9])
            · exact absurd c_6 (by decide)
def D_X0_remember (u : HS) (S : Nat → Nat → Int32) : HS := if u.1 < 6 then (u.1 + 1, u.2.1, u.2.2.1, u.2.2.2.1, va_up u.2.2.2.2 u.1 (D_X2_copyFrom (u.2.2.2.2 u.1) S)) else (6, (D_X0_dropOldest 6 u.2.1 u.2.2.1 u.2.2.2.1 u.2.2.2.2).2, rot u.2.2.1, rot u.2.2.2.1, va_up (rot u.2.2.2.2) 5 (D_X2_copyFrom (u.2.2.2.2 0) S))
def D_X0_takeBackInto (u : HS) (S : Nat → Nat → Int32) : HS × (Nat → Nat → Int32) := if u.1 = 0 then (u, S) else ((u.1 - 1, u.2), D_X2_copyFrom S (u.2.2.2.2 (u.1 - 1)))
set_option maxRecDepth 100000 in
theorem in_X0_remember_0_RX0 : ∀ w ∈ u_ws RX0 TX0 2, w ∈ wsX0_remember := by decide +kernel
set_option maxHeartbeats 4000000 in
set_option maxRecDepth 100000 in
theorem c_X0_remember_0 (l : Launch) (D : va_G) (Y : YY) (sz : Nat) (sa : Nat) (q : Nat → Nat) (f : Nat → Option Nat) (ra : Nat → Nat) (rq : Nat → Nat → Nat) (Z : Nat → Nat → Nat → Int32) (S : Nat → Nat → Int32) (h : Nat) (r : Nat) (hf : ∀ k, k < 6 → f k = some (ra k)) : Met l yX0_remember wsX0_remember ({ frames := 4, cells := 0, slots := 0, locals := 150 } : Room) (va_Pc [.ref h, .ref r] (Pst D Y sz (wH h sa 0 ++ (wA Y sa 6 f ++ (wR Y (ra 0) (rq 0) (Z 0) ++ (wR Y (ra 1) (rq 1) (Z 1) ++ (wR Y (ra 2) (rq 2) (Z 2) ++ (wR Y (ra 3) (rq 3) (Z 3) ++ (wR Y (ra 4) (rq 4) (Z 4) ++ (wR Y (ra 5) (rq 5) (Z 5) ++ wR Y r q S)))))))))) ((fun A : Nat → Prop => Qsv D (fun w9 => w9 = wHi Y h sa (D_X0_remember (0, f, ra, rq, Z) S) ++ wR Y r q S) A) (va_A (wH h sa 0 ++ (wA Y sa 6 f ++ (wR Y (ra 0) (rq 0) (Z 0) ++ (wR Y (ra 1) (rq 1) (Z 1) ++ (wR Y (ra 2) (rq 2) (Z 2) ++ (wR Y (ra 3) (rq 3) (Z 3) ++ (wR Y (ra 4) (rq 4) (Z 4) ++ (wR Y (ra 5) (rq 5) (Z 5) ++ wR Y r q S)))))))) sz)) 0 0 (va_A (wH h sa 0 ++ (wA Y sa 6 f ++ (wR Y (ra 0) (rq 0) (Z 0) ++ (wR Y (ra 1) (rq 1) (Z 1) ++ (wR Y (ra 2) (rq 2) (Z 2) ++ (wR Y (ra 3) (rq 3) (Z 3) ++ (wR Y (ra 4) (rq 4) (Z 4) ++ (wR Y (ra 5) (rq 5) (Z 5) ++ wR Y r q S)))))))) sz) := by
  refine ct_in (cc := cX0_remember) (maxL := 2) (ret := none) (Qc := fun A : Nat → Prop => Qsv D (fun w9 => w9 = wHi Y h sa (D_X0_remember (0, f, ra, rq, Z) S) ++ wR Y r q S) A) (by decide +kernel) rfl (Nat.le_of_ble_eq_true rfl) ?_
  intro p e s m below meth c A ls hx hb hr hts hown hml hlk hin hsz hA hP hD hK hS hl
  have hown : s.vm.findClass RX0 = some m.cls := hown
  have hl : lv_has ls 2 [(0, .ref h), (1, .ref r)] := hl
  show W p l e ({ frames := 4, cells := 0, slots := 0, locals := 150 } : Room) s m ([.ref h, .ref r] : List Value).toArray below meth c s.heap [] 0 0 (MQ below (Qsv D (fun w9 => w9 = wHi Y h sa (D_X0_remember (0, f, ra, rq, Z) S) ++ wR Y r q S) A) ([.ref h, .ref r] : List Value).toArray s 0 0 A) (F0 m 0 ls [])
  refine lv_aload_n hx hb dX0_remember_0 rfl (lv_at hl 0 rfl) ?_
  refine va_get (D := D) (ci := 0) (v := .int 0) (C := RX0) (T := TX0) (N := 2) hx hb hts in_X0_remember_0_RX0 hown hK.1 hP 0 rfl rfl 1 (by decide) (hts (.fieldLink RX0 17 "NineDancers$History" "length" "I") (by decide +kernel)) (fun _ h9 => h9) rfl dX0_remember_1 ?_
  refine lv_bipush (v := 6) hx hb dX0_remember_4 (by decide) ?_
  refine lv_icmp_ne (tgt := 13) hx hb dX0_remember_6 (by decide) (fun c_1 => ?_) (fun c_1 => ?_)
  · refine lv_aload_n hx hb dX0_remember_13 rfl (lv_at hl 0 rfl) ?_
    refine va_get (D := D) (ci := 0) (v := .ref sa) (C := RX0) (T := TX0) (N := 2) hx hb hts in_X0_remember_0_RX0 hown hK.1 hP 0 rfl rfl 0 (by decide) (hts (.fieldLink RX0 11 "NineDancers$History" "states" "[LNineDancers$Ring;") (by decide +kernel)) (fun _ h9 => h9) rfl dX0_remember_14 ?_
    refine lv_aload_n hx hb dX0_remember_17 rfl (lv_at hl 0 rfl) ?_
    refine va_get (D := D) (ci := 0) (v := .int 0) (C := RX0) (T := TX0) (N := 2) hx hb hts in_X0_remember_0_RX0 hown hK.1 hP 0 rfl rfl 1 (by decide) (hts (.fieldLink RX0 17 "NineDancers$History" "length" "I") (by decide +kernel)) (fun _ h9 => h9) rfl dX0_remember_18 ?_
    refine my_aldq (D := D) hx hb hK.1 hP 1 2 rfl rfl (by unfold vp_in; decide) (v := .ref (ra 0)) (congrArg va_rf (hf 0 (by decide))) dX0_remember_21 ?_
    refine lv_aload_n hx hb dX0_remember_22 rfl (lv_at hl 1 rfl) ?_
    refine ck_vD (wr := wH h sa 0 ++ (wA Y sa 6 f ++ (wR Y (ra 1) (rq 1) (Z 1) ++ (wR Y (ra 2) (rq 2) (Z 2) ++ (wR Y (ra 3) (rq 3) (Z 3) ++ (wR Y (ra 4) (rq 4) (Z 4) ++ wR Y (ra 5) (rq 5) (Z 5))))))) (ws' := wH h sa 0 ++ (wA Y sa 6 f ++ (wR Y (ra 0) (rq 0) (D_X2_copyFrom (Z 0) S) ++ (wR Y (ra 1) (rq 1) (Z 1) ++ (wR Y (ra 2) (rq 2) (Z 2) ++ (wR Y (ra 3) (rq 3) (Z 3) ++ (wR Y (ra 4) (rq 4) (Z 4) ++ (wR Y (ra 5) (rq 5) (Z 5) ++ wR Y r q S)))))))) (va_runV (As := [.ref r]) (rest := []) ⟨hx, hb, hml, hown, hts⟩ (c_X2_copyFrom l D Y s.heap.size (rq 0) q (Z 0) S (ra 0) r) (cwV 1 hts gX0_remember_X2_copyFrom rfl rfl rfl (by decide +kernel) ⟨Nat.le_of_ble_eq_true rfl, Nat.le_of_ble_eq_true rfl⟩) (pst_V hK hP hD [2, 3, 4, 5, 6, 7, 8, 9, 10, 11, 12, 68, 69, 70, 71, 72, 73, 74, 75, 76, 77, 78] rfl (by decide) (q0 := 0) rfl rfl) rfl rfl hl.1 rfl (lv_room (Nat.le_of_ble_eq_true rfl)) dX0_remember_23 ⟨Nat.zero_le _, Nat.zero_le _⟩) hP hD hS hA [2, 3, 4, 5, 6, 7, 8, 9, 10, 11, 12, 68, 69, 70, 71, 72, 73, 74, 75, 76, 77, 78] [0, 1, 13, 14, 15, 16, 17, 18, 19, 20, 21, 22, 23, 24, 25, 26, 27, 28, 29, 30, 31, 32, 33, 34, 35, 36, 37, 38, 39, 40, 41, 42, 43, 44, 45, 46, 47, 48, 49, 50, 51, 52, 53, 54, 55, 56, 57, 58, 59, 60, 61, 62, 63, 64, 65, 66, 67] [0, 1, 57, 58, 59, 60, 61, 62, 63, 64, 65, 66, 67, 2, 3, 4, 5, 6, 7, 8, 9, 10, 11, 12, 13, 14, 15, 16, 17, 18, 19, 20, 21, 22, 23, 24, 25, 26, 27, 28, 29, 30, 31, 32, 33, 34, 35, 36, 37, 38, 39, 40, 41, 42, 43, 44, 45, 46, 47, 48, 49, 50, 51, 52, 53, 54, 55, 56, 68, 69, 70, 71, 72, 73, 74, 75, 76, 77, 78] rfl rfl (by decide) (by decide) rfl (by decide) (fun H locs hP hD hS => ?_)
    obtain ⟨S_1, eS_1⟩ : ∃ z9, (D_X2_copyFrom (Z 0) S) = z9 := ⟨_, rfl⟩
    rw [eS_1] at hP hD
    refine lv_aload_n hx hb dX0_remember_26 rfl (lv_at hl 0 rfl) ?_
    refine lv_dup hx hb dX0_remember_27 rfl ?_
    refine va_get (D := D) (ci := 0) (v := .int 0) (C := RX0) (T := TX0) (N := 2) hx hb hts in_X0_remember_0_RX0 hown hK.1 hP 0 rfl rfl 1 (by decide) (hts (.fieldLink RX0 17 "NineDancers$History" "length" "I") (by decide +kernel)) (fun _ h9 => h9) rfl dX0_remember_28 ?_
    refine lv_iconst (v := 1) hx hb dX0_remember_31 (by decide) ?_
    refine lv_iadd hx hb dX0_remember_32 ?_
    refine lv_topi (fun y9 e9 => ?_)
    obtain rfl : y9 = 1 := e9.trans (by decide)
    refine va_put (D := D) (ci := 0) (v := .int 1) (ty := .int) (C := RX0) (T := TX0) (N := 2) hx hb hts in_X0_remember_0_RX0 tyX0 tyX0_ok nmX0 hown hK.1 hP hD hS 0 rfl rfl 1 (by decide) (hts (.fieldLink RX0 17 "NineDancers$History" "length" "I") (by decide +kernel)) (fun _ h9 => h9) rfl (by decide +kernel) rfl rfl (Nat.le_of_ble_eq_true rfl) dX0_remember_33 (fun H locs hP hD hS => ?_)
    have hP : va_P D vwCl (wH h sa 1 ++ (wA Y sa 6 f ++ (wR Y (ra 0) (rq 0) S_1 ++ (wR Y (ra 1) (rq 1) (Z 1) ++ (wR Y (ra 2) (rq 2) (Z 2) ++ (wR Y (ra 3) (rq 3) (Z 3) ++ (wR Y (ra 4) (rq 4) (Z 4) ++ (wR Y (ra 5) (rq 5) (Z 5) ++ wR Y r q S)))))))) H := hP
    have hD : va_D A (wH h sa 1 ++ (wA Y sa 6 f ++ (wR Y (ra 0) (rq 0) S_1 ++ (wR Y (ra 1) (rq 1) (Z 1) ++ (wR Y (ra 2) (rq 2) (Z 2) ++ (wR Y (ra 3) (rq 3) (Z 3) ++ (wR Y (ra 4) (rq 4) (Z 4) ++ (wR Y (ra 5) (rq 5) (Z 5) ++ wR Y r q S)))))))) := hD
    subst eS_1
    have hP9 : va_P D vwCl (wHi Y h sa (D_X0_remember (0, f, ra, rq, Z) S) ++ wR Y r q S) H := hP
    have hD9 : va_D A (wHi Y h sa (D_X0_remember (0, f, ra, rq, Z) S) ++ wR Y r q S) := hD
    exact ret_v hx hb hr hlk hP9 hD9 hS dX0_remember_36 ⟨Nat.zero_le _, Nat.zero_le _⟩ rfl
  · exact absurd c_1 (by decide)
set_option maxRecDepth 100000 in
theorem in_X0_remember_1_RX0 : ∀ w ∈ u_ws RX0 TX0 2, w ∈ wsX0_remember := by decide +kernel
set_option maxHeartbeats 4000000 in
set_option maxRecDepth 100000 in
theorem c_X0_remember_1 (l : Launch) (D : va_G) (Y : YY) (sz : Nat) (sa : Nat) (q : Nat → Nat) (f : Nat → Option Nat) (ra : Nat → Nat) (rq : Nat → Nat → Nat) (Z : Nat → Nat → Nat → Int32) (S : Nat → Nat → Int32) (h : Nat) (r : Nat) (hf : ∀ k, k < 6 → f k = some (ra k)) : Met l yX0_remember wsX0_remember ({ frames := 4, cells := 0, slots := 0, locals := 150 } : Room) (va_Pc [.ref h, .ref r] (Pst D Y sz (wH h sa 1 ++ (wA Y sa 6 f ++ (wR Y (ra 0) (rq 0) (Z 0) ++ (wR Y (ra 1) (rq 1) (Z 1) ++ (wR Y (ra 2) (rq 2) (Z 2) ++ (wR Y (ra 3) (rq 3) (Z 3) ++ (wR Y (ra 4) (rq 4) (Z 4) ++ (wR Y (ra 5) (rq 5) (Z 5) ++ wR Y r q S)))))))))) ((fun A : Nat → Prop => Qsv D (fun w9 => w9 = wHi Y h sa (D_X0_remember (1, f, ra, rq, Z) S) ++ wR Y r q S) A) (va_A (wH h sa 1 ++ (wA Y sa 6 f ++ (wR Y (ra 0) (rq 0) (Z 0) ++ (wR Y (ra 1) (rq 1) (Z 1) ++ (wR Y (ra 2) (rq 2) (Z 2) ++ (wR Y (ra 3) (rq 3) (Z 3) ++ (wR Y (ra 4) (rq 4) (Z 4) ++ (wR Y (ra 5) (rq 5) (Z 5) ++ wR Y r q S)))))))) sz)) 0 0 (va_A (wH h sa 1 ++ (wA Y sa 6 f ++ (wR Y (ra 0) (rq 0) (Z 0) ++ (wR Y (ra 1) (rq 1) (Z 1) ++ (wR Y (ra 2) (rq 2) (Z 2) ++ (wR Y (ra 3) (rq 3) (Z 3) ++ (wR Y (ra 4) (rq 4) (Z 4) ++ (wR Y (ra 5) (rq 5) (Z 5) ++ wR Y r q S)))))))) sz) := by
  refine ct_in (cc := cX0_remember) (maxL := 2) (ret := none) (Qc := fun A : Nat → Prop => Qsv D (fun w9 => w9 = wHi Y h sa (D_X0_remember (1, f, ra, rq, Z) S) ++ wR Y r q S) A) (by decide +kernel) rfl (Nat.le_of_ble_eq_true rfl) ?_
  intro p e s m below meth c A ls hx hb hr hts hown hml hlk hin hsz hA hP hD hK hS hl
  have hown : s.vm.findClass RX0 = some m.cls := hown
  have hl : lv_has ls 2 [(0, .ref h), (1, .ref r)] := hl
  show W p l e ({ frames := 4, cells := 0, slots := 0, locals := 150 } : Room) s m ([.ref h, .ref r] : List Value).toArray below meth c s.heap [] 0 0 (MQ below (Qsv D (fun w9 => w9 = wHi Y h sa (D_X0_remember (1, f, ra, rq, Z) S) ++ wR Y r q S) A) ([.ref h, .ref r] : List Value).toArray s 0 0 A) (F0 m 0 ls [])
  refine lv_aload_n hx hb dX0_remember_0 rfl (lv_at hl 0 rfl) ?_
  refine va_get (D := D) (ci := 0) (v := .int 1) (C := RX0) (T := TX0) (N := 2) hx hb hts in_X0_remember_1_RX0 hown hK.1 hP 0 rfl rfl 1 (by decide) (hts (.fieldLink RX0 17 "NineDancers$History" "length" "I") (by decide +kernel)) (fun _ h9 => h9) rfl dX0_remember_1 ?_
  refine lv_bipush (v := 6) hx hb dX0_remember_4 (by decide) ?_
  refine lv_icmp_ne (tgt := 13) hx hb dX0_remember_6 (by decide) (fun c_1 => ?_) (fun c_1 => ?_)
  · refine lv_aload_n hx hb dX0_remember_13 rfl (lv_at hl 0 rfl) ?_
    refine va_get (D := D) (ci := 0) (v := .ref sa) (C := RX0) (T := TX0) (N := 2) hx hb hts in_X0_remember_1_RX0 hown hK.1 hP 0 rfl rfl 0 (by decide) (hts (.fieldLink RX0 11 "NineDancers$History" "states" "[LNineDancers$Ring;") (by decide +kernel)) (fun _ h9 => h9) rfl dX0_remember_14 ?_
    refine lv_aload_n hx hb dX0_remember_17 rfl (lv_at hl 0 rfl) ?_
    refine va_get (D := D) (ci := 0) (v := .int 1) (C := RX0) (T := TX0) (N := 2) hx hb hts in_X0_remember_1_RX0 hown hK.1 hP 0 rfl rfl 1 (by decide) (hts (.fieldLink RX0 17 "NineDancers$History" "length" "I") (by decide +kernel)) (fun _ h9 => h9) rfl dX0_remember_18 ?_
    refine my_aldq (D := D) hx hb hK.1 hP 1 2 rfl rfl (by unfold vp_in; decide) (v := .ref (ra 1)) (congrArg va_rf (hf 1 (by decide))) dX0_remember_21 ?_
    refine lv_aload_n hx hb dX0_remember_22 rfl (lv_at hl 1 rfl) ?_
    refine ck_vD (wr := wH h sa 1 ++ (wA Y sa 6 f ++ (wR Y (ra 0) (rq 0) (Z 0) ++ (wR Y (ra 2) (rq 2) (Z 2) ++ (wR Y (ra 3) (rq 3) (Z 3) ++ (wR Y (ra 4) (rq 4) (Z 4) ++ wR Y (ra 5) (rq 5) (Z 5))))))) (ws' := wH h sa 1 ++ (wA Y sa 6 f ++ (wR Y (ra 0) (rq 0) (Z 0) ++ (wR Y (ra 1) (rq 1) (D_X2_copyFrom (Z 1) S) ++ (wR Y (ra 2) (rq 2) (Z 2) ++ (wR Y (ra 3) (rq 3) (Z 3) ++ (wR Y (ra 4) (rq 4) (Z 4) ++ (wR Y (ra 5) (rq 5) (Z 5) ++ wR Y r q S)))))))) (va_runV (As := [.ref r]) (rest := []) ⟨hx, hb, hml, hown, hts⟩ (c_X2_copyFrom l D Y s.heap.size (rq 1) q (Z 1) S (ra 1) r) (cwV 1 hts gX0_remember_X2_copyFrom rfl rfl rfl (by decide +kernel) ⟨Nat.le_of_ble_eq_true rfl, Nat.le_of_ble_eq_true rfl⟩) (pst_V hK hP hD [13, 14, 15, 16, 17, 18, 19, 20, 21, 22, 23, 68, 69, 70, 71, 72, 73, 74, 75, 76, 77, 78] rfl (by decide) (q0 := 0) rfl rfl) rfl rfl hl.1 rfl (lv_room (Nat.le_of_ble_eq_true rfl)) dX0_remember_23 ⟨Nat.zero_le _, Nat.zero_le _⟩) hP hD hS hA [13, 14, 15, 16, 17, 18, 19, 20, 21, 22, 23, 68, 69, 70, 71, 72, 73, 74, 75, 76, 77, 78] [0, 1, 2, 3, 4, 5, 6, 7, 8, 9, 10, 11, 12, 24, 25, 26, 27, 28, 29, 30, 31, 32, 33, 34, 35, 36, 37, 38, 39, 40, 41, 42, 43, 44, 45, 46, 47, 48, 49, 50, 51, 52, 53, 54, 55, 56, 57, 58, 59, 60, 61, 62, 63, 64, 65, 66, 67] [0, 1, 2, 3, 4, 5, 6, 7, 8, 9, 10, 11, 12, 57, 58, 59, 60, 61, 62, 63, 64, 65, 66, 67, 13, 14, 15, 16, 17, 18, 19, 20, 21, 22, 23, 24, 25, 26, 27, 28, 29, 30, 31, 32, 33, 34, 35, 36, 37, 38, 39, 40, 41, 42, 43, 44, 45, 46, 47, 48, 49, 50, 51, 52, 53, 54, 55, 56, 68, 69, 70, 71, 72, 73, 74, 75, 76, 77, 78] rfl rfl (by decide) (by decide) rfl (by decide) (fun H locs hP hD hS => ?_)
    obtain ⟨S_1, eS_1⟩ : ∃ z9, (D_X2_copyFrom (Z 1) S) = z9 := ⟨_, rfl⟩
    rw [eS_1] at hP hD
    refine lv_aload_n hx hb dX0_remember_26 rfl (lv_at hl 0 rfl) ?_
    refine lv_dup hx hb dX0_remember_27 rfl ?_
    refine va_get (D := D) (ci := 0) (v := .int 1) (C := RX0) (T := TX0) (N := 2) hx hb hts in_X0_remember_1_RX0 hown hK.1 hP 0 rfl rfl 1 (by decide) (hts (.fieldLink RX0 17 "NineDancers$History" "length" "I") (by decide +kernel)) (fun _ h9 => h9) rfl dX0_remember_28 ?_
    refine lv_iconst (v := 1) hx hb dX0_remember_31 (by decide) ?_
    refine lv_iadd hx hb dX0_remember_32 ?_
    refine lv_topi (fun y9 e9 => ?_)
    obtain rfl : y9 = 2 := e9.trans (by decide)
    refine va_put (D := D) (ci := 0) (v := .int 2) (ty := .int) (C := RX0) (T := TX0) (N := 2) hx hb hts in_X0_remember_1_RX0 tyX0 tyX0_ok nmX0 hown hK.1 hP hD hS 0 rfl rfl 1 (by decide) (hts (.fieldLink RX0 17 "NineDancers$History" "length" "I") (by decide +kernel)) (fun _ h9 => h9) rfl (by decide +kernel) rfl rfl (Nat.le_of_ble_eq_true rfl) dX0_remember_33 (fun H locs hP hD hS => ?_)
    have hP : va_P D vwCl (wH h sa 2 ++ (wA Y sa 6 f ++ (wR Y (ra 0) (rq 0) (Z 0) ++ (wR Y (ra 1) (rq 1) S_1 ++ (wR Y (ra 2) (rq 2) (Z 2) ++ (wR Y (ra 3) (rq 3) (Z 3) ++ (wR Y (ra 4) (rq 4) (Z 4) ++ (wR Y (ra 5) (rq 5) (Z 5) ++ wR Y r q S)))))))) H := hP
    have hD : va_D A (wH h sa 2 ++ (wA Y sa 6 f ++ (wR Y (ra 0) (rq 0) (Z 0) ++ (wR Y (ra 1) (rq 1) S_1 ++ (wR Y (ra 2) (rq 2) (Z 2) ++ (wR Y (ra 3) (rq 3) (Z 3) ++ (wR Y (ra 4) (rq 4) (Z 4) ++ (wR Y (ra 5) (rq 5) (Z 5) ++ wR Y r q S)))))))) := hD
    subst eS_1
    have hP9 : va_P D vwCl (wHi Y h sa (D_X0_remember (1, f, ra, rq, Z) S) ++ wR Y r q S) H := hP
    have hD9 : va_D A (wHi Y h sa (D_X0_remember (1, f, ra, rq, Z) S) ++ wR Y r q S) := hD
    exact ret_v hx hb hr hlk hP9 hD9 hS dX0_remember_36 ⟨Nat.zero_le _, Nat.zero_le _⟩ rfl
  · exact absurd c_1 (by decide)
set_option maxRecDepth 100000 in
theorem in_X0_remember_2_RX0 : ∀ w ∈ u_ws RX0 TX0 2, w ∈ wsX0_remember := by decide +kernel
set_option maxHeartbeats 4000000 in
set_option maxRecDepth 100000 in
theorem c_X0_remember_2 (l : Launch) (D : va_G) (Y : YY) (sz : Nat) (sa : Nat) (q : Nat → Nat) (f : Nat → Option Nat) (ra : Nat → Nat) (rq : Nat → Nat → Nat) (Z : Nat → Nat → Nat → Int32) (S : Nat → Nat → Int32) (h : Nat) (r : Nat) (hf : ∀ k, k < 6 → f k = some (ra k)) : Met l yX0_remember wsX0_remember ({ frames := 4, cells := 0, slots := 0, locals := 150 } : Room) (va_Pc [.ref h, .ref r] (Pst D Y sz (wH h sa 2 ++ (wA Y sa 6 f ++ (wR Y (ra 0) (rq 0) (Z 0) ++ (wR Y (ra 1) (rq 1) (Z 1) ++ (wR Y (ra 2) (rq 2) (Z 2) ++ (wR Y (ra 3) (rq 3) (Z 3) ++ (wR Y (ra 4) (rq 4) (Z 4) ++ (wR Y (ra 5) (rq 5) (Z 5) ++ wR Y r q S)))))))))) ((fun A : Nat → Prop => Qsv D (fun w9 => w9 = wHi Y h sa (D_X0_remember (2, f, ra, rq, Z) S) ++ wR Y r q S) A) (va_A (wH h sa 2 ++ (wA Y sa 6 f ++ (wR Y (ra 0) (rq 0) (Z 0) ++ (wR Y (ra 1) (rq 1) (Z 1) ++ (wR Y (ra 2) (rq 2) (Z 2) ++ (wR Y (ra 3) (rq 3) (Z 3) ++ (wR Y (ra 4) (rq 4) (Z 4) ++ (wR Y (ra 5) (rq 5) (Z 5) ++ wR Y r q S)))))))) sz)) 0 0 (va_A (wH h sa 2 ++ (wA Y sa 6 f ++ (wR Y (ra 0) (rq 0) (Z 0) ++ (wR Y (ra 1) (rq 1) (Z 1) ++ (wR Y (ra 2) (rq 2) (Z 2) ++ (wR Y (ra 3) (rq 3) (Z 3) ++ (wR Y (ra 4) (rq 4) (Z 4) ++ (wR Y (ra 5) (rq 5) (Z 5) ++ wR Y r q S)))))))) sz) := by
  refine ct_in (cc := cX0_remember) (maxL := 2) (ret := none) (Qc := fun A : Nat → Prop => Qsv D (fun w9 => w9 = wHi Y h sa (D_X0_remember (2, f, ra, rq, Z) S) ++ wR Y r q S) A) (by decide +kernel) rfl (Nat.le_of_ble_eq_true rfl) ?_
  intro p e s m below meth c A ls hx hb hr hts hown hml hlk hin hsz hA hP hD hK hS hl
  have hown : s.vm.findClass RX0 = some m.cls := hown
  have hl : lv_has ls 2 [(0, .ref h), (1, .ref r)] := hl
  show W p l e ({ frames := 4, cells := 0, slots := 0, locals := 150 } : Room) s m ([.ref h, .ref r] : List Value).toArray below meth c s.heap [] 0 0 (MQ below (Qsv D (fun w9 => w9 = wHi Y h sa (D_X0_remember (2, f, ra, rq, Z) S) ++ wR Y r q S) A) ([.ref h, .ref r] : List Value).toArray s 0 0 A) (F0 m 0 ls [])
  refine lv_aload_n hx hb dX0_remember_0 rfl (lv_at hl 0 rfl) ?_
  refine va_get (D := D) (ci := 0) (v := .int 2) (C := RX0) (T := TX0) (N := 2) hx hb hts in_X0_remember_2_RX0 hown hK.1 hP 0 rfl rfl 1 (by decide) (hts (.fieldLink RX0 17 "NineDancers$History" "length" "I") (by decide +kernel)) (fun _ h9 => h9) rfl dX0_remember_1 ?_
  refine lv_bipush (v := 6) hx hb dX0_remember_4 (by decide) ?_
  refine lv_icmp_ne (tgt := 13) hx hb dX0_remember_6 (by decide) (fun c_1 => ?_) (fun c_1 => ?_)
  · refine lv_aload_n hx hb dX0_remember_13 rfl (lv_at hl 0 rfl) ?_
    refine va_get (D := D) (ci := 0) (v := .ref sa) (C := RX0) (T := TX0) (N := 2) hx hb hts in_X0_remember_2_RX0 hown hK.1 hP 0 rfl rfl 0 (by decide) (hts (.fieldLink RX0 11 "NineDancers$History" "states" "[LNineDancers$Ring;") (by decide +kernel)) (fun _ h9 => h9) rfl dX0_remember_14 ?_
    refine lv_aload_n hx hb dX0_remember_17 rfl (lv_at hl 0 rfl) ?_
    refine va_get (D := D) (ci := 0) (v := .int 2) (C := RX0) (T := TX0) (N := 2) hx hb hts in_X0_remember_2_RX0 hown hK.1 hP 0 rfl rfl 1 (by decide) (hts (.fieldLink RX0 17 "NineDancers$History" "length" "I") (by decide +kernel)) (fun _ h9 => h9) rfl dX0_remember_18 ?_
    refine my_aldq (D := D) hx hb hK.1 hP 1 2 rfl rfl (by unfold vp_in; decide) (v := .ref (ra 2)) (congrArg va_rf (hf 2 (by decide))) dX0_remember_21 ?_
    refine lv_aload_n hx hb dX0_remember_22 rfl (lv_at hl 1 rfl) ?_
    refine ck_vD (wr := wH h sa 2 ++ (wA Y sa 6 f ++ (wR Y (ra 0) (rq 0) (Z 0) ++ (wR Y (ra 1) (rq 1) (Z 1) ++ (wR Y (ra 3) (rq 3) (Z 3) ++ (wR Y (ra 4) (rq 4) (Z 4) ++ wR Y (ra 5) (rq 5) (Z 5))))))) (ws' := wH h sa 2 ++ (wA Y sa 6 f ++ (wR Y (ra 0) (rq 0) (Z 0) ++ (wR Y (ra 1) (rq 1) (Z 1) ++ (wR Y (ra 2) (rq 2) (D_X2_copyFrom (Z 2) S) ++ (wR Y (ra 3) (rq 3) (Z 3) ++ (wR Y (ra 4) (rq 4) (Z 4) ++ (wR Y (ra 5) (rq 5) (Z 5) ++ wR Y r q S)))))))) (va_runV (As := [.ref r]) (rest := []) ⟨hx, hb, hml, hown, hts⟩ (c_X2_copyFrom l D Y s.heap.size (rq 2) q (Z 2) S (ra 2) r) (cwV 1 hts gX0_remember_X2_copyFrom rfl rfl rfl (by decide +kernel) ⟨Nat.le_of_ble_eq_true rfl, Nat.le_of_ble_eq_true rfl⟩) (pst_V hK hP hD [24, 25, 26, 27, 28, 29, 30, 31, 32, 33, 34, 68, 69, 70, 71, 72, 73, 74, 75, 76, 77, 78] rfl (by decide) (q0 := 0) rfl rfl) rfl rfl hl.1 rfl (lv_room (Nat.le_of_ble_eq_true rfl)) dX0_remember_23 ⟨Nat.zero_le _, Nat.zero_le _⟩) hP hD hS hA [24, 25, 26, 27, 28, 29, 30, 31, 32, 33, 34, 68, 69, 70, 71, 72, 73, 74, 75, 76, 77, 78] [0, 1, 2, 3, 4, 5, 6, 7, 8, 9, 10, 11, 12, 13, 14, 15, 16, 17, 18, 19, 20, 21, 22, 23, 35, 36, 37, 38, 39, 40, 41, 42, 43, 44, 45, 46, 47, 48, 49, 50, 51, 52, 53, 54, 55, 56, 57, 58, 59, 60, 61, 62, 63, 64, 65, 66, 67] [0, 1, 2, 3, 4, 5, 6, 7, 8, 9, 10, 11, 12, 13, 14, 15, 16, 17, 18, 19, 20, 21, 22, 23, 57, 58, 59, 60, 61, 62, 63, 64, 65, 66, 67, 24, 25, 26, 27, 28, 29, 30, 31, 32, 33, 34, 35, 36, 37, 38, 39, 40, 41, 42, 43, 44, 45, 46, 47, 48, 49, 50, 51, 52, 53, 54, 55, 56, 68, 69, 70, 71, 72, 73, 74, 75, 76, 77, 78] rfl rfl (by decide) (by decide) rfl (by decide) (fun H locs hP hD hS => ?_)
    obtain ⟨S_1, eS_1⟩ : ∃ z9, (D_X2_copyFrom (Z 2) S) = z9 := ⟨_, rfl⟩
    rw [eS_1] at hP hD
    refine lv_aload_n hx hb dX0_remember_26 rfl (lv_at hl 0 rfl) ?_
    refine lv_dup hx hb dX0_remember_27 rfl ?_
    refine va_get (D := D) (ci := 0) (v := .int 2) (C := RX0) (T := TX0) (N := 2) hx hb hts in_X0_remember_2_RX0 hown hK.1 hP 0 rfl rfl 1 (by decide) (hts (.fieldLink RX0 17 "NineDancers$History" "length" "I") (by decide +kernel)) (fun _ h9 => h9) rfl dX0_remember_28 ?_
    refine lv_iconst (v := 1) hx hb dX0_remember_31 (by decide) ?_
    refine lv_iadd hx hb dX0_remember_32 ?_
    refine lv_topi (fun y9 e9 => ?_)
    obtain rfl : y9 = 3 := e9.trans (by decide)
    refine va_put (D := D) (ci := 0) (v := .int 3) (ty := .int) (C := RX0) (T := TX0) (N := 2) hx hb hts in_X0_remember_2_RX0 tyX0 tyX0_ok nmX0 hown hK.1 hP hD hS 0 rfl rfl 1 (by decide) (hts (.fieldLink RX0 17 "NineDancers$History" "length" "I") (by decide +kernel)) (fun _ h9 => h9) rfl (by decide +kernel) rfl rfl (Nat.le_of_ble_eq_true rfl) dX0_remember_33 (fun H locs hP hD hS => ?_)
    have hP : va_P D vwCl (wH h sa 3 ++ (wA Y sa 6 f ++ (wR Y (ra 0) (rq 0) (Z 0) ++ (wR Y (ra 1) (rq 1) (Z 1) ++ (wR Y (ra 2) (rq 2) S_1 ++ (wR Y (ra 3) (rq 3) (Z 3) ++ (wR Y (ra 4) (rq 4) (Z 4) ++ (wR Y (ra 5) (rq 5) (Z 5) ++ wR Y r q S)))))))) H := hP
    have hD : va_D A (wH h sa 3 ++ (wA Y sa 6 f ++ (wR Y (ra 0) (rq 0) (Z 0) ++ (wR Y (ra 1) (rq 1) (Z 1) ++ (wR Y (ra 2) (rq 2) S_1 ++ (wR Y (ra 3) (rq 3) (Z 3) ++ (wR Y (ra 4) (rq 4) (Z 4) ++ (wR Y (ra 5) (rq 5) (Z 5) ++ wR Y r q S)))))))) := hD
    subst eS_1
    have hP9 : va_P D vwCl (wHi Y h sa (D_X0_remember (2, f, ra, rq, Z) S) ++ wR Y r q S) H := hP
    have hD9 : va_D A (wHi Y h sa (D_X0_remember (2, f, ra, rq, Z) S) ++ wR Y r q S) := hD
    exact ret_v hx hb hr hlk hP9 hD9 hS dX0_remember_36 ⟨Nat.zero_le _, Nat.zero_le _⟩ rfl
  · exact absurd c_1 (by decide)
set_option maxRecDepth 100000 in
theorem in_X0_remember_3_RX0 : ∀ w ∈ u_ws RX0 TX0 2, w ∈ wsX0_remember := by decide +kernel
set_option maxHeartbeats 4000000 in
set_option maxRecDepth 100000 in
theorem c_X0_remember_3 (l : Launch) (D : va_G) (Y : YY) (sz : Nat) (sa : Nat) (q : Nat → Nat) (f : Nat → Option Nat) (ra : Nat → Nat) (rq : Nat → Nat → Nat) (Z : Nat → Nat → Nat → Int32) (S : Nat → Nat → Int32) (h : Nat) (r : Nat) (hf : ∀ k, k < 6 → f k = some (ra k)) : Met l yX0_remember wsX0_remember ({ frames := 4, cells := 0, slots := 0, locals := 150 } : Room) (va_Pc [.ref h, .ref r] (Pst D Y sz (wH h sa 3 ++ (wA Y sa 6 f ++ (wR Y (ra 0) (rq 0) (Z 0) ++ (wR Y (ra 1) (rq 1) (Z 1) ++ (wR Y (ra 2) (rq 2) (Z 2) ++ (wR Y (ra 3) (rq 3) (Z 3) ++ (wR Y (ra 4) (rq 4) (Z 4) ++ (wR Y (ra 5) (rq 5) (Z 5) ++ wR Y r q S)))))))))) ((fun A : Nat → Prop => Qsv D (fun w9 => w9 = wHi Y h sa (D_X0_remember (3, f, ra, rq, Z) S) ++ wR Y r q S) A) (va_A (wH h sa 3 ++ (wA Y sa 6 f ++ (wR Y (ra 0) (rq 0) (Z 0) ++ (wR Y (ra 1) (rq 1) (Z 1) ++ (wR Y (ra 2) (rq 2) (Z 2) ++ (wR Y (ra 3) (rq 3) (Z 3) ++ (wR Y (ra 4) (rq 4) (Z 4) ++ (wR Y (ra 5) (rq 5) (Z 5) ++ wR Y r q S)))))))) sz)) 0 0 (va_A (wH h sa 3 ++ (wA Y sa 6 f ++ (wR Y (ra 0) (rq 0) (Z 0) ++ (wR Y (ra 1) (rq 1) (Z 1) ++ (wR Y (ra 2) (rq 2) (Z 2) ++ (wR Y (ra 3) (rq 3) (Z 3) ++ (wR Y (ra 4) (rq 4) (Z 4) ++ (wR Y (ra 5) (rq 5) (Z 5) ++ wR Y r q S)))))))) sz) := by
  refine ct_in (cc := cX0_remember) (maxL := 2) (ret := none) (Qc := fun A : Nat → Prop => Qsv D (fun w9 => w9 = wHi Y h sa (D_X0_remember (3, f, ra, rq, Z) S) ++ wR Y r q S) A) (by decide +kernel) rfl (Nat.le_of_ble_eq_true rfl) ?_
  intro p e s m below meth c A ls hx hb hr hts hown hml hlk hin hsz hA hP hD hK hS hl
  have hown : s.vm.findClass RX0 = some m.cls := hown
  have hl : lv_has ls 2 [(0, .ref h), (1, .ref r)] := hl
  show W p l e ({ frames := 4, cells := 0, slots := 0, locals := 150 } : Room) s m ([.ref h, .ref r] : List Value).toArray below meth c s.heap [] 0 0 (MQ below (Qsv D (fun w9 => w9 = wHi Y h sa (D_X0_remember (3, f, ra, rq, Z) S) ++ wR Y r q S) A) ([.ref h, .ref r] : List Value).toArray s 0 0 A) (F0 m 0 ls [])
  refine lv_aload_n hx hb dX0_remember_0 rfl (lv_at hl 0 rfl) ?_
  refine va_get (D := D) (ci := 0) (v := .int 3) (C := RX0) (T := TX0) (N := 2) hx hb hts in_X0_remember_3_RX0 hown hK.1 hP 0 rfl rfl 1 (by decide) (hts (.fieldLink RX0 17 "NineDancers$History" "length" "I") (by decide +kernel)) (fun _ h9 => h9) rfl dX0_remember_1 ?_
  refine lv_bipush (v := 6) hx hb dX0_remember_4 (by decide) ?_
  refine lv_icmp_ne (tgt := 13) hx hb dX0_remember_6 (by decide) (fun c_1 => ?_) (fun c_1 => ?_)
  · refine lv_aload_n hx hb dX0_remember_13 rfl (lv_at hl 0 rfl) ?_
    refine va_get (D := D) (ci := 0) (v := .ref sa) (C := RX0) (T := TX0) (N := 2) hx hb hts in_X0_remember_3_RX0 hown hK.1 hP 0 rfl rfl 0 (by decide) (hts (.fieldLink RX0 11 "NineDancers$History" "states" "[LNineDancers$Ring;") (by decide +kernel)) (fun _ h9 => h9) rfl dX0_remember_14 ?_
    refine lv_aload_n hx hb dX0_remember_17 rfl (lv_at hl 0 rfl) ?_
    refine va_get (D := D) (ci := 0) (v := .int 3) (C := RX0) (T := TX0) (N := 2) hx hb hts in_X0_remember_3_RX0 hown hK.1 hP 0 rfl rfl 1 (by decide) (hts (.fieldLink RX0 17 "NineDancers$History" "length" "I") (by decide +kernel)) (fun _ h9 => h9) rfl dX0_remember_18 ?_
    refine my_aldq (D := D) hx hb hK.1 hP 1 2 rfl rfl (by unfold vp_in; decide) (v := .ref (ra 3)) (congrArg va_rf (hf 3 (by decide))) dX0_remember_21 ?_
    refine lv_aload_n hx hb dX0_remember_22 rfl (lv_at hl 1 rfl) ?_
    refine ck_vD (wr := wH h sa 3 ++ (wA Y sa 6 f ++ (wR Y (ra 0) (rq 0) (Z 0) ++ (wR Y (ra 1) (rq 1) (Z 1) ++ (wR Y (ra 2) (rq 2) (Z 2) ++ (wR Y (ra 4) (rq 4) (Z 4) ++ wR Y (ra 5) (rq 5) (Z 5))))))) (ws' := wH h sa 3 ++ (wA Y sa 6 f ++ (wR Y (ra 0) (rq 0) (Z 0) ++ (wR Y (ra 1) (rq 1) (Z 1) ++ (wR Y (ra 2) (rq 2) (Z 2) ++ (wR Y (ra 3) (rq 3) (D_X2_copyFrom (Z 3) S) ++ (wR Y (ra 4) (rq 4) (Z 4) ++ (wR Y (ra 5) (rq 5) (Z 5) ++ wR Y r q S)))))))) (va_runV (As := [.ref r]) (rest := []) ⟨hx, hb, hml, hown, hts⟩ (c_X2_copyFrom l D Y s.heap.size (rq 3) q (Z 3) S (ra 3) r) (cwV 1 hts gX0_remember_X2_copyFrom rfl rfl rfl (by decide +kernel) ⟨Nat.le_of_ble_eq_true rfl, Nat.le_of_ble_eq_true rfl⟩) (pst_V hK hP hD [35, 36, 37, 38, 39, 40, 41, 42, 43, 44, 45, 68, 69, 70, 71, 72, 73, 74, 75, 76, 77, 78] rfl (by decide) (q0 := 0) rfl rfl) rfl rfl hl.1 rfl (lv_room (Nat.le_of_ble_eq_true rfl)) dX0_remember_23 ⟨Nat.zero_le _, Nat.zero_le _⟩) hP hD hS hA [35, 36, 37, 38, 39, 40, 41, 42, 43, 44, 45, 68, 69, 70, 71, 72, 73, 74, 75, 76, 77, 78] [0, 1, 2, 3, 4, 5, 6, 7, 8, 9, 10, 11, 12, 13, 14, 15, 16, 17, 18, 19, 20, 21, 22, 23, 24, 25, 26, 27, 28, 29, 30, 31, 32, 33, 34, 46, 47, 48, 49, 50, 51, 52, 53, 54, 55, 56, 57, 58, 59, 60, 61, 62, 63, 64, 65, 66, 67] [0, 1, 2, 3, 4, 5, 6, 7, 8, 9, 10, 11, 12, 13, 14, 15, 16, 17, 18, 19, 20, 21, 22, 23, 24, 25, 26, 27, 28, 29, 30, 31, 32, 33, 34, 57, 58, 59, 60, 61, 62, 63, 64, 65, 66, 67, 35, 36, 37, 38, 39, 40, 41, 42, 43, 44, 45, 46, 47, 48, 49, 50, 51, 52, 53, 54, 55, 56, 68, 69, 70, 71, 72, 73, 74, 75, 76, 77, 78] rfl rfl (by decide) (by decide) rfl (by decide) (fun H locs hP hD hS => ?_)
    obtain ⟨S_1, eS_1⟩ : ∃ z9, (D_X2_copyFrom (Z 3) S) = z9 := ⟨_, rfl⟩
    rw [eS_1] at hP hD
    refine lv_aload_n hx hb dX0_remember_26 rfl (lv_at hl 0 rfl) ?_
    refine lv_dup hx hb dX0_remember_27 rfl ?_
    refine va_get (D := D) (ci := 0) (v := .int 3) (C := RX0) (T := TX0) (N := 2) hx hb hts in_X0_remember_3_RX0 hown hK.1 hP 0 rfl rfl 1 (by decide) (hts (.fieldLink RX0 17 "NineDancers$History" "length" "I") (by decide +kernel)) (fun _ h9 => h9) rfl dX0_remember_28 ?_
    refine lv_iconst (v := 1) hx hb dX0_remember_31 (by decide) ?_
    refine lv_iadd hx hb dX0_remember_32 ?_
    refine lv_topi (fun y9 e9 => ?_)
    obtain rfl : y9 = 4 := e9.trans (by decide)
    refine va_put (D := D) (ci := 0) (v := .int 4) (ty := .int) (C := RX0) (T := TX0) (N := 2) hx hb hts in_X0_remember_3_RX0 tyX0 tyX0_ok nmX0 hown hK.1 hP hD hS 0 rfl rfl 1 (by decide) (hts (.fieldLink RX0 17 "NineDancers$History" "length" "I") (by decide +kernel)) (fun _ h9 => h9) rfl (by decide +kernel) rfl rfl (Nat.le_of_ble_eq_true rfl) dX0_remember_33 (fun H locs hP hD hS => ?_)
    have hP : va_P D vwCl (wH h sa 4 ++ (wA Y sa 6 f ++ (wR Y (ra 0) (rq 0) (Z 0) ++ (wR Y (ra 1) (rq 1) (Z 1) ++ (wR Y (ra 2) (rq 2) (Z 2) ++ (wR Y (ra 3) (rq 3) S_1 ++ (wR Y (ra 4) (rq 4) (Z 4) ++ (wR Y (ra 5) (rq 5) (Z 5) ++ wR Y r q S)))))))) H := hP
    have hD : va_D A (wH h sa 4 ++ (wA Y sa 6 f ++ (wR Y (ra 0) (rq 0) (Z 0) ++ (wR Y (ra 1) (rq 1) (Z 1) ++ (wR Y (ra 2) (rq 2) (Z 2) ++ (wR Y (ra 3) (rq 3) S_1 ++ (wR Y (ra 4) (rq 4) (Z 4) ++ (wR Y (ra 5) (rq 5) (Z 5) ++ wR Y r q S)))))))) := hD
    subst eS_1
    have hP9 : va_P D vwCl (wHi Y h sa (D_X0_remember (3, f, ra, rq, Z) S) ++ wR Y r q S) H := hP
    have hD9 : va_D A (wHi Y h sa (D_X0_remember (3, f, ra, rq, Z) S) ++ wR Y r q S) := hD
    exact ret_v hx hb hr hlk hP9 hD9 hS dX0_remember_36 ⟨Nat.zero_le _, Nat.zero_le _⟩ rfl
  · exact absurd c_1 (by decide)
set_option maxRecDepth 100000 in
theorem in_X0_remember_4_RX0 : ∀ w ∈ u_ws RX0 TX0 2, w ∈ wsX0_remember := by decide +kernel
set_option maxHeartbeats 4000000 in
set_option maxRecDepth 100000 in
theorem c_X0_remember_4 (l : Launch) (D : va_G) (Y : YY) (sz : Nat) (sa : Nat) (q : Nat → Nat) (f : Nat → Option Nat) (ra : Nat → Nat) (rq : Nat → Nat → Nat) (Z : Nat → Nat → Nat → Int32) (S : Nat → Nat → Int32) (h : Nat) (r : Nat) (hf : ∀ k, k < 6 → f k = some (ra k)) : Met l yX0_remember wsX0_remember ({ frames := 4, cells := 0, slots := 0, locals := 150 } : Room) (va_Pc [.ref h, .ref r] (Pst D Y sz (wH h sa 4 ++ (wA Y sa 6 f ++ (wR Y (ra 0) (rq 0) (Z 0) ++ (wR Y (ra 1) (rq 1) (Z 1) ++ (wR Y (ra 2) (rq 2) (Z 2) ++ (wR Y (ra 3) (rq 3) (Z 3) ++ (wR Y (ra 4) (rq 4) (Z 4) ++ (wR Y (ra 5) (rq 5) (Z 5) ++ wR Y r q S)))))))))) ((fun A : Nat → Prop => Qsv D (fun w9 => w9 = wHi Y h sa (D_X0_remember (4, f, ra, rq, Z) S) ++ wR Y r q S) A) (va_A (wH h sa 4 ++ (wA Y sa 6 f ++ (wR Y (ra 0) (rq 0) (Z 0) ++ (wR Y (ra 1) (rq 1) (Z 1) ++ (wR Y (ra 2) (rq 2) (Z 2) ++ (wR Y (ra 3) (rq 3) (Z 3) ++ (wR Y (ra 4) (rq 4) (Z 4) ++ (wR Y (ra 5) (rq 5) (Z 5) ++ wR Y r q S)))))))) sz)) 0 0 (va_A (wH h sa 4 ++ (wA Y sa 6 f ++ (wR Y (ra 0) (rq 0) (Z 0) ++ (wR Y (ra 1) (rq 1) (Z 1) ++ (wR Y (ra 2) (rq 2) (Z 2) ++ (wR Y (ra 3) (rq 3) (Z 3) ++ (wR Y (ra 4) (rq 4) (Z 4) ++ (wR Y (ra 5) (rq 5) (Z 5) ++ wR Y r q S)))))))) sz) := by
  refine ct_in (cc := cX0_remember) (maxL := 2) (ret := none) (Qc := fun A : Nat → Prop => Qsv D (fun w9 => w9 = wHi Y h sa (D_X0_remember (4, f, ra, rq, Z) S) ++ wR Y r q S) A) (by decide +kernel) rfl (Nat.le_of_ble_eq_true rfl) ?_
  intro p e s m below meth c A ls hx hb hr hts hown hml hlk hin hsz hA hP hD hK hS hl
  have hown : s.vm.findClass RX0 = some m.cls := hown
  have hl : lv_has ls 2 [(0, .ref h), (1, .ref r)] := hl
  show W p l e ({ frames := 4, cells := 0, slots := 0, locals := 150 } : Room) s m ([.ref h, .ref r] : List Value).toArray below meth c s.heap [] 0 0 (MQ below (Qsv D (fun w9 => w9 = wHi Y h sa (D_X0_remember (4, f, ra, rq, Z) S) ++ wR Y r q S) A) ([.ref h, .ref r] : List Value).toArray s 0 0 A) (F0 m 0 ls [])
  refine lv_aload_n hx hb dX0_remember_0 rfl (lv_at hl 0 rfl) ?_
  refine va_get (D := D) (ci := 0) (v := .int 4) (C := RX0) (T := TX0) (N := 2) hx hb hts in_X0_remember_4_RX0 hown hK.1 hP 0 rfl rfl 1 (by decide) (hts (.fieldLink RX0 17 "NineDancers$History" "length" "I") (by decide +kernel)) (fun _ h9 => h9) rfl dX0_remember_1 ?_
  refine lv_bipush (v := 6) hx hb dX0_remember_4 (by decide) ?_
  refine lv_icmp_ne (tgt := 13) hx hb dX0_remember_6 (by decide) (fun c_1 => ?_) (fun c_1 => ?_)
  · refine lv_aload_n hx hb dX0_remember_13 rfl (lv_at hl 0 rfl) ?_
    refine va_get (D := D) (ci := 0) (v := .ref sa) (C := RX0) (T := TX0) (N := 2) hx hb hts in_X0_remember_4_RX0 hown hK.1 hP 0 rfl rfl 0 (by decide) (hts (.fieldLink RX0 11 "NineDancers$History" "states" "[LNineDancers$Ring;") (by decide +kernel)) (fun _ h9 => h9) rfl dX0_remember_14 ?_
    refine lv_aload_n hx hb dX0_remember_17 rfl (lv_at hl 0 rfl) ?_
    refine va_get (D := D) (ci := 0) (v := .int 4) (C := RX0) (T := TX0) (N := 2) hx hb hts in_X0_remember_4_RX0 hown hK.1 hP 0 rfl rfl 1 (by decide) (hts (.fieldLink RX0 17 "NineDancers$History" "length" "I") (by decide +kernel)) (fun _ h9 => h9) rfl dX0_remember_18 ?_
    refine my_aldq (D := D) hx hb hK.1 hP 1 2 rfl rfl (by unfold vp_in; decide) (v := .ref (ra 4)) (congrArg va_rf (hf 4 (by decide))) dX0_remember_21 ?_
    refine lv_aload_n hx hb dX0_remember_22 rfl (lv_at hl 1 rfl) ?_
    refine ck_vD (wr := wH h sa 4 ++ (wA Y sa 6 f ++ (wR Y (ra 0) (rq 0) (Z 0) ++ (wR Y (ra 1) (rq 1) (Z 1) ++ (wR Y (ra 2) (rq 2) (Z 2) ++ (wR Y (ra 3) (rq 3) (Z 3) ++ wR Y (ra 5) (rq 5) (Z 5))))))) (ws' := wH h sa 4 ++ (wA Y sa 6 f ++ (wR Y (ra 0) (rq 0) (Z 0) ++ (wR Y (ra 1) (rq 1) (Z 1) ++ (wR Y (ra 2) (rq 2) (Z 2) ++ (wR Y (ra 3) (rq 3) (Z 3) ++ (wR Y (ra 4) (rq 4) (D_X2_copyFrom (Z 4) S) ++ (wR Y (ra 5) (rq 5) (Z 5) ++ wR Y r q S)))))))) (va_runV (As := [.ref r]) (rest := []) ⟨hx, hb, hml, hown, hts⟩ (c_X2_copyFrom l D Y s.heap.size (rq 4) q (Z 4) S (ra 4) r) (cwV 1 hts gX0_remember_X2_copyFrom rfl rfl rfl (by decide +kernel) ⟨Nat.le_of_ble_eq_true rfl, Nat.le_of_ble_eq_true rfl⟩) (pst_V hK hP hD [46, 47, 48, 49, 50, 51, 52, 53, 54, 55, 56, 68, 69, 70, 71, 72, 73, 74, 75, 76, 77, 78] rfl (by decide) (q0 := 0) rfl rfl) rfl rfl hl.1 rfl (lv_room (Nat.le_of_ble_eq_true rfl)) dX0_remember_23 ⟨Nat.zero_le _, Nat.zero_le _⟩) hP hD hS hA [46, 47, 48, 49, 50, 51, 52, 53, 54, 55, 56, 68, 69, 70, 71, 72, 73, 74, 75, 76, 77, 78] [0, 1, 2, 3, 4, 5, 6, 7, 8, 9, 10, 11, 12, 13, 14, 15, 16, 17, 18, 19, 20, 21, 22, 23, 24, 25, 26, 27, 28, 29, 30, 31, 32, 33, 34, 35, 36, 37, 38, 39, 40, 41, 42, 43, 44, 45, 57, 58, 59, 60, 61, 62, 63, 64, 65, 66, 67] [0, 1, 2, 3, 4, 5, 6, 7, 8, 9, 10, 11, 12, 13, 14, 15, 16, 17, 18, 19, 20, 21, 22, 23, 24, 25, 26, 27, 28, 29, 30, 31, 32, 33, 34, 35, 36, 37, 38, 39, 40, 41, 42, 43, 44, 45, 57, 58, 59, 60, 61, 62, 63, 64, 65, 66, 67, 46, 47, 48, 49, 50, 51, 52, 53, 54, 55, 56, 68, 69, 70, 71, 72, 73, 74, 75, 76, 77, 78] rfl rfl (by decide) (by decide) rfl (by decide) (fun H locs hP hD hS => ?_)
    obtain ⟨S_1, eS_1⟩ : ∃ z9, (D_X2_copyFrom (Z 4) S) = z9 := ⟨_, rfl⟩
    rw [eS_1] at hP hD
    refine lv_aload_n hx hb dX0_remember_26 rfl (lv_at hl 0 rfl) ?_
    refine lv_dup hx hb dX0_remember_27 rfl ?_
    refine va_get (D := D) (ci := 0) (v := .int 4) (C := RX0) (T := TX0) (N := 2) hx hb hts in_X0_remember_4_RX0 hown hK.1 hP 0 rfl rfl 1 (by decide) (hts (.fieldLink RX0 17 "NineDancers$History" "length" "I") (by decide +kernel)) (fun _ h9 => h9) rfl dX0_remember_28 ?_
    refine lv_iconst (v := 1) hx hb dX0_remember_31 (by decide) ?_
    refine lv_iadd hx hb dX0_remember_32 ?_
    refine lv_topi (fun y9 e9 => ?_)
    obtain rfl : y9 = 5 := e9.trans (by decide)
    refine va_put (D := D) (ci := 0) (v := .int 5) (ty := .int) (C := RX0) (T := TX0) (N := 2) hx hb hts in_X0_remember_4_RX0 tyX0 tyX0_ok nmX0 hown hK.1 hP hD hS 0 rfl rfl 1 (by decide) (hts (.fieldLink RX0 17 "NineDancers$History" "length" "I") (by decide +kernel)) (fun _ h9 => h9) rfl (by decide +kernel) rfl rfl (Nat.le_of_ble_eq_true rfl) dX0_remember_33 (fun H locs hP hD hS => ?_)
    have hP : va_P D vwCl (wH h sa 5 ++ (wA Y sa 6 f ++ (wR Y (ra 0) (rq 0) (Z 0) ++ (wR Y (ra 1) (rq 1) (Z 1) ++ (wR Y (ra 2) (rq 2) (Z 2) ++ (wR Y (ra 3) (rq 3) (Z 3) ++ (wR Y (ra 4) (rq 4) S_1 ++ (wR Y (ra 5) (rq 5) (Z 5) ++ wR Y r q S)))))))) H := hP
    have hD : va_D A (wH h sa 5 ++ (wA Y sa 6 f ++ (wR Y (ra 0) (rq 0) (Z 0) ++ (wR Y (ra 1) (rq 1) (Z 1) ++ (wR Y (ra 2) (rq 2) (Z 2) ++ (wR Y (ra 3) (rq 3) (Z 3) ++ (wR Y (ra 4) (rq 4) S_1 ++ (wR Y (ra 5) (rq 5) (Z 5) ++ wR Y r q S)))))))) := hD
    subst eS_1
    have hP9 : va_P D vwCl (wHi Y h sa (D_X0_remember (4, f, ra, rq, Z) S) ++ wR Y r q S) H := hP
    have hD9 : va_D A (wHi Y h sa (D_X0_remember (4, f, ra, rq, Z) S) ++ wR Y r q S) := hD
    exact ret_v hx hb hr hlk hP9 hD9 hS dX0_remember_36 ⟨Nat.zero_le _, Nat.zero_le _⟩ rfl
  · exact absurd c_1 (by decide)
set_option maxRecDepth 100000 in
theorem in_X0_remember_5_RX0 : ∀ w ∈ u_ws RX0 TX0 2, w ∈ wsX0_remember := by decide +kernel
set_option maxHeartbeats 4000000 in
set_option maxRecDepth 100000 in
theorem c_X0_remember_5 (l : Launch) (D : va_G) (Y : YY) (sz : Nat) (sa : Nat) (q : Nat → Nat) (f : Nat → Option Nat) (ra : Nat → Nat) (rq : Nat → Nat → Nat) (Z : Nat → Nat → Nat → Int32) (S : Nat → Nat → Int32) (h : Nat) (r : Nat) (hf : ∀ k, k < 6 → f k = some (ra k)) : Met l yX0_remember wsX0_remember ({ frames := 4, cells := 0, slots := 0, locals := 150 } : Room) (va_Pc [.ref h, .ref r] (Pst D Y sz (wH h sa 5 ++ (wA Y sa 6 f ++ (wR Y (ra 0) (rq 0) (Z 0) ++ (wR Y (ra 1) (rq 1) (Z 1) ++ (wR Y (ra 2) (rq 2) (Z 2) ++ (wR Y (ra 3) (rq 3) (Z 3) ++ (wR Y (ra 4) (rq 4) (Z 4) ++ (wR Y (ra 5) (rq 5) (Z 5) ++ wR Y r q S)))))))))) ((fun A : Nat → Prop => Qsv D (fun w9 => w9 = wHi Y h sa (D_X0_remember (5, f, ra, rq, Z) S) ++ wR Y r q S) A) (va_A (wH h sa 5 ++ (wA Y sa 6 f ++ (wR Y (ra 0) (rq 0) (Z 0) ++ (wR Y (ra 1) (rq 1) (Z 1) ++ (wR Y (ra 2) (rq 2) (Z 2) ++ (wR Y (ra 3) (rq 3) (Z 3) ++ (wR Y (ra 4) (rq 4) (Z 4) ++ (wR Y (ra 5) (rq 5) (Z 5) ++ wR Y r q S)))))))) sz)) 0 0 (va_A (wH h sa 5 ++ (wA Y sa 6 f ++ (wR Y (ra 0) (rq 0) (Z 0) ++ (wR Y (ra 1) (rq 1) (Z 1) ++ (wR Y (ra 2) (rq 2) (Z 2) ++ (wR Y (ra 3) (rq 3) (Z 3) ++ (wR Y (ra 4) (rq 4) (Z 4) ++ (wR Y (ra 5) (rq 5) (Z 5) ++ wR Y r q S)))))))) sz) := by
  refine ct_in (cc := cX0_remember) (maxL := 2) (ret := none) (Qc := fun A : Nat → Prop => Qsv D (fun w9 => w9 = wHi Y h sa (D_X0_remember (5, f, ra, rq, Z) S) ++ wR Y r q S) A) (by decide +kernel) rfl (Nat.le_of_ble_eq_true rfl) ?_
  intro p e s m below meth c A ls hx hb hr hts hown hml hlk hin hsz hA hP hD hK hS hl
  have hown : s.vm.findClass RX0 = some m.cls := hown
  have hl : lv_has ls 2 [(0, .ref h), (1, .ref r)] := hl
  show W p l e ({ frames := 4, cells := 0, slots := 0, locals := 150 } : Room) s m ([.ref h, .ref r] : List Value).toArray below meth c s.heap [] 0 0 (MQ below (Qsv D (fun w9 => w9 = wHi Y h sa (D_X0_remember (5, f, ra, rq, Z) S) ++ wR Y r q S) A) ([.ref h, .ref r] : List Value).toArray s 0 0 A) (F0 m 0 ls [])
  refine lv_aload_n hx hb dX0_remember_0 rfl (lv_at hl 0 rfl) ?_
  refine va_get (D := D) (ci := 0) (v := .int 5) (C := RX0) (T := TX0) (N := 2) hx hb hts in_X0_remember_5_RX0 hown hK.1 hP 0 rfl rfl 1 (by decide) (hts (.fieldLink RX0 17 "NineDancers$History" "length" "I") (by decide +kernel)) (fun _ h9 => h9) rfl dX0_remember_1 ?_
  refine lv_bipush (v := 6) hx hb dX0_remember_4 (by decide) ?_
  refine lv_icmp_ne (tgt := 13) hx hb dX0_remember_6 (by decide) (fun c_1 => ?_) (fun c_1 => ?_)
  · refine lv_aload_n hx hb dX0_remember_13 rfl (lv_at hl 0 rfl) ?_
    refine va_get (D := D) (ci := 0) (v := .ref sa) (C := RX0) (T := TX0) (N := 2) hx hb hts in_X0_remember_5_RX0 hown hK.1 hP 0 rfl rfl 0 (by decide) (hts (.fieldLink RX0 11 "NineDancers$History" "states" "[LNineDancers$Ring;") (by decide +kernel)) (fun _ h9 => h9) rfl dX0_remember_14 ?_
    refine lv_aload_n hx hb dX0_remember_17 rfl (lv_at hl 0 rfl) ?_
    refine va_get (D := D) (ci := 0) (v := .int 5) (C := RX0) (T := TX0) (N := 2) hx hb hts in_X0_remember_5_RX0 hown hK.1 hP 0 rfl rfl 1 (by decide) (hts (.fieldLink RX0 17 "NineDancers$History" "length" "I") (by decide +kernel)) (fun _ h9 => h9) rfl dX0_remember_18 ?_
    refine my_aldq (D := D) hx hb hK.1 hP 1 2 rfl rfl (by unfold vp_in; decide) (v := .ref (ra 5)) (congrArg va_rf (hf 5 (by decide))) dX0_remember_21 ?_
    refine lv_aload_n hx hb dX0_remember_22 rfl (lv_at hl 1 rfl) ?_
    refine ck_vD (wr := wH h sa 5 ++ (wA Y sa 6 f ++ (wR Y (ra 0) (rq 0) (Z 0) ++ (wR Y (ra 1) (rq 1) (Z 1) ++ (wR Y (ra 2) (rq 2) (Z 2) ++ (wR Y (ra 3) (rq 3) (Z 3) ++ wR Y (ra 4) (rq 4) (Z 4))))))) (ws' := wH h sa 5 ++ (wA Y sa 6 f ++ (wR Y (ra 0) (rq 0) (Z 0) ++ (wR Y (ra 1) (rq 1) (Z 1) ++ (wR Y (ra 2) (rq 2) (Z 2) ++ (wR Y (ra 3) (rq 3) (Z 3) ++ (wR Y (ra 4) (rq 4) (Z 4) ++ (wR Y (ra 5) (rq 5) (D_X2_copyFrom (Z 5) S) ++ wR Y r q S)))))))) (va_runV (As := [.ref r]) (rest := []) ⟨hx, hb, hml, hown, hts⟩ (c_X2_copyFrom l D Y s.heap.size (rq 5) q (Z 5) S (ra 5) r) (cwV 1 hts gX0_remember_X2_copyFrom rfl rfl rfl (by decide +kernel) ⟨Nat.le_of_ble_eq_true rfl, Nat.le_of_ble_eq_true rfl⟩) (pst_V hK hP hD [57, 58, 59, 60, 61, 62, 63, 64, 65, 66, 67, 68, 69, 70, 71, 72, 73, 74, 75, 76, 77, 78] rfl (by decide) (q0 := 0) rfl rfl) rfl rfl hl.1 rfl (lv_room (Nat.le_of_ble_eq_true rfl)) dX0_remember_23 ⟨Nat.zero_le _, Nat.zero_le _⟩) hP hD hS hA [57, 58, 59, 60, 61, 62, 63, 64, 65, 66, 67, 68, 69, 70, 71, 72, 73, 74, 75, 76, 77, 78] [0, 1, 2, 3, 4, 5, 6, 7, 8, 9, 10, 11, 12, 13, 14, 15, 16, 17, 18, 19, 20, 21, 22, 23, 24, 25, 26, 27, 28, 29, 30, 31, 32, 33, 34, 35, 36, 37, 38, 39, 40, 41, 42, 43, 44, 45, 46, 47, 48, 49, 50, 51, 52, 53, 54, 55, 56] [0, 1, 2, 3, 4, 5, 6, 7, 8, 9, 10, 11, 12, 13, 14, 15, 16, 17, 18, 19, 20, 21, 22, 23, 24, 25, 26, 27, 28, 29, 30, 31, 32, 33, 34, 35, 36, 37, 38, 39, 40, 41, 42, 43, 44, 45, 46, 47, 48, 49, 50, 51, 52, 53, 54, 55, 56, 57, 58, 59, 60, 61, 62, 63, 64, 65, 66, 67, 68, 69, 70, 71, 72, 73, 74, 75, 76, 77, 78] rfl rfl (by decide) (by decide) rfl (by decide) (fun H locs hP hD hS => ?_)
    obtain ⟨S_1, eS_1⟩ : ∃ z9, (D_X2_copyFrom (Z 5) S) = z9 := ⟨_, rfl⟩
    rw [eS_1] at hP hD
    refine lv_aload_n hx hb dX0_remember_26 rfl (lv_at hl 0 rfl) ?_
    refine lv_dup hx hb dX0_remember_27 rfl ?_
    refine va_get (D := D) (ci := 0) (v := .int 5) (C := RX0) (T := TX0) (N := 2) hx hb hts in_X0_remember_5_RX0 hown hK.1 hP 0 rfl rfl 1 (by decide) (hts (.fieldLink RX0 17 "NineDancers$History" "length" "I") (by decide +kernel)) (fun _ h9 => h9) rfl dX0_remember_28 ?_
    refine lv_iconst (v := 1) hx hb dX0_remember_31 (by decide) ?_
    refine lv_iadd hx hb dX0_remember_32 ?_
    refine lv_topi (fun y9 e9 => ?_)
    obtain rfl : y9 = 6 := e9.trans (by decide)
    refine va_put (D := D) (ci := 0) (v := .int 6) (ty := .int) (C := RX0) (T := TX0) (N := 2) hx hb hts in_X0_remember_5_RX0 tyX0 tyX0_ok nmX0 hown hK.1 hP hD hS 0 rfl rfl 1 (by decide) (hts (.fieldLink RX0 17 "NineDancers$History" "length" "I") (by decide +kernel)) (fun _ h9 => h9) rfl (by decide +kernel) rfl rfl (Nat.le_of_ble_eq_true rfl) dX0_remember_33 (fun H locs hP hD hS => ?_)
    have hP : va_P D vwCl (wH h sa 6 ++ (wA Y sa 6 f ++ (wR Y (ra 0) (rq 0) (Z 0) ++ (wR Y (ra 1) (rq 1) (Z 1) ++ (wR Y (ra 2) (rq 2) (Z 2) ++ (wR Y (ra 3) (rq 3) (Z 3) ++ (wR Y (ra 4) (rq 4) (Z 4) ++ (wR Y (ra 5) (rq 5) S_1 ++ wR Y r q S)))))))) H := hP
    have hD : va_D A (wH h sa 6 ++ (wA Y sa 6 f ++ (wR Y (ra 0) (rq 0) (Z 0) ++ (wR Y (ra 1) (rq 1) (Z 1) ++ (wR Y (ra 2) (rq 2) (Z 2) ++ (wR Y (ra 3) (rq 3) (Z 3) ++ (wR Y (ra 4) (rq 4) (Z 4) ++ (wR Y (ra 5) (rq 5) S_1 ++ wR Y r q S)))))))) := hD
    subst eS_1
    have hP9 : va_P D vwCl (wHi Y h sa (D_X0_remember (5, f, ra, rq, Z) S) ++ wR Y r q S) H := hP
    have hD9 : va_D A (wHi Y h sa (D_X0_remember (5, f, ra, rq, Z) S) ++ wR Y r q S) := hD
    exact ret_v hx hb hr hlk hP9 hD9 hS dX0_remember_36 ⟨Nat.zero_le _, Nat.zero_le _⟩ rfl
  · exact absurd c_1 (by decide)
set_option maxRecDepth 100000 in
theorem in_X0_remember_6_RX0 : ∀ w ∈ u_ws RX0 TX0 2, w ∈ wsX0_remember := by decide +kernel
set_option maxHeartbeats 4000000 in
set_option maxRecDepth 100000 in
theorem c_X0_remember_6 (l : Launch) (D : va_G) (Y : YY) (sz : Nat) (sa : Nat) (q : Nat → Nat) (f : Nat → Option Nat) (ra : Nat → Nat) (rq : Nat → Nat → Nat) (Z : Nat → Nat → Nat → Int32) (S : Nat → Nat → Int32) (h : Nat) (r : Nat) (hf : ∀ k, k < 6 → f k = some (ra k)) : Met l yX0_remember wsX0_remember ({ frames := 4, cells := 0, slots := 0, locals := 150 } : Room) (va_Pc [.ref h, .ref r] (Pst D Y sz (wH h sa 6 ++ (wA Y sa 6 f ++ (wR Y (ra 0) (rq 0) (Z 0) ++ (wR Y (ra 1) (rq 1) (Z 1) ++ (wR Y (ra 2) (rq 2) (Z 2) ++ (wR Y (ra 3) (rq 3) (Z 3) ++ (wR Y (ra 4) (rq 4) (Z 4) ++ (wR Y (ra 5) (rq 5) (Z 5) ++ wR Y r q S)))))))))) ((fun A : Nat → Prop => Qsv D (fun w9 => w9 = wHi Y h sa (D_X0_remember (6, f, ra, rq, Z) S) ++ wR Y r q S) A) (va_A (wH h sa 6 ++ (wA Y sa 6 f ++ (wR Y (ra 0) (rq 0) (Z 0) ++ (wR Y (ra 1) (rq 1) (Z 1) ++ (wR Y (ra 2) (rq 2) (Z 2) ++ (wR Y (ra 3) (rq 3) (Z 3) ++ (wR Y (ra 4) (rq 4) (Z 4) ++ (wR Y (ra 5) (rq 5) (Z 5) ++ wR Y r q S)))))))) sz)) 0 0 (va_A (wH h sa 6 ++ (wA Y sa 6 f ++ (wR Y (ra 0) (rq 0) (Z 0) ++ (wR Y (ra 1) (rq 1) (Z 1) ++ (wR Y (ra 2) (rq 2) (Z 2) ++ (wR Y (ra 3) (rq 3) (Z 3) ++ (wR Y (ra 4) (rq 4) (Z 4) ++ (wR Y (ra 5) (rq 5) (Z 5) ++ wR Y r q S)))))))) sz) := by
  refine ct_in (cc := cX0_remember) (maxL := 2) (ret := none) (Qc := fun A : Nat → Prop => Qsv D (fun w9 => w9 = wHi Y h sa (D_X0_remember (6, f, ra, rq, Z) S) ++ wR Y r q S) A) (by decide +kernel) rfl (Nat.le_of_ble_eq_true rfl) ?_
  intro p e s m below meth c A ls hx hb hr hts hown hml hlk hin hsz hA hP hD hK hS hl
  have hown : s.vm.findClass RX0 = some m.cls := hown
  have hl : lv_has ls 2 [(0, .ref h), (1, .ref r)] := hl
  show W p l e ({ frames := 4, cells := 0, slots := 0, locals := 150 } : Room) s m ([.ref h, .ref r] : List Value).toArray below meth c s.heap [] 0 0 (MQ below (Qsv D (fun w9 => w9 = wHi Y h sa (D_X0_remember (6, f, ra, rq, Z) S) ++ wR Y r q S) A) ([.ref h, .ref r] : List Value).toArray s 0 0 A) (F0 m 0 ls [])
  refine lv_aload_n hx hb dX0_remember_0 rfl (lv_at hl 0 rfl) ?_
  refine va_get (D := D) (ci := 0) (v := .int 6) (C := RX0) (T := TX0) (N := 2) hx hb hts in_X0_remember_6_RX0 hown hK.1 hP 0 rfl rfl 1 (by decide) (hts (.fieldLink RX0 17 "NineDancers$History" "length" "I") (by decide +kernel)) (fun _ h9 => h9) rfl dX0_remember_1 ?_
  refine lv_bipush (v := 6) hx hb dX0_remember_4 (by decide) ?_
  refine lv_icmp_ne (tgt := 13) hx hb dX0_remember_6 (by decide) (fun c_1 => ?_) (fun c_1 => ?_)
  · exact absurd c_1 (by decide)
  · refine lv_aload_n hx hb dX0_remember_9 rfl (lv_at hl 0 rfl) ?_
    refine ck_vD (wr := wR Y r q S) (ws' := wH h sa ((D_X0_dropOldest 6 f ra rq Z).1) ++ (wA Y sa 6 ((D_X0_dropOldest 6 f ra rq Z).2) ++ (wR Y (ra 0) (rq 0) (Z 0) ++ (wR Y (ra 1) (rq 1) (Z 1) ++ (wR Y (ra 2) (rq 2) (Z 2) ++ (wR Y (ra 3) (rq 3) (Z 3) ++ (wR Y (ra 4) (rq 4) (Z 4) ++ (wR Y (ra 5) (rq 5) (Z 5) ++ wR Y r q S)))))))) (va_runV (As := []) (rest := []) ⟨hx, hb, hml, hown, hts⟩ (c_X0_dropOldest l D Y s.heap.size sa 6 f ra rq Z h hf) (cwV 0 hts gX0_remember_X0_dropOldest rfl rfl rfl (by decide +kernel) ⟨Nat.le_of_ble_eq_true rfl, Nat.le_of_ble_eq_true rfl⟩) (pst_V hK hP hD [0, 1, 2, 3, 4, 5, 6, 7, 8, 9, 10, 11, 12, 13, 14, 15, 16, 17, 18, 19, 20, 21, 22, 23, 24, 25, 26, 27, 28, 29, 30, 31, 32, 33, 34, 35, 36, 37, 38, 39, 40, 41, 42, 43, 44, 45, 46, 47, 48, 49, 50, 51, 52, 53, 54, 55, 56, 57, 58, 59, 60, 61, 62, 63, 64, 65, 66, 67] rfl (by decide) (q0 := 0) rfl rfl) rfl rfl hl.1 rfl (lv_room (Nat.le_of_ble_eq_true rfl)) dX0_remember_10 ⟨Nat.zero_le _, Nat.zero_le _⟩) hP hD hS hA [0, 1, 2, 3, 4, 5, 6, 7, 8, 9, 10, 11, 12, 13, 14, 15, 16, 17, 18, 19, 20, 21, 22, 23, 24, 25, 26, 27, 28, 29, 30, 31, 32, 33, 34, 35, 36, 37, 38, 39, 40, 41, 42, 43, 44, 45, 46, 47, 48, 49, 50, 51, 52, 53, 54, 55, 56, 57, 58, 59, 60, 61, 62, 63, 64, 65, 66, 67] [68, 69, 70, 71, 72, 73, 74, 75, 76, 77, 78] [11, 12, 13, 14, 15, 16, 17, 18, 19, 20, 21, 22, 23, 24, 25, 26, 27, 28, 29, 30, 31, 32, 33, 34, 35, 36, 37, 38, 39, 40, 41, 42, 43, 44, 45, 46, 47, 48, 49, 50, 51, 52, 53, 54, 55, 56, 57, 58, 59, 60, 61, 62, 63, 64, 65, 66, 67, 68, 69, 70, 71, 72, 73, 74, 75, 76, 77, 78, 0, 1, 2, 3, 4, 5, 6, 7, 8, 9, 10] rfl rfl (by decide) (by decide) rfl (by decide) (fun H locs hP hD hS => ?_)
    obtain ⟨S_1, eS_1⟩ : ∃ z9, (D_X0_dropOldest 6 f ra rq Z).1 = z9 := ⟨_, rfl⟩
    rw [eS_1] at hP hD
    obtain ⟨S_2, eS_2⟩ : ∃ z9, (D_X0_dropOldest 6 f ra rq Z).2 = z9 := ⟨_, rfl⟩
    rw [eS_2] at hP hD
    refine lv_aload_n hx hb dX0_remember_13 rfl (lv_at hl 0 rfl) ?_
    refine va_get (D := D) (ci := 0) (v := .ref sa) (C := RX0) (T := TX0) (N := 2) hx hb hts in_X0_remember_6_RX0 hown hK.1 hP 0 rfl rfl 0 (by decide) (hts (.fieldLink RX0 11 "NineDancers$History" "states" "[LNineDancers$Ring;") (by decide +kernel)) (fun _ h9 => h9) rfl dX0_remember_14 ?_
    refine lv_aload_n hx hb dX0_remember_17 rfl (lv_at hl 0 rfl) ?_
    refine va_get (D := D) (ci := 0) (v := .int S_1) (C := RX0) (T := TX0) (N := 2) hx hb hts in_X0_remember_6_RX0 hown hK.1 hP 0 rfl rfl 1 (by decide) (hts (.fieldLink RX0 17 "NineDancers$History" "length" "I") (by decide +kernel)) (fun _ h9 => h9) rfl dX0_remember_18 ?_
    refine my_aldq (D := D) hx hb hK.1 hP 1 2 rfl rfl (by rw [← eS_1]; show vp_in (6 - 1) 6; unfold vp_in; decide) (v := .ref (ra 0)) (by rw [← eS_2, ← eS_1]; rfl) dX0_remember_21 ?_
    refine lv_aload_n hx hb dX0_remember_22 rfl (lv_at hl 1 rfl) ?_
    refine ck_vD (wr := wH h sa S_1 ++ (wA Y sa 6 S_2 ++ (wR Y (ra 1) (rq 1) (Z 1) ++ (wR Y (ra 2) (rq 2) (Z 2) ++ (wR Y (ra 3) (rq 3) (Z 3) ++ (wR Y (ra 4) (rq 4) (Z 4) ++ wR Y (ra 5) (rq 5) (Z 5))))))) (ws' := wH h sa S_1 ++ (wA Y sa 6 S_2 ++ (wR Y (ra 0) (rq 0) (D_X2_copyFrom (Z 0) S) ++ (wR Y (ra 1) (rq 1) (Z 1) ++ (wR Y (ra 2) (rq 2) (Z 2) ++ (wR Y (ra 3) (rq 3) (Z 3) ++ (wR Y (ra 4) (rq 4) (Z 4) ++ (wR Y (ra 5) (rq 5) (Z 5) ++ wR Y r q S)))))))) (va_runV (As := [.ref r]) (rest := []) ⟨hx, hb, hml, hown, hts⟩ (c_X2_copyFrom l D Y H.size (rq 0) q (Z 0) S (ra 0) r) (cwV 1 hts gX0_remember_X2_copyFrom rfl rfl rfl (by decide +kernel) ⟨Nat.le_of_ble_eq_true rfl, Nat.le_of_ble_eq_true rfl⟩) (pst_V hK hP hD [2, 3, 4, 5, 6, 7, 8, 9, 10, 11, 12, 68, 69, 70, 71, 72, 73, 74, 75, 76, 77, 78] rfl (by decide) (q0 := 0) rfl rfl) rfl rfl hl.1 rfl (lv_room (Nat.le_of_ble_eq_true rfl)) dX0_remember_23 ⟨Nat.zero_le _, Nat.zero_le _⟩) hP hD hS hA [2, 3, 4, 5, 6, 7, 8, 9, 10, 11, 12, 68, 69, 70, 71, 72, 73, 74, 75, 76, 77, 78] [0, 1, 13, 14, 15, 16, 17, 18, 19, 20, 21, 22, 23, 24, 25, 26, 27, 28, 29, 30, 31, 32, 33, 34, 35, 36, 37, 38, 39, 40, 41, 42, 43, 44, 45, 46, 47, 48, 49, 50, 51, 52, 53, 54, 55, 56, 57, 58, 59, 60, 61, 62, 63, 64, 65, 66, 67] [0, 1, 57, 58, 59, 60, 61, 62, 63, 64, 65, 66, 67, 2, 3, 4, 5, 6, 7, 8, 9, 10, 11, 12, 13, 14, 15, 16, 17, 18, 19, 20, 21, 22, 23, 24, 25, 26, 27, 28, 29, 30, 31, 32, 33, 34, 35, 36, 37, 38, 39, 40, 41, 42, 43, 44, 45, 46, 47, 48, 49, 50, 51, 52, 53, 54, 55, 56, 68, 69, 70, 71, 72, 73, 74, 75, 76, 77, 78] rfl rfl (by decide) (by decide) rfl (by decide) (fun H locs hP hD hS => ?_)
    obtain ⟨S_3, eS_3⟩ : ∃ z9, (D_X2_copyFrom (Z 0) S) = z9 := ⟨_, rfl⟩
    rw [eS_3] at hP hD
    refine lv_aload_n hx hb dX0_remember_26 rfl (lv_at hl 0 rfl) ?_
    refine lv_dup hx hb dX0_remember_27 rfl ?_
    refine va_get (D := D) (ci := 0) (v := .int S_1) (C := RX0) (T := TX0) (N := 2) hx hb hts in_X0_remember_6_RX0 hown hK.1 hP 0 rfl rfl 1 (by decide) (hts (.fieldLink RX0 17 "NineDancers$History" "length" "I") (by decide +kernel)) (fun _ h9 => h9) rfl dX0_remember_28 ?_
    refine lv_iconst (v := 1) hx hb dX0_remember_31 (by decide) ?_
    refine lv_iadd hx hb dX0_remember_32 ?_
    refine va_put (D := D) (ci := 0) (v := .int (S_1 + 1)) (ty := .int) (C := RX0) (T := TX0) (N := 2) hx hb hts in_X0_remember_6_RX0 tyX0 tyX0_ok nmX0 hown hK.1 hP hD hS 0 rfl rfl 1 (by decide) (hts (.fieldLink RX0 17 "NineDancers$History" "length" "I") (by decide +kernel)) (fun _ h9 => h9) rfl (by decide +kernel) rfl rfl (Nat.le_of_ble_eq_true rfl) dX0_remember_33 (fun H locs hP hD hS => ?_)
    have hP : va_P D vwCl (wH h sa (S_1 + 1) ++ (wA Y sa 6 S_2 ++ (wR Y (ra 0) (rq 0) S_3 ++ (wR Y (ra 1) (rq 1) (Z 1) ++ (wR Y (ra 2) (rq 2) (Z 2) ++ (wR Y (ra 3) (rq 3) (Z 3) ++ (wR Y (ra 4) (rq 4) (Z 4) ++ (wR Y (ra 5) (rq 5) (Z 5) ++ wR Y r q S)))))))) H := hP
    have hD : va_D A (wH h sa (S_1 + 1) ++ (wA Y sa 6 S_2 ++ (wR Y (ra 0) (rq 0) S_3 ++ (wR Y (ra 1) (rq 1) (Z 1) ++ (wR Y (ra 2) (rq 2) (Z 2) ++ (wR Y (ra 3) (rq 3) (Z 3) ++ (wR Y (ra 4) (rq 4) (Z 4) ++ (wR Y (ra 5) (rq 5) (Z 5) ++ wR Y r q S)))))))) := hD
    obtain ⟨S_4, eS_4⟩ : ∃ z9, S_1 + 1 = z9 := ⟨_, rfl⟩
    rw [eS_4] at hP hD
    subst eS_4
    subst eS_3
    subst eS_2
    subst eS_1
    have hP9 : va_P D vwCl (wHi Y h sa (D_X0_remember (6, f, ra, rq, Z) S) ++ wR Y r q S) H := my_sub hP (is := [0, 1, 13, 14, 15, 16, 17, 18, 19, 20, 21, 22, 23, 24, 25, 26, 27, 28, 29, 30, 31, 32, 33, 34, 35, 36, 37, 38, 39, 40, 41, 42, 43, 44, 45, 46, 47, 48, 49, 50, 51, 52, 53, 54, 55, 56, 57, 58, 59, 60, 61, 62, 63, 64, 65, 66, 67, 2, 3, 4, 5, 6, 7, 8, 9, 10, 11, 12, 68, 69, 70, 71, 72, 73, 74, 75, 76, 77, 78]) rfl
    have hD9 : va_D A (wHi Y h sa (D_X0_remember (6, f, ra, rq, Z) S) ++ wR Y r q S) := hD.sub [0, 1, 13, 14, 15, 16, 17, 18, 19, 20, 21, 22, 23, 24, 25, 26, 27, 28, 29, 30, 31, 32, 33, 34, 35, 36, 37, 38, 39, 40, 41, 42, 43, 44, 45, 46, 47, 48, 49, 50, 51, 52, 53, 54, 55, 56, 57, 58, 59, 60, 61, 62, 63, 64, 65, 66, 67, 2, 3, 4, 5, 6, 7, 8, 9, 10, 11, 12, 68, 69, 70, 71, 72, 73, 74, 75, 76, 77, 78] (by decide) rfl
    exact ret_v hx hb hr hlk hP9 hD9 hS dX0_remember_36 ⟨Nat.zero_le _, Nat.zero_le _⟩ rfl
set_option maxHeartbeats 4000000 in
set_option maxRecDepth 100000 in
theorem c_X0_remember (l : Launch) (D : va_G) (Y : YY) (sz : Nat) (sa : Nat) (q : Nat → Nat) (u : HS) (S : Nat → Nat → Int32) (h : Nat) (r : Nat) (hu : hok u) : Met l yX0_remember wsX0_remember ({ frames := 4, cells := 0, slots := 0, locals := 150 } : Room) (va_Pc [.ref h, .ref r] (Pst D Y sz (wHi Y h sa u ++ wR Y r q S))) ((fun A : Nat → Prop => Qsv D (fun w9 => w9 = wHi Y h sa (D_X0_remember u S) ++ wR Y r q S) A) (va_A (wHi Y h sa u ++ wR Y r q S) sz)) 0 0 (va_A (wHi Y h sa u ++ wR Y r q S) sz) := by
  obtain ⟨k, f, ra, rq, Z⟩ := u
  obtain ⟨hk, hf⟩ := hu
  have hk : k ≤ 6 := hk
  have hf : ∀ k, k < 6 → f k = some (ra k) := hf
  obtain rfl | rfl | rfl | rfl | rfl | rfl | rfl : k = 0 ∨ k = 1 ∨ k = 2 ∨ k = 3 ∨ k = 4 ∨ k = 5 ∨ k = 6 := by omega
  · have e : wHi Y h sa (0, f, ra, rq, Z) ++ wR Y r q S = wH h sa 0 ++ (wA Y sa 6 f ++ (wR Y (ra 0) (rq 0) (Z 0) ++ (wR Y (ra 1) (rq 1) (Z 1) ++ (wR Y (ra 2) (rq 2) (Z 2) ++ (wR Y (ra 3) (rq 3) (Z 3) ++ (wR Y (ra 4) (rq 4) (Z 4) ++ (wR Y (ra 5) (rq 5) (Z 5) ++ wR Y r q S))))))) := rfl
    rw [e]
    exact c_X0_remember_0 l D Y sz sa q f ra rq Z S h r hf
  · have e : wHi Y h sa (1, f, ra, rq, Z) ++ wR Y r q S = wH h sa 1 ++ (wA Y sa 6 f ++ (wR Y (ra 0) (rq 0) (Z 0) ++ (wR Y (ra 1) (rq 1) (Z 1) ++ (wR Y (ra 2) (rq 2) (Z 2) ++ (wR Y (ra 3) (rq 3) (Z 3) ++ (wR Y (ra 4) (rq 4) (Z 4) ++ (wR Y (ra 5) (rq 5) (Z 5) ++ wR Y r q S))))))) := rfl
    rw [e]
    exact c_X0_remember_1 l D Y sz sa q f ra rq Z S h r hf
  · have e : wHi Y h sa (2, f, ra, rq, Z) ++ wR Y r q S = wH h sa 2 ++ (wA Y sa 6 f ++ (wR Y (ra 0) (rq 0) (Z 0) ++ (wR Y (ra 1) (rq 1) (Z 1) ++ (wR Y (ra 2) (rq 2) (Z 2) ++ (wR Y (ra 3) (rq 3) (Z 3) ++ (wR Y (ra 4) (rq 4) (Z 4) ++ (wR Y (ra 5) (rq 5) (Z 5) ++ wR Y r q S))))))) := rfl
    rw [e]
    exact c_X0_remember_2 l D Y sz sa q f ra rq Z S h r hf
  · have e : wHi Y h sa (3, f, ra, rq, Z) ++ wR Y r q S = wH h sa 3 ++ (wA Y sa 6 f ++ (wR Y (ra 0) (rq 0) (Z 0) ++ (wR Y (ra 1) (rq 1) (Z 1) ++ (wR Y (ra 2) (rq 2) (Z 2) ++ (wR Y (ra 3) (rq 3) (Z 3) ++ (wR Y (ra 4) (rq 4) (Z 4) ++ (wR Y (ra 5) (rq 5) (Z 5) ++ wR Y r q S))))))) := rfl
    rw [e]
    exact c_X0_remember_3 l D Y sz sa q f ra rq Z S h r hf
  · have e : wHi Y h sa (4, f, ra, rq, Z) ++ wR Y r q S = wH h sa 4 ++ (wA Y sa 6 f ++ (wR Y (ra 0) (rq 0) (Z 0) ++ (wR Y (ra 1) (rq 1) (Z 1) ++ (wR Y (ra 2) (rq 2) (Z 2) ++ (wR Y (ra 3) (rq 3) (Z 3) ++ (wR Y (ra 4) (rq 4) (Z 4) ++ (wR Y (ra 5) (rq 5) (Z 5) ++ wR Y r q S))))))) := rfl
    rw [e]
    exact c_X0_remember_4 l D Y sz sa q f ra rq Z S h r hf
  · have e : wHi Y h sa (5, f, ra, rq, Z) ++ wR Y r q S = wH h sa 5 ++ (wA Y sa 6 f ++ (wR Y (ra 0) (rq 0) (Z 0) ++ (wR Y (ra 1) (rq 1) (Z 1) ++ (wR Y (ra 2) (rq 2) (Z 2) ++ (wR Y (ra 3) (rq 3) (Z 3) ++ (wR Y (ra 4) (rq 4) (Z 4) ++ (wR Y (ra 5) (rq 5) (Z 5) ++ wR Y r q S))))))) := rfl
    rw [e]
    exact c_X0_remember_5 l D Y sz sa q f ra rq Z S h r hf
  · have e : wHi Y h sa (6, f, ra, rq, Z) ++ wR Y r q S = wH h sa 6 ++ (wA Y sa 6 f ++ (wR Y (ra 0) (rq 0) (Z 0) ++ (wR Y (ra 1) (rq 1) (Z 1) ++ (wR Y (ra 2) (rq 2) (Z 2) ++ (wR Y (ra 3) (rq 3) (Z 3) ++ (wR Y (ra 4) (rq 4) (Z 4) ++ (wR Y (ra 5) (rq 5) (Z 5) ++ wR Y r q S))))))) := rfl
    rw [e]
    exact c_X0_remember_6 l D Y sz sa q f ra rq Z S h r hf
set_option maxRecDepth 100000 in
theorem in_X0_takeBackInto_0_RX0 : ∀ w ∈ u_ws RX0 TX0 2, w ∈ wsX0_takeBackInto := by decide +kernel
set_option maxHeartbeats 4000000 in
set_option maxRecDepth 100000 in
theorem c_X0_takeBackInto_0 (l : Launch) (D : va_G) (Y : YY) (sz : Nat) (sa : Nat) (q : Nat → Nat) (f : Nat → Option Nat) (ra : Nat → Nat) (rq : Nat → Nat → Nat) (Z : Nat → Nat → Nat → Int32) (S : Nat → Nat → Int32) (h : Nat) (r : Nat) (hf : ∀ k, k < 6 → f k = some (ra k)) : Met l yX0_takeBackInto wsX0_takeBackInto ({ frames := 4, cells := 0, slots := 0, locals := 150 } : Room) (va_Pc [.ref h, .ref r] (Pst D Y sz (wH h sa 0 ++ (wA Y sa 6 f ++ (wR Y (ra 0) (rq 0) (Z 0) ++ (wR Y (ra 1) (rq 1) (Z 1) ++ (wR Y (ra 2) (rq 2) (Z 2) ++ (wR Y (ra 3) (rq 3) (Z 3) ++ (wR Y (ra 4) (rq 4) (Z 4) ++ (wR Y (ra 5) (rq 5) (Z 5) ++ wR Y r q S)))))))))) ((fun A : Nat → Prop => Qsv D (fun w9 => w9 = wHi Y h sa (D_X0_takeBackInto (0, f, ra, rq, Z) S).1 ++ wR Y r q (D_X0_takeBackInto (0, f, ra, rq, Z) S).2) A) (va_A (wH h sa 0 ++ (wA Y sa 6 f ++ (wR Y (ra 0) (rq 0) (Z 0) ++ (wR Y (ra 1) (rq 1) (Z 1) ++ (wR Y (ra 2) (rq 2) (Z 2) ++ (wR Y (ra 3) (rq 3) (Z 3) ++ (wR Y (ra 4) (rq 4) (Z 4) ++ (wR Y (ra 5) (rq 5) (Z 5) ++ wR Y r q S)))))))) sz)) 0 0 (va_A (wH h sa 0 ++ (wA Y sa 6 f ++ (wR Y (ra 0) (rq 0) (Z 0) ++ (wR Y (ra 1) (rq 1) (Z 1) ++ (wR Y (ra 2) (rq 2) (Z 2) ++ (wR Y (ra 3) (rq 3) (Z 3) ++ (wR Y (ra 4) (rq 4) (Z 4) ++ (wR Y (ra 5) (rq 5) (Z 5) ++ wR Y r q S)))))))) sz) := by
  refine ct_in (cc := cX0_takeBackInto) (maxL := 2) (ret := none) (Qc := fun A : Nat → Prop => Qsv D (fun w9 => w9 = wHi Y h sa (D_X0_takeBackInto (0, f, ra, rq, Z) S).1 ++ wR Y r q (D_X0_takeBackInto (0, f, ra, rq, Z) S).2) A) (by decide +kernel) rfl (Nat.le_of_ble_eq_true rfl) ?_
  intro p e s m below meth c A ls hx hb hr hts hown hml hlk hin hsz hA hP hD hK hS hl
  have hown : s.vm.findClass RX0 = some m.cls := hown
  have hl : lv_has ls 2 [(0, .ref h), (1, .ref r)] := hl
  show W p l e ({ frames := 4, cells := 0, slots := 0, locals := 150 } : Room) s m ([.ref h, .ref r] : List Value).toArray below meth c s.heap [] 0 0 (MQ below (Qsv D (fun w9 => w9 = wHi Y h sa (D_X0_takeBackInto (0, f, ra, rq, Z) S).1 ++ wR Y r q (D_X0_takeBackInto (0, f, ra, rq, Z) S).2) A) ([.ref h, .ref r] : List Value).toArray s 0 0 A) (F0 m 0 ls [])
  refine lv_aload_n hx hb dX0_takeBackInto_0 rfl (lv_at hl 0 rfl) ?_
  refine va_get (D := D) (ci := 0) (v := .int 0) (C := RX0) (T := TX0) (N := 2) hx hb hts in_X0_takeBackInto_0_RX0 hown hK.1 hP 0 rfl rfl 1 (by decide) (hts (.fieldLink RX0 17 "NineDancers$History" "length" "I") (by decide +kernel)) (fun _ h9 => h9) rfl dX0_takeBackInto_1 ?_
  refine lv_if_le (tgt := 30) hx hb dX0_takeBackInto_4 (by decide) (fun c_1 => ?_) (fun c_1 => ?_)
  · have hP9 : va_P D vwCl (wHi Y h sa (D_X0_takeBackInto (0, f, ra, rq, Z) S).1 ++ wR Y r q (D_X0_takeBackInto (0, f, ra, rq, Z) S).2) s.heap := hP
    have hD9 : va_D A (wHi Y h sa (D_X0_takeBackInto (0, f, ra, rq, Z) S).1 ++ wR Y r q (D_X0_takeBackInto (0, f, ra, rq, Z) S).2) := hD
    exact ret_v hx hb hr hlk hP9 hD9 hS dX0_takeBackInto_30 ⟨Nat.zero_le _, Nat.zero_le _⟩ rfl
  · exact absurd c_1 (by decide)
set_option maxRecDepth 100000 in
theorem in_X0_takeBackInto_1_RX0 : ∀ w ∈ u_ws RX0 TX0 2, w ∈ wsX0_takeBackInto := by decide +kernel
set_option maxHeartbeats 4000000 in
set_option maxRecDepth 100000 in
theorem c_X0_takeBackInto_1 (l : Launch) (D : va_G) (Y : YY) (sz : Nat) (sa : Nat) (q : Nat → Nat) (f : Nat → Option Nat) (ra : Nat → Nat) (rq : Nat → Nat → Nat) (Z : Nat → Nat → Nat → Int32) (S : Nat → Nat → Int32) (h : Nat) (r : Nat) (hf : ∀ k, k < 6 → f k = some (ra k)) : Met l yX0_takeBackInto wsX0_takeBackInto ({ frames := 4, cells := 0, slots := 0, locals := 150 } : Room) (va_Pc [.ref h, .ref r] (Pst D Y sz (wH h sa 1 ++ (wA Y sa 6 f ++ (wR Y (ra 0) (rq 0) (Z 0) ++ (wR Y (ra 1) (rq 1) (Z 1) ++ (wR Y (ra 2) (rq 2) (Z 2) ++ (wR Y (ra 3) (rq 3) (Z 3) ++ (wR Y (ra 4) (rq 4) (Z 4) ++ (wR Y (ra 5) (rq 5) (Z 5) ++ wR Y r q S)))))))))) ((fun A : Nat → Prop => Qsv D (fun w9 => w9 = wHi Y h sa (D_X0_takeBackInto (1, f, ra, rq, Z) S).1 ++ wR Y r q (D_X0_takeBackInto (1, f, ra, rq, Z) S).2) A) (va_A (wH h sa 1 ++ (wA Y sa 6 f ++ (wR Y (ra 0) (rq 0) (Z 0) ++ (wR Y (ra 1) (rq 1) (Z 1) ++ (wR Y (ra 2) (rq 2) (Z 2) ++ (wR Y (ra 3) (rq 3) (Z 3) ++ (wR Y (ra 4) (rq 4) (Z 4) ++ (wR Y (ra 5) (rq 5) (Z 5) ++ wR Y r q S)))))))) sz)) 0 0 (va_A (wH h sa 1 ++ (wA Y sa 6 f ++ (wR Y (ra 0) (rq 0) (Z 0) ++ (wR Y (ra 1) (rq 1) (Z 1) ++ (wR Y (ra 2) (rq 2) (Z 2) ++ (wR Y (ra 3) (rq 3) (Z 3) ++ (wR Y (ra 4) (rq 4) (Z 4) ++ (wR Y (ra 5) (rq 5) (Z 5) ++ wR Y r q S)))))))) sz) := by
  refine ct_in (cc := cX0_takeBackInto) (maxL := 2) (ret := none) (Qc := fun A : Nat → Prop => Qsv D (fun w9 => w9 = wHi Y h sa (D_X0_takeBackInto (1, f, ra, rq, Z) S).1 ++ wR Y r q (D_X0_takeBackInto (1, f, ra, rq, Z) S).2) A) (by decide +kernel) rfl (Nat.le_of_ble_eq_true rfl) ?_
  intro p e s m below meth c A ls hx hb hr hts hown hml hlk hin hsz hA hP hD hK hS hl
  have hown : s.vm.findClass RX0 = some m.cls := hown
  have hl : lv_has ls 2 [(0, .ref h), (1, .ref r)] := hl
  show W p l e ({ frames := 4, cells := 0, slots := 0, locals := 150 } : Room) s m ([.ref h, .ref r] : List Value).toArray below meth c s.heap [] 0 0 (MQ below (Qsv D (fun w9 => w9 = wHi Y h sa (D_X0_takeBackInto (1, f, ra, rq, Z) S).1 ++ wR Y r q (D_X0_takeBackInto (1, f, ra, rq, Z) S).2) A) ([.ref h, .ref r] : List Value).toArray s 0 0 A) (F0 m 0 ls [])
  refine lv_aload_n hx hb dX0_takeBackInto_0 rfl (lv_at hl 0 rfl) ?_
  refine va_get (D := D) (ci := 0) (v := .int 1) (C := RX0) (T := TX0) (N := 2) hx hb hts in_X0_takeBackInto_1_RX0 hown hK.1 hP 0 rfl rfl 1 (by decide) (hts (.fieldLink RX0 17 "NineDancers$History" "length" "I") (by decide +kernel)) (fun _ h9 => h9) rfl dX0_takeBackInto_1 ?_
  refine lv_if_le (tgt := 30) hx hb dX0_takeBackInto_4 (by decide) (fun c_1 => ?_) (fun c_1 => ?_)
  · exact absurd c_1 (by decide)
  · refine lv_aload_n hx hb dX0_takeBackInto_7 rfl (lv_at hl 0 rfl) ?_
    refine lv_dup hx hb dX0_takeBackInto_8 rfl ?_
    refine va_get (D := D) (ci := 0) (v := .int 1) (C := RX0) (T := TX0) (N := 2) hx hb hts in_X0_takeBackInto_1_RX0 hown hK.1 hP 0 rfl rfl 1 (by decide) (hts (.fieldLink RX0 17 "NineDancers$History" "length" "I") (by decide +kernel)) (fun _ h9 => h9) rfl dX0_takeBackInto_9 ?_
    refine lv_iconst (v := 1) hx hb dX0_takeBackInto_12 (by decide) ?_
    refine lv_isub hx hb dX0_takeBackInto_13 ?_
    refine lv_topi (fun y9 e9 => ?_)
    obtain rfl : y9 = 0 := e9.trans (by decide)
    refine va_put (D := D) (ci := 0) (v := .int 0) (ty := .int) (C := RX0) (T := TX0) (N := 2) hx hb hts in_X0_takeBackInto_1_RX0 tyX0 tyX0_ok nmX0 hown hK.1 hP hD hS 0 rfl rfl 1 (by decide) (hts (.fieldLink RX0 17 "NineDancers$History" "length" "I") (by decide +kernel)) (fun _ h9 => h9) rfl (by decide +kernel) rfl rfl (Nat.le_of_ble_eq_true rfl) dX0_takeBackInto_14 (fun H locs hP hD hS => ?_)
    have hP : va_P D vwCl (wH h sa 0 ++ (wA Y sa 6 f ++ (wR Y (ra 0) (rq 0) (Z 0) ++ (wR Y (ra 1) (rq 1) (Z 1) ++ (wR Y (ra 2) (rq 2) (Z 2) ++ (wR Y (ra 3) (rq 3) (Z 3) ++ (wR Y (ra 4) (rq 4) (Z 4) ++ (wR Y (ra 5) (rq 5) (Z 5) ++ wR Y r q S)))))))) H := hP
    have hD : va_D A (wH h sa 0 ++ (wA Y sa 6 f ++ (wR Y (ra 0) (rq 0) (Z 0) ++ (wR Y (ra 1) (rq 1) (Z 1) ++ (wR Y (ra 2) (rq 2) (Z 2) ++ (wR Y (ra 3) (rq 3) (Z 3) ++ (wR Y (ra 4) (rq 4) (Z 4) ++ (wR Y (ra 5) (rq 5) (Z 5) ++ wR Y r q S)))))))) := hD
    refine lv_aload_n hx hb dX0_takeBackInto_17 rfl (lv_at hl 1 rfl) ?_
    refine lv_aload_n hx hb dX0_takeBackInto_18 rfl (lv_at hl 0 rfl) ?_
    refine va_get (D := D) (ci := 0) (v := .ref sa) (C := RX0) (T := TX0) (N := 2) hx hb hts in_X0_takeBackInto_1_RX0 hown hK.1 hP 0 rfl rfl 0 (by decide) (hts (.fieldLink RX0 11 "NineDancers$History" "states" "[LNineDancers$Ring;") (by decide +kernel)) (fun _ h9 => h9) rfl dX0_takeBackInto_19 ?_
    refine lv_aload_n hx hb dX0_takeBackInto_22 rfl (lv_at hl 0 rfl) ?_
    refine va_get (D := D) (ci := 0) (v := .int 0) (C := RX0) (T := TX0) (N := 2) hx hb hts in_X0_takeBackInto_1_RX0 hown hK.1 hP 0 rfl rfl 1 (by decide) (hts (.fieldLink RX0 17 "NineDancers$History" "length" "I") (by decide +kernel)) (fun _ h9 => h9) rfl dX0_takeBackInto_23 ?_
    refine my_aldq (D := D) hx hb hK.1 hP 1 2 rfl rfl (by unfold vp_in; decide) (v := .ref (ra 0)) (congrArg va_rf (hf 0 (by decide))) dX0_takeBackInto_26 ?_
    refine ck_vD (wr := wH h sa 0 ++ (wA Y sa 6 f ++ (wR Y (ra 1) (rq 1) (Z 1) ++ (wR Y (ra 2) (rq 2) (Z 2) ++ (wR Y (ra 3) (rq 3) (Z 3) ++ (wR Y (ra 4) (rq 4) (Z 4) ++ wR Y (ra 5) (rq 5) (Z 5))))))) (ws' := wH h sa 0 ++ (wA Y sa 6 f ++ (wR Y (ra 0) (rq 0) (Z 0) ++ (wR Y (ra 1) (rq 1) (Z 1) ++ (wR Y (ra 2) (rq 2) (Z 2) ++ (wR Y (ra 3) (rq 3) (Z 3) ++ (wR Y (ra 4) (rq 4) (Z 4) ++ (wR Y (ra 5) (rq 5) (Z 5) ++ wR Y r q (D_X2_copyFrom S (Z 0)))))))))) (va_runV (As := [.ref (ra 0)]) (rest := []) ⟨hx, hb, hml, hown, hts⟩ (c_X2_copyFrom l D Y H.size q (rq 0) S (Z 0) r (ra 0)) (cwV 1 hts gX0_takeBackInto_X2_copyFrom rfl rfl rfl (by decide +kernel) ⟨Nat.le_of_ble_eq_true rfl, Nat.le_of_ble_eq_true rfl⟩) (pst_V hK hP hD [68, 69, 70, 71, 72, 73, 74, 75, 76, 77, 78, 2, 3, 4, 5, 6, 7, 8, 9, 10, 11, 12] rfl (by decide) (q0 := 0) rfl rfl) rfl rfl hl.1 rfl (lv_room (Nat.le_of_ble_eq_true rfl)) dX0_takeBackInto_27 ⟨Nat.zero_le _, Nat.zero_le _⟩) hP hD hS hA [68, 69, 70, 71, 72, 73, 74, 75, 76, 77, 78, 2, 3, 4, 5, 6, 7, 8, 9, 10, 11, 12] [0, 1, 13, 14, 15, 16, 17, 18, 19, 20, 21, 22, 23, 24, 25, 26, 27, 28, 29, 30, 31, 32, 33, 34, 35, 36, 37, 38, 39, 40, 41, 42, 43, 44, 45, 46, 47, 48, 49, 50, 51, 52, 53, 54, 55, 56, 57, 58, 59, 60, 61, 62, 63, 64, 65, 66, 67] [0, 1, 68, 69, 70, 71, 72, 73, 74, 75, 76, 77, 78, 2, 3, 4, 5, 6, 7, 8, 9, 10, 11, 12, 13, 14, 15, 16, 17, 18, 19, 20, 21, 22, 23, 24, 25, 26, 27, 28, 29, 30, 31, 32, 33, 34, 35, 36, 37, 38, 39, 40, 41, 42, 43, 44, 45, 46, 47, 48, 49, 50, 51, 52, 53, 54, 55, 56, 57, 58, 59, 60, 61, 62, 63, 64, 65, 66, 67] rfl rfl (by decide) (by decide) rfl (by decide) (fun H locs hP hD hS => ?_)
    obtain ⟨S_1, eS_1⟩ : ∃ z9, (D_X2_copyFrom S (Z 0)) = z9 := ⟨_, rfl⟩
    rw [eS_1] at hP hD
    subst eS_1
    have hP9 : va_P D vwCl (wHi Y h sa (D_X0_takeBackInto (1, f, ra, rq, Z) S).1 ++ wR Y r q (D_X0_takeBackInto (1, f, ra, rq, Z) S).2) H := hP
    have hD9 : va_D A (wHi Y h sa (D_X0_takeBackInto (1, f, ra, rq, Z) S).1 ++ wR Y r q (D_X0_takeBackInto (1, f, ra, rq, Z) S).2) := hD
    exact ret_v hx hb hr hlk hP9 hD9 hS dX0_takeBackInto_30 ⟨Nat.zero_le _, Nat.zero_le _⟩ rfl
set_option maxRecDepth 100000 in
theorem in_X0_takeBackInto_2_RX0 : ∀ w ∈ u_ws RX0 TX0 2, w ∈ wsX0_takeBackInto := by decide +kernel
set_option maxHeartbeats 4000000 in
set_option maxRecDepth 100000 in
theorem c_X0_takeBackInto_2 (l : Launch) (D : va_G) (Y : YY) (sz : Nat) (sa : Nat) (q : Nat → Nat) (f : Nat → Option Nat) (ra : Nat → Nat) (rq : Nat → Nat → Nat) (Z : Nat → Nat → Nat → Int32) (S : Nat → Nat → Int32) (h : Nat) (r : Nat) (hf : ∀ k, k < 6 → f k = some (ra k)) : Met l yX0_takeBackInto wsX0_takeBackInto ({ frames := 4, cells := 0, slots := 0, locals := 150 } : Room) (va_Pc [.ref h, .ref r] (Pst D Y sz (wH h sa 2 ++ (wA Y sa 6 f ++ (wR Y (ra 0) (rq 0) (Z 0) ++ (wR Y (ra 1) (rq 1) (Z 1) ++ (wR Y (ra 2) (rq 2) (Z 2) ++ (wR Y (ra 3) (rq 3) (Z 3) ++ (wR Y (ra 4) (rq 4) (Z 4) ++ (wR Y (ra 5) (rq 5) (Z 5) ++ wR Y r q S)))))))))) ((fun A : Nat → Prop => Qsv D (fun w9 => w9 = wHi Y h sa (D_X0_takeBackInto (2, f, ra, rq, Z) S).1 ++ wR Y r q (D_X0_takeBackInto (2, f, ra, rq, Z) S).2) A) (va_A (wH h sa 2 ++ (wA Y sa 6 f ++ (wR Y (ra 0) (rq 0) (Z 0) ++ (wR Y (ra 1) (rq 1) (Z 1) ++ (wR Y (ra 2) (rq 2) (Z 2) ++ (wR Y (ra 3) (rq 3) (Z 3) ++ (wR Y (ra 4) (rq 4) (Z 4) ++ (wR Y (ra 5) (rq 5) (Z 5) ++ wR Y r q S)))))))) sz)) 0 0 (va_A (wH h sa 2 ++ (wA Y sa 6 f ++ (wR Y (ra 0) (rq 0) (Z 0) ++ (wR Y (ra 1) (rq 1) (Z 1) ++ (wR Y (ra 2) (rq 2) (Z 2) ++ (wR Y (ra 3) (rq 3) (Z 3) ++ (wR Y (ra 4) (rq 4) (Z 4) ++ (wR Y (ra 5) (rq 5) (Z 5) ++ wR Y r q S)))))))) sz) := by
  refine ct_in (cc := cX0_takeBackInto) (maxL := 2) (ret := none) (Qc := fun A : Nat → Prop => Qsv D (fun w9 => w9 = wHi Y h sa (D_X0_takeBackInto (2, f, ra, rq, Z) S).1 ++ wR Y r q (D_X0_takeBackInto (2, f, ra, rq, Z) S).2) A) (by decide +kernel) rfl (Nat.le_of_ble_eq_true rfl) ?_
  intro p e s m below meth c A ls hx hb hr hts hown hml hlk hin hsz hA hP hD hK hS hl
  have hown : s.vm.findClass RX0 = some m.cls := hown
  have hl : lv_has ls 2 [(0, .ref h), (1, .ref r)] := hl
  show W p l e ({ frames := 4, cells := 0, slots := 0, locals := 150 } : Room) s m ([.ref h, .ref r] : List Value).toArray below meth c s.heap [] 0 0 (MQ below (Qsv D (fun w9 => w9 = wHi Y h sa (D_X0_takeBackInto (2, f, ra, rq, Z) S).1 ++ wR Y r q (D_X0_takeBackInto (2, f, ra, rq, Z) S).2) A) ([.ref h, .ref r] : List Value).toArray s 0 0 A) (F0 m 0 ls [])
  refine lv_aload_n hx hb dX0_takeBackInto_0 rfl (lv_at hl 0 rfl) ?_
  refine va_get (D := D) (ci := 0) (v := .int 2) (C := RX0) (T := TX0) (N := 2) hx hb hts in_X0_takeBackInto_2_RX0 hown hK.1 hP 0 rfl rfl 1 (by decide) (hts (.fieldLink RX0 17 "NineDancers$History" "length" "I") (by decide +kernel)) (fun _ h9 => h9) rfl dX0_takeBackInto_1 ?_
  refine lv_if_le (tgt := 30) hx hb dX0_takeBackInto_4 (by decide) (fun c_1 => ?_) (fun c_1 => ?_)
  · exact absurd c_1 (by decide)
  · refine lv_aload_n hx hb dX0_takeBackInto_7 rfl (lv_at hl 0 rfl) ?_
    refine lv_dup hx hb dX0_takeBackInto_8 rfl ?_
    refine va_get (D := D) (ci := 0) (v := .int 2) (C := RX0) (T := TX0) (N := 2) hx hb hts in_X0_takeBackInto_2_RX0 hown hK.1 hP 0 rfl rfl 1 (by decide) (hts (.fieldLink RX0 17 "NineDancers$History" "length" "I") (by decide +kernel)) (fun _ h9 => h9) rfl dX0_takeBackInto_9 ?_
    refine lv_iconst (v := 1) hx hb dX0_takeBackInto_12 (by decide) ?_
    refine lv_isub hx hb dX0_takeBackInto_13 ?_
    refine lv_topi (fun y9 e9 => ?_)
    obtain rfl : y9 = 1 := e9.trans (by decide)
    refine va_put (D := D) (ci := 0) (v := .int 1) (ty := .int) (C := RX0) (T := TX0) (N := 2) hx hb hts in_X0_takeBackInto_2_RX0 tyX0 tyX0_ok nmX0 hown hK.1 hP hD hS 0 rfl rfl 1 (by decide) (hts (.fieldLink RX0 17 "NineDancers$History" "length" "I") (by decide +kernel)) (fun _ h9 => h9) rfl (by decide +kernel) rfl rfl (Nat.le_of_ble_eq_true rfl) dX0_takeBackInto_14 (fun H locs hP hD hS => ?_)
    have hP : va_P D vwCl (wH h sa 1 ++ (wA Y sa 6 f ++ (wR Y (ra 0) (rq 0) (Z 0) ++ (wR Y (ra 1) (rq 1) (Z 1) ++ (wR Y (ra 2) (rq 2) (Z 2) ++ (wR Y (ra 3) (rq 3) (Z 3) ++ (wR Y (ra 4) (rq 4) (Z 4) ++ (wR Y (ra 5) (rq 5) (Z 5) ++ wR Y r q S)))))))) H := hP
    have hD : va_D A (wH h sa 1 ++ (wA Y sa 6 f ++ (wR Y (ra 0) (rq 0) (Z 0) ++ (wR Y (ra 1) (rq 1) (Z 1) ++ (wR Y (ra 2) (rq 2) (Z 2) ++ (wR Y (ra 3) (rq 3) (Z 3) ++ (wR Y (ra 4) (rq 4) (Z 4) ++ (wR Y (ra 5) (rq 5) (Z 5) ++ wR Y r q S)))))))) := hD
    refine lv_aload_n hx hb dX0_takeBackInto_17 rfl (lv_at hl 1 rfl) ?_
    refine lv_aload_n hx hb dX0_takeBackInto_18 rfl (lv_at hl 0 rfl) ?_
    refine va_get (D := D) (ci := 0) (v := .ref sa) (C := RX0) (T := TX0) (N := 2) hx hb hts in_X0_takeBackInto_2_RX0 hown hK.1 hP 0 rfl rfl 0 (by decide) (hts (.fieldLink RX0 11 "NineDancers$History" "states" "[LNineDancers$Ring;") (by decide +kernel)) (fun _ h9 => h9) rfl dX0_takeBackInto_19 ?_
    refine lv_aload_n hx hb dX0_takeBackInto_22 rfl (lv_at hl 0 rfl) ?_
    refine va_get (D := D) (ci := 0) (v := .int 1) (C := RX0) (T := TX0) (N := 2) hx hb hts in_X0_takeBackInto_2_RX0 hown hK.1 hP 0 rfl rfl 1 (by decide) (hts (.fieldLink RX0 17 "NineDancers$History" "length" "I") (by decide +kernel)) (fun _ h9 => h9) rfl dX0_takeBackInto_23 ?_
    refine my_aldq (D := D) hx hb hK.1 hP 1 2 rfl rfl (by unfold vp_in; decide) (v := .ref (ra 1)) (congrArg va_rf (hf 1 (by decide))) dX0_takeBackInto_26 ?_
    refine ck_vD (wr := wH h sa 1 ++ (wA Y sa 6 f ++ (wR Y (ra 0) (rq 0) (Z 0) ++ (wR Y (ra 2) (rq 2) (Z 2) ++ (wR Y (ra 3) (rq 3) (Z 3) ++ (wR Y (ra 4) (rq 4) (Z 4) ++ wR Y (ra 5) (rq 5) (Z 5))))))) (ws' := wH h sa 1 ++ (wA Y sa 6 f ++ (wR Y (ra 0) (rq 0) (Z 0) ++ (wR Y (ra 1) (rq 1) (Z 1) ++ (wR Y (ra 2) (rq 2) (Z 2) ++ (wR Y (ra 3) (rq 3) (Z 3) ++ (wR Y (ra 4) (rq 4) (Z 4) ++ (wR Y (ra 5) (rq 5) (Z 5) ++ wR Y r q (D_X2_copyFrom S (Z 1)))))))))) (va_runV (As := [.ref (ra 1)]) (rest := []) ⟨hx, hb, hml, hown, hts⟩ (c_X2_copyFrom l D Y H.size q (rq 1) S (Z 1) r (ra 1)) (cwV 1 hts gX0_takeBackInto_X2_copyFrom rfl rfl rfl (by decide +kernel) ⟨Nat.le_of_ble_eq_true rfl, Nat.le_of_ble_eq_true rfl⟩) (pst_V hK hP hD [68, 69, 70, 71, 72, 73, 74, 75, 76, 77, 78, 13, 14, 15, 16, 17, 18, 19, 20, 21, 22, 23] rfl (by decide) (q0 := 0) rfl rfl) rfl rfl hl.1 rfl (lv_room (Nat.le_of_ble_eq_true rfl)) dX0_takeBackInto_27 ⟨Nat.zero_le _, Nat.zero_le _⟩) hP hD hS hA [68, 69, 70, 71, 72, 73, 74, 75, 76, 77, 78, 13, 14, 15, 16, 17, 18, 19, 20, 21, 22, 23] [0, 1, 2, 3, 4, 5, 6, 7, 8, 9, 10, 11, 12, 24, 25, 26, 27, 28, 29, 30, 31, 32, 33, 34, 35, 36, 37, 38, 39, 40, 41, 42, 43, 44, 45, 46, 47, 48, 49, 50, 51, 52, 53, 54, 55, 56, 57, 58, 59, 60, 61, 62, 63, 64, 65, 66, 67] [0, 1, 2, 3, 4, 5, 6, 7, 8, 9, 10, 11, 12, 68, 69, 70, 71, 72, 73, 74, 75, 76, 77, 78, 13, 14, 15, 16, 17, 18, 19, 20, 21, 22, 23, 24, 25, 26, 27, 28, 29, 30, 31, 32, 33, 34, 35, 36, 37, 38, 39, 40, 41, 42, 43, 44, 45, 46, 47, 48, 49, 50, 51, 52, 53, 54, 55, 56, 57, 58, 59, 60, 61, 62, 63, 64, 65, 66, 67] rfl rfl (by decide) (by decide) rfl (by decide) (fun H locs hP hD hS => ?_)
    obtain ⟨S_1, eS_1⟩ : ∃ z9, (D_X2_copyFrom S (Z 1)) = z9 := ⟨_, rfl⟩
    rw [eS_1] at hP hD
    subst eS_1
    have hP9 : va_P D vwCl (wHi Y h sa (D_X0_takeBackInto (2, f, ra, rq, Z) S).1 ++ wR Y r q (D_X0_takeBackInto (2, f, ra, rq, Z) S).2) H := hP
    have hD9 : va_D A (wHi Y h sa (D_X0_takeBackInto (2, f, ra, rq, Z) S).1 ++ wR Y r q (D_X0_takeBackInto (2, f, ra, rq, Z) S).2) := hD
    exact ret_v hx hb hr hlk hP9 hD9 hS dX0_takeBackInto_30 ⟨Nat.zero_le _, Nat.zero_le _⟩ rfl
set_option maxRecDepth 100000 in
theorem in_X0_takeBackInto_3_RX0 : ∀ w ∈ u_ws RX0 TX0 2, w ∈ wsX0_takeBackInto := by decide +kernel
set_option maxHeartbeats 4000000 in
set_option maxRecDepth 100000 in
theorem c_X0_takeBackInto_3 (l : Launch) (D : va_G) (Y : YY) (sz : Nat) (sa : Nat) (q : Nat → Nat) (f : Nat → Option Nat) (ra : Nat → Nat) (rq : Nat → Nat → Nat) (Z : Nat → Nat → Nat → Int32) (S : Nat → Nat → Int32) (h : Nat) (r : Nat) (hf : ∀ k, k < 6 → f k = some (ra k)) : Met l yX0_takeBackInto wsX0_takeBackInto ({ frames := 4, cells := 0, slots := 0, locals := 150 } : Room) (va_Pc [.ref h, .ref r] (Pst D Y sz (wH h sa 3 ++ (wA Y sa 6 f ++ (wR Y (ra 0) (rq 0) (Z 0) ++ (wR Y (ra 1) (rq 1) (Z 1) ++ (wR Y (ra 2) (rq 2) (Z 2) ++ (wR Y (ra 3) (rq 3) (Z 3) ++ (wR Y (ra 4) (rq 4) (Z 4) ++ (wR Y (ra 5) (rq 5) (Z 5) ++ wR Y r q S)))))))))) ((fun A : Nat → Prop => Qsv D (fun w9 => w9 = wHi Y h sa (D_X0_takeBackInto (3, f, ra, rq, Z) S).1 ++ wR Y r q (D_X0_takeBackInto (3, f, ra, rq, Z) S).2) A) (va_A (wH h sa 3 ++ (wA Y sa 6 f ++ (wR Y (ra 0) (rq 0) (Z 0) ++ (wR Y (ra 1) (rq 1) (Z 1) ++ (wR Y (ra 2) (rq 2) (Z 2) ++ (wR Y (ra 3) (rq 3) (Z 3) ++ (wR Y (ra 4) (rq 4) (Z 4) ++ (wR Y (ra 5) (rq 5) (Z 5) ++ wR Y r q S)))))))) sz)) 0 0 (va_A (wH h sa 3 ++ (wA Y sa 6 f ++ (wR Y (ra 0) (rq 0) (Z 0) ++ (wR Y (ra 1) (rq 1) (Z 1) ++ (wR Y (ra 2) (rq 2) (Z 2) ++ (wR Y (ra 3) (rq 3) (Z 3) ++ (wR Y (ra 4) (rq 4) (Z 4) ++ (wR Y (ra 5) (rq 5) (Z 5) ++ wR Y r q S)))))))) sz) := by
  refine ct_in (cc := cX0_takeBackInto) (maxL := 2) (ret := none) (Qc := fun A : Nat → Prop => Qsv D (fun w9 => w9 = wHi Y h sa (D_X0_takeBackInto (3, f, ra, rq, Z) S).1 ++ wR Y r q (D_X0_takeBackInto (3, f, ra, rq, Z) S).2) A) (by decide +kernel) rfl (Nat.le_of_ble_eq_true rfl) ?_
  intro p e s m below meth c A ls hx hb hr hts hown hml hlk hin hsz hA hP hD hK hS hl
  have hown : s.vm.findClass RX0 = some m.cls := hown
  have hl : lv_has ls 2 [(0, .ref h), (1, .ref r)] := hl
  show W p l e ({ frames := 4, cells := 0, slots := 0, locals := 150 } : Room) s m ([.ref h, .ref r] : List Value).toArray below meth c s.heap [] 0 0 (MQ below (Qsv D (fun w9 => w9 = wHi Y h sa (D_X0_takeBackInto (3, f, ra, rq, Z) S).1 ++ wR Y r q (D_X0_takeBackInto (3, f, ra, rq, Z) S).2) A) ([.ref h, .ref r] : List Value).toArray s 0 0 A) (F0 m 0 ls [])
  refine lv_aload_n hx hb dX0_takeBackInto_0 rfl (lv_at hl 0 rfl) ?_
  refine va_get (D := D) (ci := 0) (v := .int 3) (C := RX0) (T := TX0) (N := 2) hx hb hts in_X0_takeBackInto_3_RX0 hown hK.1 hP 0 rfl rfl 1 (by decide) (hts (.fieldLink RX0 17 "NineDancers$History" "length" "I") (by decide +kernel)) (fun _ h9 => h9) rfl dX0_takeBackInto_1 ?_
  refine lv_if_le (tgt := 30) hx hb dX0_takeBackInto_4 (by decide) (fun c_1 => ?_) (fun c_1 => ?_)
  · exact absurd c_1 (by decide)
  · refine lv_aload_n hx hb dX0_takeBackInto_7 rfl (lv_at hl 0 rfl) ?_
    refine lv_dup hx hb dX0_takeBackInto_8 rfl ?_
    refine va_get (D := D) (ci := 0) (v := .int 3) (C := RX0) (T := TX0) (N := 2) hx hb hts in_X0_takeBackInto_3_RX0 hown hK.1 hP 0 rfl rfl 1 (by decide) (hts (.fieldLink RX0 17 "NineDancers$History" "length" "I") (by decide +kernel)) (fun _ h9 => h9) rfl dX0_takeBackInto_9 ?_
    refine lv_iconst (v := 1) hx hb dX0_takeBackInto_12 (by decide) ?_
    refine lv_isub hx hb dX0_takeBackInto_13 ?_
    refine lv_topi (fun y9 e9 => ?_)
    obtain rfl : y9 = 2 := e9.trans (by decide)
    refine va_put (D := D) (ci := 0) (v := .int 2) (ty := .int) (C := RX0) (T := TX0) (N := 2) hx hb hts in_X0_takeBackInto_3_RX0 tyX0 tyX0_ok nmX0 hown hK.1 hP hD hS 0 rfl rfl 1 (by decide) (hts (.fieldLink RX0 17 "NineDancers$History" "length" "I") (by decide +kernel)) (fun _ h9 => h9) rfl (by decide +kernel) rfl rfl (Nat.le_of_ble_eq_true rfl) dX0_takeBackInto_14 (fun H locs hP hD hS => ?_)
    have hP : va_P D vwCl (wH h sa 2 ++ (wA Y sa 6 f ++ (wR Y (ra 0) (rq 0) (Z 0) ++ (wR Y (ra 1) (rq 1) (Z 1) ++ (wR Y (ra 2) (rq 2) (Z 2) ++ (wR Y (ra 3) (rq 3) (Z 3) ++ (wR Y (ra 4) (rq 4) (Z 4) ++ (wR Y (ra 5) (rq 5) (Z 5) ++ wR Y r q S)))))))) H := hP
    have hD : va_D A (wH h sa 2 ++ (wA Y sa 6 f ++ (wR Y (ra 0) (rq 0) (Z 0) ++ (wR Y (ra 1) (rq 1) (Z 1) ++ (wR Y (ra 2) (rq 2) (Z 2) ++ (wR Y (ra 3) (rq 3) (Z 3) ++ (wR Y (ra 4) (rq 4) (Z 4) ++ (wR Y (ra 5) (rq 5) (Z 5) ++ wR Y r q S)))))))) := hD
    refine lv_aload_n hx hb dX0_takeBackInto_17 rfl (lv_at hl 1 rfl) ?_
    refine lv_aload_n hx hb dX0_takeBackInto_18 rfl (lv_at hl 0 rfl) ?_
    refine va_get (D := D) (ci := 0) (v := .ref sa) (C := RX0) (T := TX0) (N := 2) hx hb hts in_X0_takeBackInto_3_RX0 hown hK.1 hP 0 rfl rfl 0 (by decide) (hts (.fieldLink RX0 11 "NineDancers$History" "states" "[LNineDancers$Ring;") (by decide +kernel)) (fun _ h9 => h9) rfl dX0_takeBackInto_19 ?_
    refine lv_aload_n hx hb dX0_takeBackInto_22 rfl (lv_at hl 0 rfl) ?_
    refine va_get (D := D) (ci := 0) (v := .int 2) (C := RX0) (T := TX0) (N := 2) hx hb hts in_X0_takeBackInto_3_RX0 hown hK.1 hP 0 rfl rfl 1 (by decide) (hts (.fieldLink RX0 17 "NineDancers$History" "length" "I") (by decide +kernel)) (fun _ h9 => h9) rfl dX0_takeBackInto_23 ?_
    refine my_aldq (D := D) hx hb hK.1 hP 1 2 rfl rfl (by unfold vp_in; decide) (v := .ref (ra 2)) (congrArg va_rf (hf 2 (by decide))) dX0_takeBackInto_26 ?_
    refine ck_vD (wr := wH h sa 2 ++ (wA Y sa 6 f ++ (wR Y (ra 0) (rq 0) (Z 0) ++ (wR Y (ra 1) (rq 1) (Z 1) ++ (wR Y (ra 3) (rq 3) (Z 3) ++ (wR Y (ra 4) (rq 4) (Z 4) ++ wR Y (ra 5) (rq 5) (Z 5))))))) (ws' := wH h sa 2 ++ (wA Y sa 6 f ++ (wR Y (ra 0) (rq 0) (Z 0) ++ (wR Y (ra 1) (rq 1) (Z 1) ++ (wR Y (ra 2) (rq 2) (Z 2) ++ (wR Y (ra 3) (rq 3) (Z 3) ++ (wR Y (ra 4) (rq 4) (Z 4) ++ (wR Y (ra 5) (rq 5) (Z 5) ++ wR Y r q (D_X2_copyFrom S (Z 2)))))))))) (va_runV (As := [.ref (ra 2)]) (rest := []) ⟨hx, hb, hml, hown, hts⟩ (c_X2_copyFrom l D Y H.size q (rq 2) S (Z 2) r (ra 2)) (cwV 1 hts gX0_takeBackInto_X2_copyFrom rfl rfl rfl (by decide +kernel) ⟨Nat.le_of_ble_eq_true rfl, Nat.le_of_ble_eq_true rfl⟩) (pst_V hK hP hD [68, 69, 70, 71, 72, 73, 74, 75, 76, 77, 78, 24, 25, 26, 27, 28, 29, 30, 31, 32, 33, 34] rfl (by decide) (q0 := 0) rfl rfl) rfl rfl hl.1 rfl (lv_room (Nat.le_of_ble_eq_true rfl)) dX0_takeBackInto_27 ⟨Nat.zero_le _, Nat.zero_le _⟩) hP hD hS hA [68, 69, 70, 71, 72, 73, 74, 75, 76, 77, 78, 24, 25, 26, 27, 28, 29, 30, 31, 32, 33, 34] [0, 1, 2, 3, 4, 5, 6, 7, 8, 9, 10, 11, 12, 13, 14, 15, 16, 17, 18, 19, 20, 21, 22, 23, 35, 36, 37, 38, 39, 40, 41, 42, 43, 44, 45, 46, 47, 48, 49, 50, 51, 52, 53, 54, 55, 56, 57, 58, 59, 60, 61, 62, 63, 64, 65, 66, 67] [0, 1, 2, 3, 4, 5, 6, 7, 8, 9, 10, 11, 12, 13, 14, 15, 16, 17, 18, 19, 20, 21, 22, 23, 68, 69, 70, 71, 72, 73, 74, 75, 76, 77, 78, 24, 25, 26, 27, 28, 29, 30, 31, 32, 33, 34, 35, 36, 37, 38, 39, 40, 41, 42, 43, 44, 45, 46, 47, 48, 49, 50, 51, 52, 53, 54, 55, 56, 57, 58, 59, 60, 61, 62, 63, 64, 65, 66, 67] rfl rfl (by decide) (by decide) rfl (by decide) (fun H locs hP hD hS => ?_)
    obtain ⟨S_1, eS_1⟩ : ∃ z9, (D_X2_copyFrom S (Z 2)) = z9 := ⟨_, rfl⟩
    rw [eS_1] at hP hD
    subst eS_1
    have hP9 : va_P D vwCl (wHi Y h sa (D_X0_takeBackInto (3, f, ra, rq, Z) S).1 ++ wR Y r q (D_X0_takeBackInto (3, f, ra, rq, Z) S).2) H := hP
    have hD9 : va_D A (wHi Y h sa (D_X0_takeBackInto (3, f, ra, rq, Z) S).1 ++ wR Y r q (D_X0_takeBackInto (3, f, ra, rq, Z) S).2) := hD
    exact ret_v hx hb hr hlk hP9 hD9 hS dX0_takeBackInto_30 ⟨Nat.zero_le _, Nat.zero_le _⟩ rfl
set_option maxRecDepth 100000 in
theorem in_X0_takeBackInto_4_RX0 : ∀ w ∈ u_ws RX0 TX0 2, w ∈ wsX0_takeBackInto := by decide +kernel
set_option maxHeartbeats 4000000 in
set_option maxRecDepth 100000 in
theorem c_X0_takeBackInto_4 (l : Launch) (D : va_G) (Y : YY) (sz : Nat) (sa : Nat) (q : Nat → Nat) (f : Nat → Option Nat) (ra : Nat → Nat) (rq : Nat → Nat → Nat) (Z : Nat → Nat → Nat → Int32) (S : Nat → Nat → Int32) (h : Nat) (r : Nat) (hf : ∀ k, k < 6 → f k = some (ra k)) : Met l yX0_takeBackInto wsX0_takeBackInto ({ frames := 4, cells := 0, slots := 0, locals := 150 } : Room) (va_Pc [.ref h, .ref r] (Pst D Y sz (wH h sa 4 ++ (wA Y sa 6 f ++ (wR Y (ra 0) (rq 0) (Z 0) ++ (wR Y (ra 1) (rq 1) (Z 1) ++ (wR Y (ra 2) (rq 2) (Z 2) ++ (wR Y (ra 3) (rq 3) (Z 3) ++ (wR Y (ra 4) (rq 4) (Z 4) ++ (wR Y (ra 5) (rq 5) (Z 5) ++ wR Y r q S)))))))))) ((fun A : Nat → Prop => Qsv D (fun w9 => w9 = wHi Y h sa (D_X0_takeBackInto (4, f, ra, rq, Z) S).1 ++ wR Y r q (D_X0_takeBackInto (4, f, ra, rq, Z) S).2) A) (va_A (wH h sa 4 ++ (wA Y sa 6 f ++ (wR Y (ra 0) (rq 0) (Z 0) ++ (wR Y (ra 1) (rq 1) (Z 1) ++ (wR Y (ra 2) (rq 2) (Z 2) ++ (wR Y (ra 3) (rq 3) (Z 3) ++ (wR Y (ra 4) (rq 4) (Z 4) ++ (wR Y (ra 5) (rq 5) (Z 5) ++ wR Y r q S)))))))) sz)) 0 0 (va_A (wH h sa 4 ++ (wA Y sa 6 f ++ (wR Y (ra 0) (rq 0) (Z 0) ++ (wR Y (ra 1) (rq 1) (Z 1) ++ (wR Y (ra 2) (rq 2) (Z 2) ++ (wR Y (ra 3) (rq 3) (Z 3) ++ (wR Y (ra 4) (rq 4) (Z 4) ++ (wR Y (ra 5) (rq 5) (Z 5) ++ wR Y r q S)))))))) sz) := by
  refine ct_in (cc := cX0_takeBackInto) (maxL := 2) (ret := none) (Qc := fun A : Nat → Prop => Qsv D (fun w9 => w9 = wHi Y h sa (D_X0_takeBackInto (4, f, ra, rq, Z) S).1 ++ wR Y r q (D_X0_takeBackInto (4, f, ra, rq, Z) S).2) A) (by decide +kernel) rfl (Nat.le_of_ble_eq_true rfl) ?_
  intro p e s m below meth c A ls hx hb hr hts hown hml hlk hin hsz hA hP hD hK hS hl
  have hown : s.vm.findClass RX0 = some m.cls := hown
  have hl : lv_has ls 2 [(0, .ref h), (1, .ref r)] := hl
  show W p l e ({ frames := 4, cells := 0, slots := 0, locals := 150 } : Room) s m ([.ref h, .ref r] : List Value).toArray below meth c s.heap [] 0 0 (MQ below (Qsv D (fun w9 => w9 = wHi Y h sa (D_X0_takeBackInto (4, f, ra, rq, Z) S).1 ++ wR Y r q (D_X0_takeBackInto (4, f, ra, rq, Z) S).2) A) ([.ref h, .ref r] : List Value).toArray s 0 0 A) (F0 m 0 ls [])
  refine lv_aload_n hx hb dX0_takeBackInto_0 rfl (lv_at hl 0 rfl) ?_
  refine va_get (D := D) (ci := 0) (v := .int 4) (C := RX0) (T := TX0) (N := 2) hx hb hts in_X0_takeBackInto_4_RX0 hown hK.1 hP 0 rfl rfl 1 (by decide) (hts (.fieldLink RX0 17 "NineDancers$History" "length" "I") (by decide +kernel)) (fun _ h9 => h9) rfl dX0_takeBackInto_1 ?_
  refine lv_if_le (tgt := 30) hx hb dX0_takeBackInto_4 (by decide) (fun c_1 => ?_) (fun c_1 => ?_)
  · exact absurd c_1 (by decide)
  · refine lv_aload_n hx hb dX0_takeBackInto_7 rfl (lv_at hl 0 rfl) ?_
    refine lv_dup hx hb dX0_takeBackInto_8 rfl ?_
    refine va_get (D := D) (ci := 0) (v := .int 4) (C := RX0) (T := TX0) (N := 2) hx hb hts in_X0_takeBackInto_4_RX0 hown hK.1 hP 0 rfl rfl 1 (by decide) (hts (.fieldLink RX0 17 "NineDancers$History" "length" "I") (by decide +kernel)) (fun _ h9 => h9) rfl dX0_takeBackInto_9 ?_
    refine lv_iconst (v := 1) hx hb dX0_takeBackInto_12 (by decide) ?_
    refine lv_isub hx hb dX0_takeBackInto_13 ?_
    refine lv_topi (fun y9 e9 => ?_)
    obtain rfl : y9 = 3 := e9.trans (by decide)
    refine va_put (D := D) (ci := 0) (v := .int 3) (ty := .int) (C := RX0) (T := TX0) (N := 2) hx hb hts in_X0_takeBackInto_4_RX0 tyX0 tyX0_ok nmX0 hown hK.1 hP hD hS 0 rfl rfl 1 (by decide) (hts (.fieldLink RX0 17 "NineDancers$History" "length" "I") (by decide +kernel)) (fun _ h9 => h9) rfl (by decide +kernel) rfl rfl (Nat.le_of_ble_eq_true rfl) dX0_takeBackInto_14 (fun H locs hP hD hS => ?_)
    have hP : va_P D vwCl (wH h sa 3 ++ (wA Y sa 6 f ++ (wR Y (ra 0) (rq 0) (Z 0) ++ (wR Y (ra 1) (rq 1) (Z 1) ++ (wR Y (ra 2) (rq 2) (Z 2) ++ (wR Y (ra 3) (rq 3) (Z 3) ++ (wR Y (ra 4) (rq 4) (Z 4) ++ (wR Y (ra 5) (rq 5) (Z 5) ++ wR Y r q S)))))))) H := hP
    have hD : va_D A (wH h sa 3 ++ (wA Y sa 6 f ++ (wR Y (ra 0) (rq 0) (Z 0) ++ (wR Y (ra 1) (rq 1) (Z 1) ++ (wR Y (ra 2) (rq 2) (Z 2) ++ (wR Y (ra 3) (rq 3) (Z 3) ++ (wR Y (ra 4) (rq 4) (Z 4) ++ (wR Y (ra 5) (rq 5) (Z 5) ++ wR Y r q S)))))))) := hD
    refine lv_aload_n hx hb dX0_takeBackInto_17 rfl (lv_at hl 1 rfl) ?_
    refine lv_aload_n hx hb dX0_takeBackInto_18 rfl (lv_at hl 0 rfl) ?_
    refine va_get (D := D) (ci := 0) (v := .ref sa) (C := RX0) (T := TX0) (N := 2) hx hb hts in_X0_takeBackInto_4_RX0 hown hK.1 hP 0 rfl rfl 0 (by decide) (hts (.fieldLink RX0 11 "NineDancers$History" "states" "[LNineDancers$Ring;") (by decide +kernel)) (fun _ h9 => h9) rfl dX0_takeBackInto_19 ?_
    refine lv_aload_n hx hb dX0_takeBackInto_22 rfl (lv_at hl 0 rfl) ?_
    refine va_get (D := D) (ci := 0) (v := .int 3) (C := RX0) (T := TX0) (N := 2) hx hb hts in_X0_takeBackInto_4_RX0 hown hK.1 hP 0 rfl rfl 1 (by decide) (hts (.fieldLink RX0 17 "NineDancers$History" "length" "I") (by decide +kernel)) (fun _ h9 => h9) rfl dX0_takeBackInto_23 ?_
    refine my_aldq (D := D) hx hb hK.1 hP 1 2 rfl rfl (by unfold vp_in; decide) (v := .ref (ra 3)) (congrArg va_rf (hf 3 (by decide))) dX0_takeBackInto_26 ?_
    refine ck_vD (wr := wH h sa 3 ++ (wA Y sa 6 f ++ (wR Y (ra 0) (rq 0) (Z 0) ++ (wR Y (ra 1) (rq 1) (Z 1) ++ (wR Y (ra 2) (rq 2) (Z 2) ++ (wR Y (ra 4) (rq 4) (Z 4) ++ wR Y (ra 5) (rq 5) (Z 5))))))) (ws' := wH h sa 3 ++ (wA Y sa 6 f ++ (wR Y (ra 0) (rq 0) (Z 0) ++ (wR Y (ra 1) (rq 1) (Z 1) ++ (wR Y (ra 2) (rq 2) (Z 2) ++ (wR Y (ra 3) (rq 3) (Z 3) ++ (wR Y (ra 4) (rq 4) (Z 4) ++ (wR Y (ra 5) (rq 5) (Z 5) ++ wR Y r q (D_X2_copyFrom S (Z 3)))))))))) (va_runV (As := [.ref (ra 3)]) (rest := []) ⟨hx, hb, hml, hown, hts⟩ (c_X2_copyFrom l D Y H.size q (rq 3) S (Z 3) r (ra 3)) (cwV 1 hts gX0_takeBackInto_X2_copyFrom rfl rfl rfl (by decide +kernel) ⟨Nat.le_of_ble_eq_true rfl, Nat.le_of_ble_eq_true rfl⟩) (pst_V hK hP hD [68, 69, 70, 71, 72, 73, 74, 75, 76, 77, 78, 35, 36, 37, 38, 39, 40, 41, 42, 43, 44, 45] rfl (by decide) (q0 := 0) rfl rfl) rfl rfl hl.1 rfl (lv_room (Nat.le_of_ble_eq_true rfl)) dX0_takeBackInto_27 ⟨Nat.zero_le _, Nat.zero_le _⟩) hP hD hS hA [68, 69, 70, 71, 72, 73, 74, 75, 76, 77, 78, 35, 36, 37, 38, 39, 40, 41, 42, 43, 44, 45] [0, 1, 2, 3, 4, 5, 6, 7, 8, 9, 10, 11, 12, 13, 14, 15, 16, 17, 18, 19, 20, 21, 22, 23, 24, 25, 26, 27, 28, 29, 30, 31, 32, 33, 34, 46, 47, 48, 49, 50, 51, 52, 53, 54, 55, 56, 57, 58, 59, 60, 61, 62, 63, 64, 65, 66, 67] [0, 1, 2, 3, 4, 5, 6, 7, 8, 9, 10, 11, 12, 13, 14, 15, 16, 17, 18, 19, 20, 21, 22, 23, 24, 25, 26, 27, 28, 29, 30, 31, 32, 33, 34, 68, 69, 70, 71, 72, 73, 74, 75, 76, 77, 78, 35, 36, 37, 38, 39, 40, 41, 42, 43, 44, 45, 46, 47, 48, 49, 50, 51, 52, 53, 54, 55, 56, 57, 58, 59, 60, 61, 62, 63, 64, 65, 66, 67] rfl rfl (by decide) (by decide) rfl (by decide) (fun H locs hP hD hS => ?_)
    obtain ⟨S_1, eS_1⟩ : ∃ z9, (D_X2_copyFrom S (Z 3)) = z9 := ⟨_, rfl⟩
    rw [eS_1] at hP hD
    subst eS_1
    have hP9 : va_P D vwCl (wHi Y h sa (D_X0_takeBackInto (4, f, ra, rq, Z) S).1 ++ wR Y r q (D_X0_takeBackInto (4, f, ra, rq, Z) S).2) H := hP
    have hD9 : va_D A (wHi Y h sa (D_X0_takeBackInto (4, f, ra, rq, Z) S).1 ++ wR Y r q (D_X0_takeBackInto (4, f, ra, rq, Z) S).2) := hD
    exact ret_v hx hb hr hlk hP9 hD9 hS dX0_takeBackInto_30 ⟨Nat.zero_le _, Nat.zero_le _⟩ rfl
set_option maxRecDepth 100000 in
theorem in_X0_takeBackInto_5_RX0 : ∀ w ∈ u_ws RX0 TX0 2, w ∈ wsX0_takeBackInto := by decide +kernel
set_option maxHeartbeats 4000000 in
set_option maxRecDepth 100000 in
theorem c_X0_takeBackInto_5 (l : Launch) (D : va_G) (Y : YY) (sz : Nat) (sa : Nat) (q : Nat → Nat) (f : Nat → Option Nat) (ra : Nat → Nat) (rq : Nat → Nat → Nat) (Z : Nat → Nat → Nat → Int32) (S : Nat → Nat → Int32) (h : Nat) (r : Nat) (hf : ∀ k, k < 6 → f k = some (ra k)) : Met l yX0_takeBackInto wsX0_takeBackInto ({ frames := 4, cells := 0, slots := 0, locals := 150 } : Room) (va_Pc [.ref h, .ref r] (Pst D Y sz (wH h sa 5 ++ (wA Y sa 6 f ++ (wR Y (ra 0) (rq 0) (Z 0) ++ (wR Y (ra 1) (rq 1) (Z 1) ++ (wR Y (ra 2) (rq 2) (Z 2) ++ (wR Y (ra 3) (rq 3) (Z 3) ++ (wR Y (ra 4) (rq 4) (Z 4) ++ (wR Y (ra 5) (rq 5) (Z 5) ++ wR Y r q S)))))))))) ((fun A : Nat → Prop => Qsv D (fun w9 => w9 = wHi Y h sa (D_X0_takeBackInto (5, f, ra, rq, Z) S).1 ++ wR Y r q (D_X0_takeBackInto (5, f, ra, rq, Z) S).2) A) (va_A (wH h sa 5 ++ (wA Y sa 6 f ++ (wR Y (ra 0) (rq 0) (Z 0) ++ (wR Y (ra 1) (rq 1) (Z 1) ++ (wR Y (ra 2) (rq 2) (Z 2) ++ (wR Y (ra 3) (rq 3) (Z 3) ++ (wR Y (ra 4) (rq 4) (Z 4) ++ (wR Y (ra 5) (rq 5) (Z 5) ++ wR Y r q S)))))))) sz)) 0 0 (va_A (wH h sa 5 ++ (wA Y sa 6 f ++ (wR Y (ra 0) (rq 0) (Z 0) ++ (wR Y (ra 1) (rq 1) (Z 1) ++ (wR Y (ra 2) (rq 2) (Z 2) ++ (wR Y (ra 3) (rq 3) (Z 3) ++ (wR Y (ra 4) (rq 4) (Z 4) ++ (wR Y (ra 5) (rq 5) (Z 5) ++ wR Y r q S)))))))) sz) := by
  refine ct_in (cc := cX0_takeBackInto) (maxL := 2) (ret := none) (Qc := fun A : Nat → Prop => Qsv D (fun w9 => w9 = wHi Y h sa (D_X0_takeBackInto (5, f, ra, rq, Z) S).1 ++ wR Y r q (D_X0_takeBackInto (5, f, ra, rq, Z) S).2) A) (by decide +kernel) rfl (Nat.le_of_ble_eq_true rfl) ?_
  intro p e s m below meth c A ls hx hb hr hts hown hml hlk hin hsz hA hP hD hK hS hl
  have hown : s.vm.findClass RX0 = some m.cls := hown
  have hl : lv_has ls 2 [(0, .ref h), (1, .ref r)] := hl
  show W p l e ({ frames := 4, cells := 0, slots := 0, locals := 150 } : Room) s m ([.ref h, .ref r] : List Value).toArray below meth c s.heap [] 0 0 (MQ below (Qsv D (fun w9 => w9 = wHi Y h sa (D_X0_takeBackInto (5, f, ra, rq, Z) S).1 ++ wR Y r q (D_X0_takeBackInto (5, f, ra, rq, Z) S).2) A) ([.ref h, .ref r] : List Value).toArray s 0 0 A) (F0 m 0 ls [])
  refine lv_aload_n hx hb dX0_takeBackInto_0 rfl (lv_at hl 0 rfl) ?_
  refine va_get (D := D) (ci := 0) (v := .int 5) (C := RX0) (T := TX0) (N := 2) hx hb hts in_X0_takeBackInto_5_RX0 hown hK.1 hP 0 rfl rfl 1 (by decide) (hts (.fieldLink RX0 17 "NineDancers$History" "length" "I") (by decide +kernel)) (fun _ h9 => h9) rfl dX0_takeBackInto_1 ?_
  refine lv_if_le (tgt := 30) hx hb dX0_takeBackInto_4 (by decide) (fun c_1 => ?_) (fun c_1 => ?_)
  · exact absurd c_1 (by decide)
  · refine lv_aload_n hx hb dX0_takeBackInto_7 rfl (lv_at hl 0 rfl) ?_
    refine lv_dup hx hb dX0_takeBackInto_8 rfl ?_
    refine va_get (D := D) (ci := 0) (v := .int 5) (C := RX0) (T := TX0) (N := 2) hx hb hts in_X0_takeBackInto_5_RX0 hown hK.1 hP 0 rfl rfl 1 (by decide) (hts (.fieldLink RX0 17 "NineDancers$History" "length" "I") (by decide +kernel)) (fun _ h9 => h9) rfl dX0_takeBackInto_9 ?_
    refine lv_iconst (v := 1) hx hb dX0_takeBackInto_12 (by decide) ?_
    refine lv_isub hx hb dX0_takeBackInto_13 ?_
    refine lv_topi (fun y9 e9 => ?_)
    obtain rfl : y9 = 4 := e9.trans (by decide)
    refine va_put (D := D) (ci := 0) (v := .int 4) (ty := .int) (C := RX0) (T := TX0) (N := 2) hx hb hts in_X0_takeBackInto_5_RX0 tyX0 tyX0_ok nmX0 hown hK.1 hP hD hS 0 rfl rfl 1 (by decide) (hts (.fieldLink RX0 17 "NineDancers$History" "length" "I") (by decide +kernel)) (fun _ h9 => h9) rfl (by decide +kernel) rfl rfl (Nat.le_of_ble_eq_true rfl) dX0_takeBackInto_14 (fun H locs hP hD hS => ?_)
    have hP : va_P D vwCl (wH h sa 4 ++ (wA Y sa 6 f ++ (wR Y (ra 0) (rq 0) (Z 0) ++ (wR Y (ra 1) (rq 1) (Z 1) ++ (wR Y (ra 2) (rq 2) (Z 2) ++ (wR Y (ra 3) (rq 3) (Z 3) ++ (wR Y (ra 4) (rq 4) (Z 4) ++ (wR Y (ra 5) (rq 5) (Z 5) ++ wR Y r q S)))))))) H := hP
    have hD : va_D A (wH h sa 4 ++ (wA Y sa 6 f ++ (wR Y (ra 0) (rq 0) (Z 0) ++ (wR Y (ra 1) (rq 1) (Z 1) ++ (wR Y (ra 2) (rq 2) (Z 2) ++ (wR Y (ra 3) (rq 3) (Z 3) ++ (wR Y (ra 4) (rq 4) (Z 4) ++ (wR Y (ra 5) (rq 5) (Z 5) ++ wR Y r q S)))))))) := hD
    refine lv_aload_n hx hb dX0_takeBackInto_17 rfl (lv_at hl 1 rfl) ?_
    refine lv_aload_n hx hb dX0_takeBackInto_18 rfl (lv_at hl 0 rfl) ?_
    refine va_get (D := D) (ci := 0) (v := .ref sa) (C := RX0) (T := TX0) (N := 2) hx hb hts in_X0_takeBackInto_5_RX0 hown hK.1 hP 0 rfl rfl 0 (by decide) (hts (.fieldLink RX0 11 "NineDancers$History" "states" "[LNineDancers$Ring;") (by decide +kernel)) (fun _ h9 => h9) rfl dX0_takeBackInto_19 ?_
    refine lv_aload_n hx hb dX0_takeBackInto_22 rfl (lv_at hl 0 rfl) ?_
    refine va_get (D := D) (ci := 0) (v := .int 4) (C := RX0) (T := TX0) (N := 2) hx hb hts in_X0_takeBackInto_5_RX0 hown hK.1 hP 0 rfl rfl 1 (by decide) (hts (.fieldLink RX0 17 "NineDancers$History" "length" "I") (by decide +kernel)) (fun _ h9 => h9) rfl dX0_takeBackInto_23 ?_
    refine my_aldq (D := D) hx hb hK.1 hP 1 2 rfl rfl (by unfold vp_in; decide) (v := .ref (ra 4)) (congrArg va_rf (hf 4 (by decide))) dX0_takeBackInto_26 ?_
    refine ck_vD (wr := wH h sa 4 ++ (wA Y sa 6 f ++ (wR Y (ra 0) (rq 0) (Z 0) ++ (wR Y (ra 1) (rq 1) (Z 1) ++ (wR Y (ra 2) (rq 2) (Z 2) ++ (wR Y (ra 3) (rq 3) (Z 3) ++ wR Y (ra 5) (rq 5) (Z 5))))))) (ws' := wH h sa 4 ++ (wA Y sa 6 f ++ (wR Y (ra 0) (rq 0) (Z 0) ++ (wR Y (ra 1) (rq 1) (Z 1) ++ (wR Y (ra 2) (rq 2) (Z 2) ++ (wR Y (ra 3) (rq 3) (Z 3) ++ (wR Y (ra 4) (rq 4) (Z 4) ++ (wR Y (ra 5) (rq 5) (Z 5) ++ wR Y r q (D_X2_copyFrom S (Z 4)))))))))) (va_runV (As := [.ref (ra 4)]) (rest := []) ⟨hx, hb, hml, hown, hts⟩ (c_X2_copyFrom l D Y H.size q (rq 4) S (Z 4) r (ra 4)) (cwV 1 hts gX0_takeBackInto_X2_copyFrom rfl rfl rfl (by decide +kernel) ⟨Nat.le_of_ble_eq_true rfl, Nat.le_of_ble_eq_true rfl⟩) (pst_V hK hP hD [68, 69, 70, 71, 72, 73, 74, 75, 76, 77, 78, 46, 47, 48, 49, 50, 51, 52, 53, 54, 55, 56] rfl (by decide) (q0 := 0) rfl rfl) rfl rfl hl.1 rfl (lv_room (Nat.le_of_ble_eq_true rfl)) dX0_takeBackInto_27 ⟨Nat.zero_le _, Nat.zero_le _⟩) hP hD hS hA [68, 69, 70, 71, 72, 73, 74, 75, 76, 77, 78, 46, 47, 48, 49, 50, 51, 52, 53, 54, 55, 56] [0, 1, 2, 3, 4, 5, 6, 7, 8, 9, 10, 11, 12, 13, 14, 15, 16, 17, 18, 19, 20, 21, 22, 23, 24, 25, 26, 27, 28, 29, 30, 31, 32, 33, 34, 35, 36, 37, 38, 39, 40, 41, 42, 43, 44, 45, 57, 58, 59, 60, 61, 62, 63, 64, 65, 66, 67] [0, 1, 2, 3, 4, 5, 6, 7, 8, 9, 10, 11, 12, 13, 14, 15, 16, 17, 18, 19, 20, 21, 22, 23, 24, 25, 26, 27, 28, 29, 30, 31, 32, 33, 34, 35, 36, 37, 38, 39, 40, 41, 42, 43, 44, 45, 68, 69, 70, 71, 72, 73, 74, 75, 76, 77, 78, 46, 47, 48, 49, 50, 51, 52, 53, 54, 55, 56, 57, 58, 59, 60, 61, 62, 63, 64, 65, 66, 67] rfl rfl (by decide) (by decide) rfl (by decide) (fun H locs hP hD hS => ?_)
    obtain ⟨S_1, eS_1⟩ : ∃ z9, (D_X2_copyFrom S (Z 4)) = z9 := ⟨_, rfl⟩
    rw [eS_1] at hP hD
    subst eS_1
    have hP9 : va_P D vwCl (wHi Y h sa (D_X0_takeBackInto (5, f, ra, rq, Z) S).1 ++ wR Y r q (D_X0_takeBackInto (5, f, ra, rq, Z) S).2) H := hP
    have hD9 : va_D A (wHi Y h sa (D_X0_takeBackInto (5, f, ra, rq, Z) S).1 ++ wR Y r q (D_X0_takeBackInto (5, f, ra, rq, Z) S).2) := hD
    exact ret_v hx hb hr hlk hP9 hD9 hS dX0_takeBackInto_30 ⟨Nat.zero_le _, Nat.zero_le _⟩ rfl
set_option maxRecDepth 100000 in
theorem in_X0_takeBackInto_6_RX0 : ∀ w ∈ u_ws RX0 TX0 2, w ∈ wsX0_takeBackInto := by decide +kernel
set_option maxHeartbeats 4000000 in
set_option maxRecDepth 100000 in
theorem c_X0_takeBackInto_6 (l : Launch) (D : va_G) (Y : YY) (sz : Nat) (sa : Nat) (q : Nat → Nat) (f : Nat → Option Nat) (ra : Nat → Nat) (rq : Nat → Nat → Nat) (Z : Nat → Nat → Nat → Int32) (S : Nat → Nat → Int32) (h : Nat) (r : Nat) (hf : ∀ k, k < 6 → f k = some (ra k)) : Met l yX0_takeBackInto wsX0_takeBackInto ({ frames := 4, cells := 0, slots := 0, locals := 150 } : Room) (va_Pc [.ref h, .ref r] (Pst D Y sz (wH h sa 6 ++ (wA Y sa 6 f ++ (wR Y (ra 0) (rq 0) (Z 0) ++ (wR Y (ra 1) (rq 1) (Z 1) ++ (wR Y (ra 2) (rq 2) (Z 2) ++ (wR Y (ra 3) (rq 3) (Z 3) ++ (wR Y (ra 4) (rq 4) (Z 4) ++ (wR Y (ra 5) (rq 5) (Z 5) ++ wR Y r q S)))))))))) ((fun A : Nat → Prop => Qsv D (fun w9 => w9 = wHi Y h sa (D_X0_takeBackInto (6, f, ra, rq, Z) S).1 ++ wR Y r q (D_X0_takeBackInto (6, f, ra, rq, Z) S).2) A) (va_A (wH h sa 6 ++ (wA Y sa 6 f ++ (wR Y (ra 0) (rq 0) (Z 0) ++ (wR Y (ra 1) (rq 1) (Z 1) ++ (wR Y (ra 2) (rq 2) (Z 2) ++ (wR Y (ra 3) (rq 3) (Z 3) ++ (wR Y (ra 4) (rq 4) (Z 4) ++ (wR Y (ra 5) (rq 5) (Z 5) ++ wR Y r q S)))))))) sz)) 0 0 (va_A (wH h sa 6 ++ (wA Y sa 6 f ++ (wR Y (ra 0) (rq 0) (Z 0) ++ (wR Y (ra 1) (rq 1) (Z 1) ++ (wR Y (ra 2) (rq 2) (Z 2) ++ (wR Y (ra 3) (rq 3) (Z 3) ++ (wR Y (ra 4) (rq 4) (Z 4) ++ (wR Y (ra 5) (rq 5) (Z 5) ++ wR Y r q S)))))))) sz) := by
  refine ct_in (cc := cX0_takeBackInto) (maxL := 2) (ret := none) (Qc := fun A : Nat → Prop => Qsv D (fun w9 => w9 = wHi Y h sa (D_X0_takeBackInto (6, f, ra, rq, Z) S).1 ++ wR Y r q (D_X0_takeBackInto (6, f, ra, rq, Z) S).2) A) (by decide +kernel) rfl (Nat.le_of_ble_eq_true rfl) ?_
  intro p e s m below meth c A ls hx hb hr hts hown hml hlk hin hsz hA hP hD hK hS hl
  have hown : s.vm.findClass RX0 = some m.cls := hown
  have hl : lv_has ls 2 [(0, .ref h), (1, .ref r)] := hl
  show W p l e ({ frames := 4, cells := 0, slots := 0, locals := 150 } : Room) s m ([.ref h, .ref r] : List Value).toArray below meth c s.heap [] 0 0 (MQ below (Qsv D (fun w9 => w9 = wHi Y h sa (D_X0_takeBackInto (6, f, ra, rq, Z) S).1 ++ wR Y r q (D_X0_takeBackInto (6, f, ra, rq, Z) S).2) A) ([.ref h, .ref r] : List Value).toArray s 0 0 A) (F0 m 0 ls [])
  refine lv_aload_n hx hb dX0_takeBackInto_0 rfl (lv_at hl 0 rfl) ?_
  refine va_get (D := D) (ci := 0) (v := .int 6) (C := RX0) (T := TX0) (N := 2) hx hb hts in_X0_takeBackInto_6_RX0 hown hK.1 hP 0 rfl rfl 1 (by decide) (hts (.fieldLink RX0 17 "NineDancers$History" "length" "I") (by decide +kernel)) (fun _ h9 => h9) rfl dX0_takeBackInto_1 ?_
  refine lv_if_le (tgt := 30) hx hb dX0_takeBackInto_4 (by decide) (fun c_1 => ?_) (fun c_1 => ?_)
  · exact absurd c_1 (by decide)
  · refine lv_aload_n hx hb dX0_takeBackInto_7 rfl (lv_at hl 0 rfl) ?_
    refine lv_dup hx hb dX0_takeBackInto_8 rfl ?_
    refine va_get (D := D) (ci := 0) (v := .int 6) (C := RX0) (T := TX0) (N := 2) hx hb hts in_X0_takeBackInto_6_RX0 hown hK.1 hP 0 rfl rfl 1 (by decide) (hts (.fieldLink RX0 17 "NineDancers$History" "length" "I") (by decide +kernel)) (fun _ h9 => h9) rfl dX0_takeBackInto_9 ?_
    refine lv_iconst (v := 1) hx hb dX0_takeBackInto_12 (by decide) ?_
    refine lv_isub hx hb dX0_takeBackInto_13 ?_
    refine lv_topi (fun y9 e9 => ?_)
    obtain rfl : y9 = 5 := e9.trans (by decide)
    refine va_put (D := D) (ci := 0) (v := .int 5) (ty := .int) (C := RX0) (T := TX0) (N := 2) hx hb hts in_X0_takeBackInto_6_RX0 tyX0 tyX0_ok nmX0 hown hK.1 hP hD hS 0 rfl rfl 1 (by decide) (hts (.fieldLink RX0 17 "NineDancers$History" "length" "I") (by decide +kernel)) (fun _ h9 => h9) rfl (by decide +kernel) rfl rfl (Nat.le_of_ble_eq_true rfl) dX0_takeBackInto_14 (fun H locs hP hD hS => ?_)
    have hP : va_P D vwCl (wH h sa 5 ++ (wA Y sa 6 f ++ (wR Y (ra 0) (rq 0) (Z 0) ++ (wR Y (ra 1) (rq 1) (Z 1) ++ (wR Y (ra 2) (rq 2) (Z 2) ++ (wR Y (ra 3) (rq 3) (Z 3) ++ (wR Y (ra 4) (rq 4) (Z 4) ++ (wR Y (ra 5) (rq 5) (Z 5) ++ wR Y r q S)))))))) H := hP
    have hD : va_D A (wH h sa 5 ++ (wA Y sa 6 f ++ (wR Y (ra 0) (rq 0) (Z 0) ++ (wR Y (ra 1) (rq 1) (Z 1) ++ (wR Y (ra 2) (rq 2) (Z 2) ++ (wR Y (ra 3) (rq 3) (Z 3) ++ (wR Y (ra 4) (rq 4) (Z 4) ++ (wR Y (ra 5) (rq 5) (Z 5) ++ wR Y r q S)))))))) := hD
    refine lv_aload_n hx hb dX0_takeBackInto_17 rfl (lv_at hl 1 rfl) ?_
    refine lv_aload_n hx hb dX0_takeBackInto_18 rfl (lv_at hl 0 rfl) ?_
    refine va_get (D := D) (ci := 0) (v := .ref sa) (C := RX0) (T := TX0) (N := 2) hx hb hts in_X0_takeBackInto_6_RX0 hown hK.1 hP 0 rfl rfl 0 (by decide) (hts (.fieldLink RX0 11 "NineDancers$History" "states" "[LNineDancers$Ring;") (by decide +kernel)) (fun _ h9 => h9) rfl dX0_takeBackInto_19 ?_
    refine lv_aload_n hx hb dX0_takeBackInto_22 rfl (lv_at hl 0 rfl) ?_
    refine va_get (D := D) (ci := 0) (v := .int 5) (C := RX0) (T := TX0) (N := 2) hx hb hts in_X0_takeBackInto_6_RX0 hown hK.1 hP 0 rfl rfl 1 (by decide) (hts (.fieldLink RX0 17 "NineDancers$History" "length" "I") (by decide +kernel)) (fun _ h9 => h9) rfl dX0_takeBackInto_23 ?_
    refine my_aldq (D := D) hx hb hK.1 hP 1 2 rfl rfl (by unfold vp_in; decide) (v := .ref (ra 5)) (congrArg va_rf (hf 5 (by decide))) dX0_takeBackInto_26 ?_
    refine ck_vD (wr := wH h sa 5 ++ (wA Y sa 6 f ++ (wR Y (ra 0) (rq 0) (Z 0) ++ (wR Y (ra 1) (rq 1) (Z 1) ++ (wR Y (ra 2) (rq 2) (Z 2) ++ (wR Y (ra 3) (rq 3) (Z 3) ++ wR Y (ra 4) (rq 4) (Z 4))))))) (ws' := wH h sa 5 ++ (wA Y sa 6 f ++ (wR Y (ra 0) (rq 0) (Z 0) ++ (wR Y (ra 1) (rq 1) (Z 1) ++ (wR Y (ra 2) (rq 2) (Z 2) ++ (wR Y (ra 3) (rq 3) (Z 3) ++ (wR Y (ra 4) (rq 4) (Z 4) ++ (wR Y (ra 5) (rq 5) (Z 5) ++ wR Y r q (D_X2_copyFrom S (Z 5)))))))))) (va_runV (As := [.ref (ra 5)]) (rest := []) ⟨hx, hb, hml, hown, hts⟩ (c_X2_copyFrom l D Y H.size q (rq 5) S (Z 5) r (ra 5)) (cwV 1 hts gX0_takeBackInto_X2_copyFrom rfl rfl rfl (by decide +kernel) ⟨Nat.le_of_ble_eq_true rfl, Nat.le_of_ble_eq_true rfl⟩) (pst_V hK hP hD [68, 69, 70, 71, 72, 73, 74, 75, 76, 77, 78, 57, 58, 59, 60, 61, 62, 63, 64, 65, 66, 67] rfl (by decide) (q0 := 0) rfl rfl) rfl rfl hl.1 rfl (lv_room (Nat.le_of_ble_eq_true rfl)) dX0_takeBackInto_27 ⟨Nat.zero_le _, Nat.zero_le _⟩) hP hD hS hA [68, 69, 70, 71, 72, 73, 74, 75, 76, 77, 78, 57, 58, 59, 60, 61, 62, 63, 64, 65, 66, 67] [0, 1, 2, 3, 4, 5, 6, 7, 8, 9, 10, 11, 12, 13, 14, 15, 16, 17, 18, 19, 20, 21, 22, 23, 24, 25, 26, 27, 28, 29, 30, 31, 32, 33, 34, 35, 36, 37, 38, 39, 40, 41, 42, 43, 44, 45, 46, 47, 48, 49, 50, 51, 52, 53, 54, 55, 56] [0, 1, 2, 3, 4, 5, 6, 7, 8, 9, 10, 11, 12, 13, 14, 15, 16, 17, 18, 19, 20, 21, 22, 23, 24, 25, 26, 27, 28, 29, 30, 31, 32, 33, 34, 35, 36, 37, 38, 39, 40, 41, 42, 43, 44, 45, 46, 47, 48, 49, 50, 51, 52, 53, 54, 55, 56, 68, 69, 70, 71, 72, 73, 74, 75, 76, 77, 78, 57, 58, 59, 60, 61, 62, 63, 64, 65, 66, 67] rfl rfl (by decide) (by decide) rfl (by decide) (fun H locs hP hD hS => ?_)
    obtain ⟨S_1, eS_1⟩ : ∃ z9, (D_X2_copyFrom S (Z 5)) = z9 := ⟨_, rfl⟩
    rw [eS_1] at hP hD
    subst eS_1
    have hP9 : va_P D vwCl (wHi Y h sa (D_X0_takeBackInto (6, f, ra, rq, Z) S).1 ++ wR Y r q (D_X0_takeBackInto (6, f, ra, rq, Z) S).2) H := hP
    have hD9 : va_D A (wHi Y h sa (D_X0_takeBackInto (6, f, ra, rq, Z) S).1 ++ wR Y r q (D_X0_takeBackInto (6, f, ra, rq, Z) S).2) := hD
    exact ret_v hx hb hr hlk hP9 hD9 hS dX0_takeBackInto_30 ⟨Nat.zero_le _, Nat.zero_le _⟩ rfl
set_option maxHeartbeats 4000000 in
set_option maxRecDepth 100000 in
theorem c_X0_takeBackInto (l : Launch) (D : va_G) (Y : YY) (sz : Nat) (sa : Nat) (q : Nat → Nat) (u : HS) (S : Nat → Nat → Int32) (h : Nat) (r : Nat) (hu : hok u) : Met l yX0_takeBackInto wsX0_takeBackInto ({ frames := 4, cells := 0, slots := 0, locals := 150 } : Room) (va_Pc [.ref h, .ref r] (Pst D Y sz (wHi Y h sa u ++ wR Y r q S))) ((fun A : Nat → Prop => Qsv D (fun w9 => w9 = wHi Y h sa (D_X0_takeBackInto u S).1 ++ wR Y r q (D_X0_takeBackInto u S).2) A) (va_A (wHi Y h sa u ++ wR Y r q S) sz)) 0 0 (va_A (wHi Y h sa u ++ wR Y r q S) sz) := by
  obtain ⟨k, f, ra, rq, Z⟩ := u
  obtain ⟨hk, hf⟩ := hu
  have hk : k ≤ 6 := hk
  have hf : ∀ k, k < 6 → f k = some (ra k) := hf
  obtain rfl | rfl | rfl | rfl | rfl | rfl | rfl : k = 0 ∨ k = 1 ∨ k = 2 ∨ k = 3 ∨ k = 4 ∨ k = 5 ∨ k = 6 := by omega
  · have e : wHi Y h sa (0, f, ra, rq, Z) ++ wR Y r q S = wH h sa 0 ++ (wA Y sa 6 f ++ (wR Y (ra 0) (rq 0) (Z 0) ++ (wR Y (ra 1) (rq 1) (Z 1) ++ (wR Y (ra 2) (rq 2) (Z 2) ++ (wR Y (ra 3) (rq 3) (Z 3) ++ (wR Y (ra 4) (rq 4) (Z 4) ++ (wR Y (ra 5) (rq 5) (Z 5) ++ wR Y r q S))))))) := rfl
    rw [e]
    exact c_X0_takeBackInto_0 l D Y sz sa q f ra rq Z S h r hf
  · have e : wHi Y h sa (1, f, ra, rq, Z) ++ wR Y r q S = wH h sa 1 ++ (wA Y sa 6 f ++ (wR Y (ra 0) (rq 0) (Z 0) ++ (wR Y (ra 1) (rq 1) (Z 1) ++ (wR Y (ra 2) (rq 2) (Z 2) ++ (wR Y (ra 3) (rq 3) (Z 3) ++ (wR Y (ra 4) (rq 4) (Z 4) ++ (wR Y (ra 5) (rq 5) (Z 5) ++ wR Y r q S))))))) := rfl
    rw [e]
    exact c_X0_takeBackInto_1 l D Y sz sa q f ra rq Z S h r hf
  · have e : wHi Y h sa (2, f, ra, rq, Z) ++ wR Y r q S = wH h sa 2 ++ (wA Y sa 6 f ++ (wR Y (ra 0) (rq 0) (Z 0) ++ (wR Y (ra 1) (rq 1) (Z 1) ++ (wR Y (ra 2) (rq 2) (Z 2) ++ (wR Y (ra 3) (rq 3) (Z 3) ++ (wR Y (ra 4) (rq 4) (Z 4) ++ (wR Y (ra 5) (rq 5) (Z 5) ++ wR Y r q S))))))) := rfl
    rw [e]
    exact c_X0_takeBackInto_2 l D Y sz sa q f ra rq Z S h r hf
  · have e : wHi Y h sa (3, f, ra, rq, Z) ++ wR Y r q S = wH h sa 3 ++ (wA Y sa 6 f ++ (wR Y (ra 0) (rq 0) (Z 0) ++ (wR Y (ra 1) (rq 1) (Z 1) ++ (wR Y (ra 2) (rq 2) (Z 2) ++ (wR Y (ra 3) (rq 3) (Z 3) ++ (wR Y (ra 4) (rq 4) (Z 4) ++ (wR Y (ra 5) (rq 5) (Z 5) ++ wR Y r q S))))))) := rfl
    rw [e]
    exact c_X0_takeBackInto_3 l D Y sz sa q f ra rq Z S h r hf
  · have e : wHi Y h sa (4, f, ra, rq, Z) ++ wR Y r q S = wH h sa 4 ++ (wA Y sa 6 f ++ (wR Y (ra 0) (rq 0) (Z 0) ++ (wR Y (ra 1) (rq 1) (Z 1) ++ (wR Y (ra 2) (rq 2) (Z 2) ++ (wR Y (ra 3) (rq 3) (Z 3) ++ (wR Y (ra 4) (rq 4) (Z 4) ++ (wR Y (ra 5) (rq 5) (Z 5) ++ wR Y r q S))))))) := rfl
    rw [e]
    exact c_X0_takeBackInto_4 l D Y sz sa q f ra rq Z S h r hf
  · have e : wHi Y h sa (5, f, ra, rq, Z) ++ wR Y r q S = wH h sa 5 ++ (wA Y sa 6 f ++ (wR Y (ra 0) (rq 0) (Z 0) ++ (wR Y (ra 1) (rq 1) (Z 1) ++ (wR Y (ra 2) (rq 2) (Z 2) ++ (wR Y (ra 3) (rq 3) (Z 3) ++ (wR Y (ra 4) (rq 4) (Z 4) ++ (wR Y (ra 5) (rq 5) (Z 5) ++ wR Y r q S))))))) := rfl
    rw [e]
    exact c_X0_takeBackInto_5 l D Y sz sa q f ra rq Z S h r hf
  · have e : wHi Y h sa (6, f, ra, rq, Z) ++ wR Y r q S = wH h sa 6 ++ (wA Y sa 6 f ++ (wR Y (ra 0) (rq 0) (Z 0) ++ (wR Y (ra 1) (rq 1) (Z 1) ++ (wR Y (ra 2) (rq 2) (Z 2) ++ (wR Y (ra 3) (rq 3) (Z 3) ++ (wR Y (ra 4) (rq 4) (Z 4) ++ (wR Y (ra 5) (rq 5) (Z 5) ++ wR Y r q S))))))) := rfl
    rw [e]
    exact c_X0_takeBackInto_6 l D Y sz sa q f ra rq Z S h r hf

theorem my_dn0 (x : Int32) : 0 + x - 1 = x + (-1) := by rw [Int32.zero_add, Int32.sub_eq_add_neg]
theorem my_dn {x : Int32} {k : Nat} (ex : x = nI k + (-1)) (hk : k < 2 ^ 31) (c : ¬ x < 0) : ∃ j : Nat, k = j + 1 ∧ x = nI j := by
  cases k with
  | zero => exact absurd (by rw [ex]; decide) c
  | succ j => exact ⟨j, rfl, by rw [ex]; exact pk_m1 j⟩
theorem in_chars3 (ch : Int64) : ∀ (n : Nat) (i : Int32) (lf : Int64), vp_in i 9 → vp_in (L_X3_charactersIn_5 ch n i lf) 9 := by
  intro n
  induction n with
  | zero => intro i lf h; unfold L_X3_charactersIn_5 vp_in; decide
  | succ n ih =>
    intro i lf h
    rw [L_X3_charactersIn_5]
    split
    · exact h
    · split
      · exact h
      · rename_i h8
        split
        · unfold vp_in; decide
        · split
          · refine ih _ _ ?_
            obtain ⟨j, hj, rfl⟩ := vp_in_of h (by decide)
            have h9 : j < 8 := my_lt rfl (show (8 : Int32) = nI 8 from rfl) (by decide) (by omega) h8
            rw [nI_1]
            exact vp_in_nI (by omega) (by decide)
          · unfold vp_in; decide
theorem in_charsIn (ch : Int64) : vp_in (D_X3_charactersIn ch) 9 := in_chars3 ch _ _ _ (by unfold vp_in; decide)
def T_X1_append_2 (ch : Int64) (gv : Int32) (i : Int32) (P1 : Nat → Nat → Int32) : Nat → Nat → Int32 := s2 P1 0 i.toNatClampNeg (vp_nar .char ((((((ch.toUInt64 >>> ((8 * ((((P1 1 0) + gv) - 1) - i)).toInt64.toUInt64 &&& Int64.toUInt64 63)).toInt64) &&& 255).toInt32).toUInt32 % 65536).toInt32))
def L_X1_append_10 (P : Nat → Nat → Int32) (ch : Int64) (gv : Int32) : Nat → (Int32) → (Nat → Nat → Int32) → (Nat → Nat → Int32)
  | 0, i, P1 => P1
  | n_10 + 1, i, P1 => if i < (P1 1 0) then P1 else (L_X1_append_10 P ch gv n_10 (i + (-1)) (T_X1_append_2 ch gv i P1))
def T_X1_append_1 (gv : Int32) (P1 : Nat → Nat → Int32) : Nat → Nat → Int32 := s2 P1 1 0 ((P1 1 0) + gv)
def D_X1_append (P : Nat → Nat → Int32) (ch : Int64) (gv : Int32) : (Nat → Nat → Int32) := (T_X1_append_1 gv (L_X1_append_10 P ch gv 10 (((P 1 0) + gv) - 1) P))
set_option maxRecDepth 100000 in
theorem in_X1_append_RX1 : ∀ w ∈ u_ws RX1 TX1 2, w ∈ wsX1_append := by decide +kernel
set_option maxHeartbeats 4000000 in
set_option maxRecDepth 100000 in
theorem c_X1_append (l : Launch) (D : va_G) (Y : YY) (sz : Nat) (tx : Nat) (P : Nat → Nat → Int32) (pp : Nat) (ch : Int64) (gv : Int32) (hT : P 1 0 = 0) (hg : vp_in gv 9) : Met l yX1_append wsX1_append ({ frames := 0, cells := 0, slots := 0, locals := 0 } : Room) (va_Pc [.ref pp, .long ch, .int gv] (Pst D Y sz (wP Y pp tx P))) ((fun A : Nat → Prop => Qsv D (fun w9 => w9 = wP Y pp tx (D_X1_append P ch gv)) A) (va_A (wP Y pp tx P) sz)) 0 0 (va_A (wP Y pp tx P) sz) := by
  refine ct_in (cc := cX1_append) (maxL := 5) (ret := none) (Qc := fun A : Nat → Prop => Qsv D (fun w9 => w9 = wP Y pp tx (D_X1_append P ch gv)) A) (by decide +kernel) rfl (Nat.le_of_ble_eq_true rfl) ?_
  intro p e s m below meth c A ls hx hb hr hts hown hml hlk hin hsz hA hP hD hK hS hl
  have hown : s.vm.findClass RX1 = some m.cls := hown
  have hl : lv_has ls 5 [(0, .ref pp), (1, .long ch), (3, .int gv)] := hl
  show W p l e ({ frames := 0, cells := 0, slots := 0, locals := 0 } : Room) s m ([.ref pp, .long ch, .int gv] : List Value).toArray below meth c s.heap [] 0 0 (MQ below (Qsv D (fun w9 => w9 = wP Y pp tx (D_X1_append P ch gv)) A) ([.ref pp, .long ch, .int gv] : List Value).toArray s 0 0 A) (F0 m 0 ls [])
  refine lv_aload_n hx hb dX1_append_0 rfl (lv_at hl 0 rfl) ?_
  refine va_get (D := D) (ci := 1) (v := .int (P 1 0)) (C := RX1) (T := TX1) (N := 2) hx hb hts in_X1_append_RX1 hown hK.1 hP 0 rfl rfl 1 (by decide) (hts (.fieldLink RX1 15 "NineDancers$Pad" "length" "I") (by decide +kernel)) (fun _ h9 => h9) rfl dX1_append_1 ?_
  refine lv_iload_n hx hb dX1_append_4 rfl (lv_at hl 2 rfl) ?_
  refine lv_iadd hx hb dX1_append_5 ?_
  refine lv_iconst (v := 1) hx hb dX1_append_6 (by decide) ?_
  refine lv_isub hx hb dX1_append_7 ?_
  refine lv_istore (lv' := [(4, .int (((P 1 0) + gv) - 1)), (0, .ref pp), (1, .long ch), (3, .int gv)]) hx hb dX1_append_8 hl (by decide) rfl (fun ls hl => ?_)
  obtain ⟨g0, hg0, eg0⟩ := vp_in_of hg (by decide)
  have loop_10 : ∀ (n_10 k_10 : Nat) (i : Int32) (P1 : Nat → Nat → Int32) (H : Heap) (locs : List Loc) (ls : Array Slot), k_10 + 1 ≤ n_10 → k_10 ≤ 8 → i = nI k_10 + (-1) → (P1 1 0 = 0) → va_P D vwCl (wP Y pp tx P1) H → va_D A (wP Y pp tx P1) → va_S A s.heap H locs → lv_has ls 5 [(4, .int i), (0, .ref pp), (1, .long ch), (3, .int gv)] → L_X1_append_10 P ch gv n_10 i P1 = L_X1_append_10 P ch gv 10 (((P 1 0) + gv) - 1) P → W p l e ({ frames := 0, cells := 0, slots := 0, locals := 0 } : Room) s m ([.ref pp, .long ch, .int gv] : List Value).toArray below meth c H locs 0 0 (MQ below (Qsv D (fun w9 => w9 = wP Y pp tx (D_X1_append P ch gv)) A) ([.ref pp, .long ch, .int gv] : List Value).toArray s 0 0 A) (F0 m 10 ls []) := by
    intro n_10
    induction n_10 with
    | zero => intro k_10 i P1 H locs ls hkf hkN_10 ex_10 hM hP hD hS hl hR_10; exact absurd hkf (by omega)
    | succ n_10 ih_10 =>
      intro k_10 i P1 H locs ls hkf hkN_10 ex_10 hM hP hD hS hl hR_10
      refine lv_iload hx hb dX1_append_10 (lv_at hl 0 rfl) ?_
      refine lv_aload_n hx hb dX1_append_12 rfl (lv_at hl 1 rfl) ?_
      refine va_get (D := D) (ci := 1) (v := .int (P1 1 0)) (C := RX1) (T := TX1) (N := 2) hx hb hts in_X1_append_RX1 hown hK.1 hP 0 rfl rfl 1 (by decide) (hts (.fieldLink RX1 15 "NineDancers$Pad" "length" "I") (by decide +kernel)) (fun _ h9 => h9) rfl dX1_append_13 ?_
      refine lv_icmp_lt (tgt := 54) hx hb dX1_append_16 (by decide) (fun c_1 => ?_) (fun c_1 => ?_)
      · have e8 : L_X1_append_10 P ch gv (n_10 + 1) i P1 = P1 := by rw [L_X1_append_10, if_pos c_1]
        have e8 := hR_10.symm.trans e8
        have eP1 : L_X1_append_10 P ch gv 10 (((P 1 0) + gv) - 1) P = P1 := by rw [e8]
        clear e8 hR_10 ih_10
        refine lv_aload_n hx hb dX1_append_54 rfl (lv_at hl 1 rfl) ?_
        refine lv_dup hx hb dX1_append_55 rfl ?_
        refine va_get (D := D) (ci := 1) (v := .int (P1 1 0)) (C := RX1) (T := TX1) (N := 2) hx hb hts in_X1_append_RX1 hown hK.1 hP 0 rfl rfl 1 (by decide) (hts (.fieldLink RX1 15 "NineDancers$Pad" "length" "I") (by decide +kernel)) (fun _ h9 => h9) rfl dX1_append_56 ?_
        refine lv_iload_n hx hb dX1_append_59 rfl (lv_at hl 3 rfl) ?_
        refine lv_iadd hx hb dX1_append_60 ?_
        refine va_put (D := D) (ci := 1) (v := .int ((P1 1 0) + gv)) (ty := .int) (C := RX1) (T := TX1) (N := 2) hx hb hts in_X1_append_RX1 tyX1 tyX1_ok nmX1 hown hK.1 hP hD hS 0 rfl rfl 1 (by decide) (hts (.fieldLink RX1 15 "NineDancers$Pad" "length" "I") (by decide +kernel)) (fun _ h9 => h9) rfl (by decide +kernel) rfl rfl (Nat.le_of_ble_eq_true rfl) dX1_append_61 (fun H locs hP hD hS => ?_)
        have hP : va_P D vwCl (wP Y pp tx (T_X1_append_1 gv P1)) H := hP
        have hD : va_D A (wP Y pp tx (T_X1_append_1 gv P1)) := hD
        obtain ⟨S_1, eS_1⟩ : ∃ z9, T_X1_append_1 gv P1 = z9 := ⟨_, rfl⟩
        rw [eS_1] at hP hD
        subst eS_1
        subst eP1
        have e9 : D_X1_append P ch gv = (T_X1_append_1 gv (L_X1_append_10 P ch gv 10 (((P 1 0) + gv) - 1) P)) := by rw [D_X1_append]
        exact ret_v hx hb hr hlk hP hD hS dX1_append_64 ⟨Nat.zero_le _, Nat.zero_le _⟩ (by rw [e9])
      · obtain ⟨j_10, hj_10, ej_10⟩ := my_dn ex_10 (by omega) (by rw [hM] at c_1; assumption)
        refine lv_aload_n hx hb dX1_append_19 rfl (lv_at hl 1 rfl) ?_
        refine va_get (D := D) (ci := 1) (v := .ref tx) (C := RX1) (T := TX1) (N := 2) hx hb hts in_X1_append_RX1 hown hK.1 hP 0 rfl rfl 0 (by decide) (hts (.fieldLink RX1 9 "NineDancers$Pad" "text" "[C") (by decide +kernel)) (fun _ h9 => h9) rfl dX1_append_20 ?_
        refine lv_iload hx hb dX1_append_23 (lv_at hl 0 rfl) ?_
        refine lv_lload_n hx hb dX1_append_25 rfl (lv_at hl 2 rfl) ?_
        refine lv_bipush (v := 8) hx hb dX1_append_26 (by decide) ?_
        refine lv_aload_n hx hb dX1_append_28 rfl (lv_at hl 1 rfl) ?_
        refine va_get (D := D) (ci := 1) (v := .int (P1 1 0)) (C := RX1) (T := TX1) (N := 2) hx hb hts in_X1_append_RX1 hown hK.1 hP 0 rfl rfl 1 (by decide) (hts (.fieldLink RX1 15 "NineDancers$Pad" "length" "I") (by decide +kernel)) (fun _ h9 => h9) rfl dX1_append_29 ?_
        refine lv_iload_n hx hb dX1_append_32 rfl (lv_at hl 3 rfl) ?_
        refine lv_iadd hx hb dX1_append_33 ?_
        refine lv_iconst (v := 1) hx hb dX1_append_34 (by decide) ?_
        refine lv_isub hx hb dX1_append_35 ?_
        refine lv_iload hx hb dX1_append_36 (lv_at hl 0 rfl) ?_
        refine lv_isub hx hb dX1_append_38 ?_
        refine lv_imul hx hb dX1_append_39 ?_
        refine lv_lushr (v := (ch.toUInt64 >>> ((8 * ((((P1 1 0) + gv) - 1) - i)).toInt64.toUInt64 &&& Int64.toUInt64 63)).toInt64) hx hb dX1_append_40 rfl ?_
        refine lv_ldc2 (v := 255) hx hb hown (hts (.constantLong RX1 19 (255)) (by decide +kernel)) dX1_append_41 ?_
        refine lv_land hx hb dX1_append_44 ?_
        refine lv_l2i (v := (((ch.toUInt64 >>> ((8 * ((((P1 1 0) + gv) - 1) - i)).toInt64.toUInt64 &&& Int64.toUInt64 63)).toInt64) &&& 255).toInt32) hx hb dX1_append_45 rfl ?_
        refine lv_i2c (v := (((((ch.toUInt64 >>> ((8 * ((((P1 1 0) + gv) - 1) - i)).toInt64.toUInt64 &&& Int64.toUInt64 63)).toInt64) &&& 255).toInt32).toUInt32 % 65536).toInt32) hx hb dX1_append_46 rfl ?_
        refine va_cast (D := D) hx hb hK.1 hP hD hS 1 1 rfl rfl (my_wid (show vp_in i 9 from by rw [ej_10]; exact vp_in_nI (by omega) (by decide)) (by decide) (by decide)) dX1_append_47 (fun H locs hP hD hS => ?_)
        have hP : va_P D vwCl (wP Y pp tx (T_X1_append_2 ch gv i P1)) H := hP
        have hD : va_D A (wP Y pp tx (T_X1_append_2 ch gv i P1)) := hD
        obtain ⟨S_2, eS_2⟩ : ∃ z9, T_X1_append_2 ch gv i P1 = z9 := ⟨_, rfl⟩
        rw [eS_2] at hP hD
        refine lv_iinc (v := i + (-1)) (lv' := [(4, .int (i + (-1))), (0, .ref pp), (1, .long ch), (3, .int gv)]) hx hb dX1_append_48 hl (k := 0) rfl rfl (by decide) rfl (fun ls hl => ?_)
        refine lv_goto (tgt := 10) hx hb dX1_append_51 (by decide) ?_
        subst eS_2
        exact ih_10 j_10 (i + (-1)) (T_X1_append_2 ch gv i P1) _ _ _ (by omega) (by omega) (by rw [ej_10]) hM hP hD hS (lv_sub hl [0, 1, 2, 3] rfl) (by rw [L_X1_append_10, if_neg c_1] at hR_10; exact hR_10)
  exact loop_10 10 g0 (((P 1 0) + gv) - 1) P _ _ _ (by omega) (by omega) (by rw [hT, eg0]; exact my_dn0 _) hT hP hD hS (lv_sub hl [0, 1, 2, 3] rfl) rfl
def D_X3_put (P : Nat → Nat → Int32) (ch : Int64) : (Int32) × (Nat → Nat → Int32) := if (D_X3_charactersIn ch) = 0 then ((-1000002), P) else (if ((P 1 0) + (D_X3_charactersIn ch)) ≤ 60 then ((D_X1_append P ch (D_X3_charactersIn ch)) 1 0, (D_X1_append P ch (D_X3_charactersIn ch))) else ((-1000004), P))
set_option maxRecDepth 100000 in
theorem in_X3_put_RX1 : ∀ w ∈ u_ws RX1 TX1 2, w ∈ wsX3_put := by decide +kernel
set_option maxRecDepth 100000 in
theorem in_X3_put_RX3 : ∀ w ∈ u_ws RX3 TX3 5, w ∈ wsX3_put := by decide +kernel
set_option maxHeartbeats 4000000 in
set_option maxRecDepth 100000 in
theorem c_X3_put (l : Launch) (D : va_G) (Y : YY) (sz : Nat) (r : Nat) (tr : Nat) (pp : Nat) (h : Nat) (sl : Nat) (tx : Nat) (P : Nat → Nat → Int32) (x : Nat) (ch : Int64) (hT : P 1 0 = 0) : Met l yX3_put wsX3_put ({ frames := 1, cells := 0, slots := 0, locals := 26 } : Room) (va_Pc [.ref x, .long ch] (Pst D Y sz (wX x r tr pp h sl ++ wP Y pp tx P))) ((fun A : Nat → Prop => Qsi D (fun r9 w9 => r9 = (D_X3_put P ch).1 ∧ w9 = wX x r tr pp h sl ++ wP Y pp tx ((D_X3_put P ch).2)) A) (va_A (wX x r tr pp h sl ++ wP Y pp tx P) sz)) 0 0 (va_A (wX x r tr pp h sl ++ wP Y pp tx P) sz) := by
  refine ct_in (cc := cX3_put) (maxL := 4) (ret := (some .int)) (Qc := fun A : Nat → Prop => Qsi D (fun r9 w9 => r9 = (D_X3_put P ch).1 ∧ w9 = wX x r tr pp h sl ++ wP Y pp tx ((D_X3_put P ch).2)) A) (by decide +kernel) rfl (Nat.le_of_ble_eq_true rfl) ?_
  intro p e s m below meth c A ls hx hb hr hts hown hml hlk hin hsz hA hP hD hK hS hl
  have hown : s.vm.findClass RX3 = some m.cls := hown
  have hl : lv_has ls 4 [(0, .ref x), (1, .long ch)] := hl
  show W p l e ({ frames := 1, cells := 0, slots := 0, locals := 26 } : Room) s m ([.ref x, .long ch] : List Value).toArray below meth c s.heap [] 0 0 (MQ below (Qsi D (fun r9 w9 => r9 = (D_X3_put P ch).1 ∧ w9 = wX x r tr pp h sl ++ wP Y pp tx ((D_X3_put P ch).2)) A) ([.ref x, .long ch] : List Value).toArray s 0 0 A) (F0 m 0 ls [])
  refine lv_lload_n hx hb dX3_put_0 rfl (lv_at hl 1 rfl) ?_
  refine ck_iD (wr := wX x r tr pp h sl ++ wP Y pp tx P) (ws' := wX x r tr pp h sl ++ wP Y pp tx P) (va_runS (As := [.long ch]) (rest := []) ⟨hx, hb, hml, hown, hts⟩ (c_X3_charactersIn l D Y s.heap.size ch) (va_cwS 1 hts gX3_put_X3_charactersIn rfl rfl rfl (by decide +kernel) ⟨Nat.le_of_ble_eq_true rfl, Nat.le_of_ble_eq_true rfl⟩) (pst_S hK hP hD [] rfl (by decide)) rfl rfl hl.1 rfl (lv_room (Nat.le_of_ble_eq_true rfl)) dX3_put_1 ⟨Nat.zero_le _, Nat.zero_le _⟩) hP hD hS hA [] [0, 1, 2] [0, 1, 2] rfl rfl (by decide) (by decide) rfl (by decide) (fun H locs hP hD hS => ?_)
  refine lv_istore_n (lv' := [(3, .int (D_X3_charactersIn ch)), (0, .ref x), (1, .long ch)]) hx hb dX3_put_4 rfl hl (by decide) rfl (fun ls hl => ?_)
  refine lv_iload_n hx hb dX3_put_5 rfl (lv_at hl 0 rfl) ?_
  refine lv_if_ne (tgt := 12) hx hb dX3_put_6 (by decide) (fun c_1 => ?_) (fun c_1 => ?_)
  · refine lv_aload_n hx hb dX3_put_12 rfl (lv_at hl 1 rfl) ?_
    refine va_get (D := D) (ci := 3) (v := .ref pp) (C := RX3) (T := TX3) (N := 5) hx hb hts in_X3_put_RX3 hown hK.1 hP 0 rfl rfl 2 (by decide) (hts (.fieldLink RX3 22 "NineDancers" "pad" "LNineDancers$Pad;") (by decide +kernel)) (fun _ h9 => h9) rfl dX3_put_13 ?_
    refine va_get (D := D) (ci := 1) (v := .int (P 1 0)) (C := RX1) (T := TX1) (N := 2) hx hb hts in_X3_put_RX1 hown hK.1 hP 1 rfl rfl 1 (by decide) (hts (.fieldLink RX3 143 "NineDancers$Pad" "length" "I") (by decide +kernel)) (fun _ h9 => h9) rfl dX3_put_16 ?_
    refine lv_iload_n hx hb dX3_put_19 rfl (lv_at hl 0 rfl) ?_
    refine lv_iadd hx hb dX3_put_20 ?_
    refine lv_bipush (v := 60) hx hb dX3_put_21 (by decide) ?_
    refine lv_icmp_le (tgt := 29) hx hb dX3_put_23 (by decide) (fun c_2 => ?_) (fun c_2 => ?_)
    · refine lv_aload_n hx hb dX3_put_29 rfl (lv_at hl 1 rfl) ?_
      refine va_get (D := D) (ci := 3) (v := .ref pp) (C := RX3) (T := TX3) (N := 5) hx hb hts in_X3_put_RX3 hown hK.1 hP 0 rfl rfl 2 (by decide) (hts (.fieldLink RX3 22 "NineDancers" "pad" "LNineDancers$Pad;") (by decide +kernel)) (fun _ h9 => h9) rfl dX3_put_30 ?_
      refine lv_lload_n hx hb dX3_put_33 rfl (lv_at hl 2 rfl) ?_
      refine lv_iload_n hx hb dX3_put_34 rfl (lv_at hl 0 rfl) ?_
      refine ck_vD (wr := wX x r tr pp h sl) (ws' := wX x r tr pp h sl ++ wP Y pp tx (D_X1_append P ch (D_X3_charactersIn ch))) (va_runV (As := [.long ch, .int (D_X3_charactersIn ch)]) (rest := []) ⟨hx, hb, hml, hown, hts⟩ (c_X1_append l D Y H.size tx P pp ch (D_X3_charactersIn ch) hT (in_charsIn _)) (cwV 2 hts gX3_put_X1_append rfl rfl rfl (by decide +kernel) ⟨Nat.le_of_ble_eq_true rfl, Nat.le_of_ble_eq_true rfl⟩) (pst_V hK hP hD [1, 2] rfl (by decide) (q0 := 0) rfl rfl) rfl rfl hl.1 rfl (lv_room (Nat.le_of_ble_eq_true rfl)) dX3_put_35 ⟨Nat.zero_le _, Nat.zero_le _⟩) hP hD hS hA [1, 2] [0] [0, 1, 2] rfl rfl (by decide) (by decide) rfl (by decide) (fun H locs hP hD hS => ?_)
      obtain ⟨S_1, eS_1⟩ : ∃ z9, (D_X1_append P ch (D_X3_charactersIn ch)) = z9 := ⟨_, rfl⟩
      rw [eS_1] at hP hD
      refine lv_aload_n hx hb dX3_put_38 rfl (lv_at hl 1 rfl) ?_
      refine va_get (D := D) (ci := 3) (v := .ref pp) (C := RX3) (T := TX3) (N := 5) hx hb hts in_X3_put_RX3 hown hK.1 hP 0 rfl rfl 2 (by decide) (hts (.fieldLink RX3 22 "NineDancers" "pad" "LNineDancers$Pad;") (by decide +kernel)) (fun _ h9 => h9) rfl dX3_put_39 ?_
      refine va_get (D := D) (ci := 1) (v := .int (S_1 1 0)) (C := RX1) (T := TX1) (N := 2) hx hb hts in_X3_put_RX1 hown hK.1 hP 1 rfl rfl 1 (by decide) (hts (.fieldLink RX3 143 "NineDancers$Pad" "length" "I") (by decide +kernel)) (fun _ h9 => h9) rfl dX3_put_42 ?_
      subst eS_1
      have e9 : D_X3_put P ch = ((D_X1_append P ch (D_X3_charactersIn ch)) 1 0, (D_X1_append P ch (D_X3_charactersIn ch))) := by rw [D_X3_put, if_neg c_1, if_pos c_2]
      exact ret_i hx hb hr hlk hP hD hS dX3_put_45 ⟨Nat.zero_le _, Nat.zero_le _⟩ ⟨by rw [e9], by rw [e9]⟩
    · refine lv_ldc (v := (-1000004)) hx hb hown (hts (.constant RX3 78 (-1000004)) (by decide +kernel)) dX3_put_26 ?_
      have e9 : D_X3_put P ch = ((-1000004), P) := by rw [D_X3_put, if_neg c_1, if_neg c_2]
      exact ret_i hx hb hr hlk hP hD hS dX3_put_28 ⟨Nat.zero_le _, Nat.zero_le _⟩ ⟨by rw [e9], by rw [e9]⟩
  · refine lv_ldc (v := (-1000002)) hx hb hown (hts (.constant RX3 37 (-1000002)) (by decide +kernel)) dX3_put_9 ?_
    have e9 : D_X3_put P ch = ((-1000002), P) := by rw [D_X3_put, if_pos c_1]
    exact ret_i hx hb hr hlk hP hD hS dX3_put_11 ⟨Nat.zero_le _, Nat.zero_le _⟩ ⟨by rw [e9], by rw [e9]⟩
def T_X1_empty_1 (P : Nat → Nat → Int32) : Nat → Nat → Int32 := s2 P 1 0 0
def D_X1_empty (P : Nat → Nat → Int32)  : (Int32) × (Nat → Nat → Int32) := (P 1 0, (T_X1_empty_1 P))
set_option maxRecDepth 100000 in
theorem in_X1_empty_RX1 : ∀ w ∈ u_ws RX1 TX1 2, w ∈ wsX1_empty := by decide +kernel
set_option maxHeartbeats 4000000 in
set_option maxRecDepth 100000 in
theorem c_X1_empty (l : Launch) (D : va_G) (Y : YY) (sz : Nat) (tx : Nat) (P : Nat → Nat → Int32) (pp : Nat) : Met l yX1_empty wsX1_empty ({ frames := 0, cells := 0, slots := 0, locals := 0 } : Room) (va_Pc [.ref pp] (Pst D Y sz (wP Y pp tx P))) ((fun A : Nat → Prop => Qsi D (fun r9 w9 => r9 = (D_X1_empty P).1 ∧ w9 = wP Y pp tx ((D_X1_empty P).2)) A) (va_A (wP Y pp tx P) sz)) 0 0 (va_A (wP Y pp tx P) sz) := by
  refine ct_in (cc := cX1_empty) (maxL := 2) (ret := (some .int)) (Qc := fun A : Nat → Prop => Qsi D (fun r9 w9 => r9 = (D_X1_empty P).1 ∧ w9 = wP Y pp tx ((D_X1_empty P).2)) A) (by decide +kernel) rfl (Nat.le_of_ble_eq_true rfl) ?_
  intro p e s m below meth c A ls hx hb hr hts hown hml hlk hin hsz hA hP hD hK hS hl
  have hown : s.vm.findClass RX1 = some m.cls := hown
  have hl : lv_has ls 2 [(0, .ref pp)] := hl
  show W p l e ({ frames := 0, cells := 0, slots := 0, locals := 0 } : Room) s m ([.ref pp] : List Value).toArray below meth c s.heap [] 0 0 (MQ below (Qsi D (fun r9 w9 => r9 = (D_X1_empty P).1 ∧ w9 = wP Y pp tx ((D_X1_empty P).2)) A) ([.ref pp] : List Value).toArray s 0 0 A) (F0 m 0 ls [])
  refine lv_aload_n hx hb dX1_empty_0 rfl (lv_at hl 0 rfl) ?_
  refine va_get (D := D) (ci := 1) (v := .int (P 1 0)) (C := RX1) (T := TX1) (N := 2) hx hb hts in_X1_empty_RX1 hown hK.1 hP 0 rfl rfl 1 (by decide) (hts (.fieldLink RX1 15 "NineDancers$Pad" "length" "I") (by decide +kernel)) (fun _ h9 => h9) rfl dX1_empty_1 ?_
  refine lv_istore_n (lv' := [(1, .int (P 1 0)), (0, .ref pp)]) hx hb dX1_empty_4 rfl hl (by decide) rfl (fun ls hl => ?_)
  refine lv_aload_n hx hb dX1_empty_5 rfl (lv_at hl 1 rfl) ?_
  refine lv_iconst (v := 0) hx hb dX1_empty_6 (by decide) ?_
  refine va_put (D := D) (ci := 1) (v := .int 0) (ty := .int) (C := RX1) (T := TX1) (N := 2) hx hb hts in_X1_empty_RX1 tyX1 tyX1_ok nmX1 hown hK.1 hP hD hS 0 rfl rfl 1 (by decide) (hts (.fieldLink RX1 15 "NineDancers$Pad" "length" "I") (by decide +kernel)) (fun _ h9 => h9) rfl (by decide +kernel) rfl rfl (Nat.le_of_ble_eq_true rfl) dX1_empty_7 (fun H locs hP hD hS => ?_)
  have hP : va_P D vwCl (wP Y pp tx (T_X1_empty_1 P)) H := hP
  have hD : va_D A (wP Y pp tx (T_X1_empty_1 P)) := hD
  obtain ⟨S_1, eS_1⟩ : ∃ z9, T_X1_empty_1 P = z9 := ⟨_, rfl⟩
  rw [eS_1] at hP hD
  refine lv_iload_n hx hb dX1_empty_10 rfl (lv_at hl 0 rfl) ?_
  subst eS_1
  have e9 : D_X1_empty P = (P 1 0, (T_X1_empty_1 P)) := by rw [D_X1_empty]
  exact ret_i hx hb hr hlk hP hD hS dX1_empty_11 ⟨Nat.zero_le _, Nat.zero_le _⟩ ⟨by rw [e9], by rw [e9]⟩
def D_X1_firstFault (P : Nat → Nat → Int32)  : (Int32) := P 1 0
set_option maxRecDepth 100000 in
theorem in_X1_firstFault_RX1 : ∀ w ∈ u_ws RX1 TX1 2, w ∈ wsX1_firstFault := by decide +kernel
set_option maxHeartbeats 4000000 in
set_option maxRecDepth 100000 in
theorem c_X1_firstFault (l : Launch) (D : va_G) (Y : YY) (sz : Nat) (tx : Nat) (P : Nat → Nat → Int32) (pp : Nat) (hT : P 1 0 = 0) : Met l yX1_firstFault wsX1_firstFault ({ frames := 0, cells := 0, slots := 0, locals := 0 } : Room) (va_Pc [.ref pp] (Pst D Y sz (wP Y pp tx P))) ((fun A : Nat → Prop => Qsi D (fun r9 w9 => r9 = D_X1_firstFault P ∧ w9 = wP Y pp tx P) A) (va_A (wP Y pp tx P) sz)) 0 0 (va_A (wP Y pp tx P) sz) := by
  refine ct_in (cc := cX1_firstFault) (maxL := 6) (ret := (some .int)) (Qc := fun A : Nat → Prop => Qsi D (fun r9 w9 => r9 = D_X1_firstFault P ∧ w9 = wP Y pp tx P) A) (by decide +kernel) rfl (Nat.le_of_ble_eq_true rfl) ?_
  intro p e s m below meth c A ls hx hb hr hts hown hml hlk hin hsz hA hP hD hK hS hl
  have hown : s.vm.findClass RX1 = some m.cls := hown
  have hl : lv_has ls 6 [(0, .ref pp)] := hl
  show W p l e ({ frames := 0, cells := 0, slots := 0, locals := 0 } : Room) s m ([.ref pp] : List Value).toArray below meth c s.heap [] 0 0 (MQ below (Qsi D (fun r9 w9 => r9 = D_X1_firstFault P ∧ w9 = wP Y pp tx P) A) ([.ref pp] : List Value).toArray s 0 0 A) (F0 m 0 ls [])
  refine lv_iconst (v := 0) hx hb dX1_firstFault_0 (by decide) ?_
  refine lv_istore_n (lv' := [(1, .int 0), (0, .ref pp)]) hx hb dX1_firstFault_1 rfl hl (by decide) rfl (fun ls hl => ?_)
  refine lv_iconst (v := 0) hx hb dX1_firstFault_2 (by decide) ?_
  refine lv_istore_n (lv' := [(2, .int 0), (1, .int 0), (0, .ref pp)]) hx hb dX1_firstFault_3 rfl hl (by decide) rfl (fun ls hl => ?_)
  refine lv_iconst (v := 0) hx hb dX1_firstFault_4 (by decide) ?_
  refine lv_istore_n (lv' := [(3, .int 0), (2, .int 0), (1, .int 0), (0, .ref pp)]) hx hb dX1_firstFault_5 rfl hl (by decide) rfl (fun ls hl => ?_)
  refine lv_iconst (v := 0) hx hb dX1_firstFault_6 (by decide) ?_
  refine lv_istore (lv' := [(4, .int 0), (3, .int 0), (2, .int 0), (1, .int 0), (0, .ref pp)]) hx hb dX1_firstFault_7 hl (by decide) rfl (fun ls hl => ?_)
  refine lv_iload hx hb dX1_firstFault_9 (lv_at hl 0 rfl) ?_
  refine lv_aload_n hx hb dX1_firstFault_11 rfl (lv_at hl 4 rfl) ?_
  refine va_get (D := D) (ci := 1) (v := .int (P 1 0)) (C := RX1) (T := TX1) (N := 2) hx hb hts in_X1_firstFault_RX1 hown hK.1 hP 0 rfl rfl 1 (by decide) (hts (.fieldLink RX1 15 "NineDancers$Pad" "length" "I") (by decide +kernel)) (fun _ h9 => h9) rfl dX1_firstFault_12 ?_
  refine lv_icmp_ge (tgt := 119) hx hb dX1_firstFault_15 (by decide) (fun c_1 => ?_) (fun c_1 => ?_)
  · refine lv_iload_n hx hb dX1_firstFault_119 rfl (lv_at hl 2 rfl) ?_
    refine lv_if_le (tgt := 128) hx hb dX1_firstFault_120 (by decide) (fun c_2 => ?_) (fun c_2 => ?_)
    · refine lv_aload_n hx hb dX1_firstFault_128 rfl (lv_at hl 4 rfl) ?_
      refine va_get (D := D) (ci := 1) (v := .int (P 1 0)) (C := RX1) (T := TX1) (N := 2) hx hb hts in_X1_firstFault_RX1 hown hK.1 hP 0 rfl rfl 1 (by decide) (hts (.fieldLink RX1 15 "NineDancers$Pad" "length" "I") (by decide +kernel)) (fun _ h9 => h9) rfl dX1_firstFault_129 ?_
      have e9 : D_X1_firstFault P = P 1 0 := by rw [D_X1_firstFault]
      exact ret_i hx hb hr hlk hP hD hS dX1_firstFault_132 ⟨Nat.zero_le _, Nat.zero_le _⟩ ⟨e9.symm, rfl⟩
    · exact absurd c_2 (by decide)
  · exact absurd c_1 (fun q => q (by rw [hT]; decide))
theorem ff0 {P : Nat → Nat → Int32} (hT : P 1 0 = 0) : D_X1_firstFault P = 0 := by
  unfold D_X1_firstFault
  rw [hT]
def D_X3_wipe (P : Nat → Nat → Int32)  : (Int32) × (Nat → Nat → Int32) := ((D_X1_empty P).1, ((D_X1_empty P).2))
set_option maxRecDepth 100000 in
theorem in_X3_wipe_RX3 : ∀ w ∈ u_ws RX3 TX3 5, w ∈ wsX3_wipe := by decide +kernel
set_option maxHeartbeats 4000000 in
set_option maxRecDepth 100000 in
theorem c_X3_wipe (l : Launch) (D : va_G) (Y : YY) (sz : Nat) (r : Nat) (tr : Nat) (pp : Nat) (h : Nat) (sl : Nat) (tx : Nat) (P : Nat → Nat → Int32) (x : Nat) : Met l yX3_wipe wsX3_wipe ({ frames := 1, cells := 0, slots := 0, locals := 21 } : Room) (va_Pc [.ref x] (Pst D Y sz (wX x r tr pp h sl ++ wP Y pp tx P))) ((fun A : Nat → Prop => Qsi D (fun r9 w9 => r9 = (D_X3_wipe P).1 ∧ w9 = wX x r tr pp h sl ++ wP Y pp tx ((D_X3_wipe P).2)) A) (va_A (wX x r tr pp h sl ++ wP Y pp tx P) sz)) 0 0 (va_A (wX x r tr pp h sl ++ wP Y pp tx P) sz) := by
  refine ct_in (cc := cX3_wipe) (maxL := 1) (ret := (some .int)) (Qc := fun A : Nat → Prop => Qsi D (fun r9 w9 => r9 = (D_X3_wipe P).1 ∧ w9 = wX x r tr pp h sl ++ wP Y pp tx ((D_X3_wipe P).2)) A) (by decide +kernel) rfl (Nat.le_of_ble_eq_true rfl) ?_
  intro p e s m below meth c A ls hx hb hr hts hown hml hlk hin hsz hA hP hD hK hS hl
  have hown : s.vm.findClass RX3 = some m.cls := hown
  have hl : lv_has ls 1 [(0, .ref x)] := hl
  show W p l e ({ frames := 1, cells := 0, slots := 0, locals := 21 } : Room) s m ([.ref x] : List Value).toArray below meth c s.heap [] 0 0 (MQ below (Qsi D (fun r9 w9 => r9 = (D_X3_wipe P).1 ∧ w9 = wX x r tr pp h sl ++ wP Y pp tx ((D_X3_wipe P).2)) A) ([.ref x] : List Value).toArray s 0 0 A) (F0 m 0 ls [])
  refine lv_aload_n hx hb dX3_wipe_0 rfl (lv_at hl 0 rfl) ?_
  refine va_get (D := D) (ci := 3) (v := .ref pp) (C := RX3) (T := TX3) (N := 5) hx hb hts in_X3_wipe_RX3 hown hK.1 hP 0 rfl rfl 2 (by decide) (hts (.fieldLink RX3 22 "NineDancers" "pad" "LNineDancers$Pad;") (by decide +kernel)) (fun _ h9 => h9) rfl dX3_wipe_1 ?_
  refine ck_iD (wr := wX x r tr pp h sl) (ws' := wX x r tr pp h sl ++ wP Y pp tx ((D_X1_empty P).2)) (va_runV (As := []) (rest := []) ⟨hx, hb, hml, hown, hts⟩ (c_X1_empty l D Y s.heap.size tx P pp) (cwV 0 hts gX3_wipe_X1_empty rfl rfl rfl (by decide +kernel) ⟨Nat.le_of_ble_eq_true rfl, Nat.le_of_ble_eq_true rfl⟩) (pst_V hK hP hD [1, 2] rfl (by decide) (q0 := 0) rfl rfl) rfl rfl hl.1 rfl (lv_room (Nat.le_of_ble_eq_true rfl)) dX3_wipe_4 ⟨Nat.zero_le _, Nat.zero_le _⟩) hP hD hS hA [1, 2] [0] [0, 1, 2] rfl rfl (by decide) (by decide) rfl (by decide) (fun H locs hP hD hS => ?_)
  obtain ⟨S_1, eS_1⟩ : ∃ z9, (D_X1_empty P).2 = z9 := ⟨_, rfl⟩
  rw [eS_1] at hP hD
  subst eS_1
  have e9 : D_X3_wipe P = ((D_X1_empty P).1, ((D_X1_empty P).2)) := by rw [D_X3_wipe]
  exact ret_i hx hb hr hlk hP hD hS dX3_wipe_7 ⟨Nat.zero_le _, Nat.zero_le _⟩ ⟨by rw [e9], by rw [e9]⟩
def D_X3_fault (P : Nat → Nat → Int32)  : (Int32) := D_X1_firstFault P
set_option maxRecDepth 100000 in
theorem in_X3_fault_RX3 : ∀ w ∈ u_ws RX3 TX3 5, w ∈ wsX3_fault := by decide +kernel
set_option maxHeartbeats 4000000 in
set_option maxRecDepth 100000 in
theorem c_X3_fault (l : Launch) (D : va_G) (Y : YY) (sz : Nat) (r : Nat) (tr : Nat) (pp : Nat) (h : Nat) (sl : Nat) (tx : Nat) (P : Nat → Nat → Int32) (x : Nat) (hT : P 1 0 = 0) : Met l yX3_fault wsX3_fault ({ frames := 1, cells := 0, slots := 0, locals := 25 } : Room) (va_Pc [.ref x] (Pst D Y sz (wX x r tr pp h sl ++ wP Y pp tx P))) ((fun A : Nat → Prop => Qsi D (fun r9 w9 => r9 = D_X3_fault P ∧ w9 = wX x r tr pp h sl ++ wP Y pp tx P) A) (va_A (wX x r tr pp h sl ++ wP Y pp tx P) sz)) 0 0 (va_A (wX x r tr pp h sl ++ wP Y pp tx P) sz) := by
  refine ct_in (cc := cX3_fault) (maxL := 1) (ret := (some .int)) (Qc := fun A : Nat → Prop => Qsi D (fun r9 w9 => r9 = D_X3_fault P ∧ w9 = wX x r tr pp h sl ++ wP Y pp tx P) A) (by decide +kernel) rfl (Nat.le_of_ble_eq_true rfl) ?_
  intro p e s m below meth c A ls hx hb hr hts hown hml hlk hin hsz hA hP hD hK hS hl
  have hown : s.vm.findClass RX3 = some m.cls := hown
  have hl : lv_has ls 1 [(0, .ref x)] := hl
  show W p l e ({ frames := 1, cells := 0, slots := 0, locals := 25 } : Room) s m ([.ref x] : List Value).toArray below meth c s.heap [] 0 0 (MQ below (Qsi D (fun r9 w9 => r9 = D_X3_fault P ∧ w9 = wX x r tr pp h sl ++ wP Y pp tx P) A) ([.ref x] : List Value).toArray s 0 0 A) (F0 m 0 ls [])
  refine lv_aload_n hx hb dX3_fault_0 rfl (lv_at hl 0 rfl) ?_
  refine va_get (D := D) (ci := 3) (v := .ref pp) (C := RX3) (T := TX3) (N := 5) hx hb hts in_X3_fault_RX3 hown hK.1 hP 0 rfl rfl 2 (by decide) (hts (.fieldLink RX3 22 "NineDancers" "pad" "LNineDancers$Pad;") (by decide +kernel)) (fun _ h9 => h9) rfl dX3_fault_1 ?_
  refine ck_iD (wr := wX x r tr pp h sl) (ws' := wX x r tr pp h sl ++ wP Y pp tx P) (va_runV (As := []) (rest := []) ⟨hx, hb, hml, hown, hts⟩ (c_X1_firstFault l D Y s.heap.size tx P pp hT) (cwV 0 hts gX3_fault_X1_firstFault rfl rfl rfl (by decide +kernel) ⟨Nat.le_of_ble_eq_true rfl, Nat.le_of_ble_eq_true rfl⟩) (pst_V hK hP hD [1, 2] rfl (by decide) (q0 := 0) rfl rfl) rfl rfl hl.1 rfl (lv_room (Nat.le_of_ble_eq_true rfl)) dX3_fault_4 ⟨Nat.zero_le _, Nat.zero_le _⟩) hP hD hS hA [1, 2] [0] [0, 1, 2] rfl rfl (by decide) (by decide) rfl (by decide) (fun H locs hP hD hS => ?_)
  have e9 : D_X3_fault P = D_X1_firstFault P := by rw [D_X3_fault]
  exact ret_i hx hb hr hlk hP hD hS dX3_fault_7 ⟨Nat.zero_le _, Nat.zero_le _⟩ ⟨e9.symm, rfl⟩
def D_X3_read (P : Nat → Nat → Int32)  : (Int32) := (-1000003)
set_option maxRecDepth 100000 in
theorem in_X3_read_RX3 : ∀ w ∈ u_ws RX3 TX3 5, w ∈ wsX3_read := by decide +kernel
set_option maxHeartbeats 4000000 in
set_option maxRecDepth 100000 in
theorem c_X3_read (l : Launch) (D : va_G) (Y : YY) (sz : Nat) (r : Nat) (tr : Nat) (pp : Nat) (h : Nat) (sl : Nat) (tx : Nat) (P : Nat → Nat → Int32) (x : Nat) (hT : P 1 0 = 0) : Met l yX3_read wsX3_read ({ frames := 1, cells := 0, slots := 0, locals := 25 } : Room) (va_Pc [.ref x] (Pst D Y sz (wX x r tr pp h sl ++ wP Y pp tx P))) ((fun A : Nat → Prop => Qsi D (fun r9 w9 => r9 = D_X3_read P ∧ w9 = wX x r tr pp h sl ++ wP Y pp tx P) A) (va_A (wX x r tr pp h sl ++ wP Y pp tx P) sz)) 0 0 (va_A (wX x r tr pp h sl ++ wP Y pp tx P) sz) := by
  refine ct_in (cc := cX3_read) (maxL := 2) (ret := (some .int)) (Qc := fun A : Nat → Prop => Qsi D (fun r9 w9 => r9 = D_X3_read P ∧ w9 = wX x r tr pp h sl ++ wP Y pp tx P) A) (by decide +kernel) rfl (Nat.le_of_ble_eq_true rfl) ?_
  intro p e s m below meth c A ls hx hb hr hts hown hml hlk hin hsz hA hP hD hK hS hl
  have hown : s.vm.findClass RX3 = some m.cls := hown
  have hl : lv_has ls 2 [(0, .ref x)] := hl
  show W p l e ({ frames := 1, cells := 0, slots := 0, locals := 25 } : Room) s m ([.ref x] : List Value).toArray below meth c s.heap [] 0 0 (MQ below (Qsi D (fun r9 w9 => r9 = D_X3_read P ∧ w9 = wX x r tr pp h sl ++ wP Y pp tx P) A) ([.ref x] : List Value).toArray s 0 0 A) (F0 m 0 ls [])
  refine lv_aload_n hx hb dX3_read_0 rfl (lv_at hl 0 rfl) ?_
  refine va_get (D := D) (ci := 3) (v := .ref pp) (C := RX3) (T := TX3) (N := 5) hx hb hts in_X3_read_RX3 hown hK.1 hP 0 rfl rfl 2 (by decide) (hts (.fieldLink RX3 22 "NineDancers" "pad" "LNineDancers$Pad;") (by decide +kernel)) (fun _ h9 => h9) rfl dX3_read_1 ?_
  refine ck_iD (wr := wX x r tr pp h sl) (ws' := wX x r tr pp h sl ++ wP Y pp tx P) (va_runV (As := []) (rest := []) ⟨hx, hb, hml, hown, hts⟩ (c_X1_firstFault l D Y s.heap.size tx P pp hT) (cwV 0 hts gX3_read_X1_firstFault rfl rfl rfl (by decide +kernel) ⟨Nat.le_of_ble_eq_true rfl, Nat.le_of_ble_eq_true rfl⟩) (pst_V hK hP hD [1, 2] rfl (by decide) (q0 := 0) rfl rfl) rfl rfl hl.1 rfl (lv_room (Nat.le_of_ble_eq_true rfl)) dX3_read_4 ⟨Nat.zero_le _, Nat.zero_le _⟩) hP hD hS hA [1, 2] [0] [0, 1, 2] rfl rfl (by decide) (by decide) rfl (by decide) (fun H locs hP hD hS => ?_)
  refine lv_ldc (v := (-1000006)) hx hb hown (hts (.constant RX3 86 (-1000006)) (by decide +kernel)) dX3_read_7 ?_
  refine lv_icmp_eq (tgt := 15) hx hb dX3_read_9 (by decide) (fun c_1 => ?_) (fun c_1 => ?_)
  · exact absurd c_1 (by rw [ff0 hT]; decide)
  · refine lv_ldc (v := (-1000003)) hx hb hown (hts (.constant RX3 87 (-1000003)) (by decide +kernel)) dX3_read_12 ?_
    have e9 : D_X3_read P = (-1000003) := by rw [D_X3_read]
    exact ret_i hx hb hr hlk hP hD hS dX3_read_14 ⟨Nat.zero_le _, Nat.zero_le _⟩ ⟨e9.symm, rfl⟩
def D_X3_undo (n : Int32)  : (Int32) := (-1000005)
set_option maxRecDepth 100000 in
theorem in_X3_undo_RX0 : ∀ w ∈ u_ws RX0 TX0 2, w ∈ wsX3_undo := by decide +kernel
set_option maxRecDepth 100000 in
theorem in_X3_undo_RX3 : ∀ w ∈ u_ws RX3 TX3 5, w ∈ wsX3_undo := by decide +kernel
set_option maxHeartbeats 4000000 in
set_option maxRecDepth 100000 in
theorem c_X3_undo (l : Launch) (D : va_G) (Y : YY) (sz : Nat) (r : Nat) (tr : Nat) (pp : Nat) (h : Nat) (sl : Nat) (sa : Nat) (n : Int32) (x : Nat) (hn : n = 0) : Met l yX3_undo wsX3_undo ({ frames := 0, cells := 0, slots := 0, locals := 0 } : Room) (va_Pc [.ref x] (Pst D Y sz (wX x r tr pp h sl ++ wH h sa n))) ((fun A : Nat → Prop => Qsi D (fun r9 w9 => r9 = D_X3_undo n ∧ w9 = wX x r tr pp h sl ++ wH h sa n) A) (va_A (wX x r tr pp h sl ++ wH h sa n) sz)) 0 0 (va_A (wX x r tr pp h sl ++ wH h sa n) sz) := by
  refine ct_in (cc := cX3_undo) (maxL := 1) (ret := (some .int)) (Qc := fun A : Nat → Prop => Qsi D (fun r9 w9 => r9 = D_X3_undo n ∧ w9 = wX x r tr pp h sl ++ wH h sa n) A) (by decide +kernel) rfl (Nat.le_of_ble_eq_true rfl) ?_
  intro p e s m below meth c A ls hx hb hr hts hown hml hlk hin hsz hA hP hD hK hS hl
  have hown : s.vm.findClass RX3 = some m.cls := hown
  have hl : lv_has ls 1 [(0, .ref x)] := hl
  show W p l e ({ frames := 0, cells := 0, slots := 0, locals := 0 } : Room) s m ([.ref x] : List Value).toArray below meth c s.heap [] 0 0 (MQ below (Qsi D (fun r9 w9 => r9 = D_X3_undo n ∧ w9 = wX x r tr pp h sl ++ wH h sa n) A) ([.ref x] : List Value).toArray s 0 0 A) (F0 m 0 ls [])
  refine lv_aload_n hx hb dX3_undo_0 rfl (lv_at hl 0 rfl) ?_
  refine va_get (D := D) (ci := 3) (v := .ref h) (C := RX3) (T := TX3) (N := 5) hx hb hts in_X3_undo_RX3 hown hK.1 hP 0 rfl rfl 3 (by decide) (hts (.fieldLink RX3 29 "NineDancers" "history" "LNineDancers$History;") (by decide +kernel)) (fun _ h9 => h9) rfl dX3_undo_1 ?_
  refine va_get (D := D) (ci := 0) (v := .int n) (C := RX0) (T := TX0) (N := 2) hx hb hts in_X3_undo_RX0 hown hK.1 hP 1 rfl rfl 1 (by decide) (hts (.fieldLink RX3 146 "NineDancers$History" "length" "I") (by decide +kernel)) (fun _ h9 => h9) rfl dX3_undo_4 ?_
  refine lv_if_ne (tgt := 13) hx hb dX3_undo_7 (by decide) (fun c_1 => ?_) (fun c_1 => ?_)
  · exact absurd c_1 (fun q => q hn)
  · refine lv_ldc (v := (-1000005)) hx hb hown (hts (.constant RX3 61 (-1000005)) (by decide +kernel)) dX3_undo_10 ?_
    have e9 : D_X3_undo n = (-1000005) := by rw [D_X3_undo]
    exact ret_i hx hb hr hlk hP hD hS dX3_undo_12 ⟨Nat.zero_le _, Nat.zero_le _⟩ ⟨e9.symm, rfl⟩
def D_X3_restore (f : Nat → Option Nat) (sn : Int32) : (Int32) := if (D_X3_isSlot sn) = 0 then (-1000002) else (-1000005)
set_option maxRecDepth 100000 in
theorem in_X3_restore_RX3 : ∀ w ∈ u_ws RX3 TX3 5, w ∈ wsX3_restore := by decide +kernel
set_option maxHeartbeats 4000000 in
set_option maxRecDepth 100000 in
theorem c_X3_restore (l : Launch) (D : va_G) (Y : YY) (sz : Nat) (r : Nat) (tr : Nat) (pp : Nat) (h : Nat) (sl : Nat) (f : Nat → Option Nat) (x : Nat) (sn : Int32) (hsl : ∀ j : Nat, f j = none) : Met l yX3_restore wsX3_restore ({ frames := 1, cells := 0, slots := 0, locals := 20 } : Room) (va_Pc [.ref x, .int sn] (Pst D Y sz (wX x r tr pp h sl ++ wA Y sl 2 f))) ((fun A : Nat → Prop => Qsi D (fun r9 w9 => r9 = D_X3_restore f sn ∧ w9 = wX x r tr pp h sl ++ wA Y sl 2 f) A) (va_A (wX x r tr pp h sl ++ wA Y sl 2 f) sz)) 0 0 (va_A (wX x r tr pp h sl ++ wA Y sl 2 f) sz) := by
  refine ct_in (cc := cX3_restore) (maxL := 3) (ret := (some .int)) (Qc := fun A : Nat → Prop => Qsi D (fun r9 w9 => r9 = D_X3_restore f sn ∧ w9 = wX x r tr pp h sl ++ wA Y sl 2 f) A) (by decide +kernel) rfl (Nat.le_of_ble_eq_true rfl) ?_
  intro p e s m below meth c A ls hx hb hr hts hown hml hlk hin hsz hA hP hD hK hS hl
  have hown : s.vm.findClass RX3 = some m.cls := hown
  have hl : lv_has ls 3 [(0, .ref x), (1, .int sn)] := hl
  show W p l e ({ frames := 1, cells := 0, slots := 0, locals := 20 } : Room) s m ([.ref x, .int sn] : List Value).toArray below meth c s.heap [] 0 0 (MQ below (Qsi D (fun r9 w9 => r9 = D_X3_restore f sn ∧ w9 = wX x r tr pp h sl ++ wA Y sl 2 f) A) ([.ref x, .int sn] : List Value).toArray s 0 0 A) (F0 m 0 ls [])
  refine lv_iload_n hx hb dX3_restore_0 rfl (lv_at hl 1 rfl) ?_
  refine ck_iD (wr := wX x r tr pp h sl ++ wA Y sl 2 f) (ws' := wX x r tr pp h sl ++ wA Y sl 2 f) (va_runS (As := [.int sn]) (rest := []) ⟨hx, hb, hml, hown, hts⟩ (c_X3_isSlot l D Y s.heap.size sn) (va_cwS 1 hts gX3_restore_X3_isSlot rfl rfl rfl (by decide +kernel) ⟨Nat.le_of_ble_eq_true rfl, Nat.le_of_ble_eq_true rfl⟩) (pst_S hK hP hD [] rfl (by decide)) rfl rfl hl.1 rfl (lv_room (Nat.le_of_ble_eq_true rfl)) dX3_restore_1 ⟨Nat.zero_le _, Nat.zero_le _⟩) hP hD hS hA [] [0, 1] [0, 1] rfl rfl (by decide) (by decide) rfl (by decide) (fun H locs hP hD hS => ?_)
  refine lv_if_ne (tgt := 10) hx hb dX3_restore_4 (by decide) (fun c_1 => ?_) (fun c_1 => ?_)
  · refine lv_aload_n hx hb dX3_restore_10 rfl (lv_at hl 0 rfl) ?_
    refine va_get (D := D) (ci := 3) (v := .ref sl) (C := RX3) (T := TX3) (N := 5) hx hb hts in_X3_restore_RX3 hown hK.1 hP 0 rfl rfl 4 (by decide) (hts (.fieldLink RX3 33 "NineDancers" "slots" "[LNineDancers$Ring;") (by decide +kernel)) (fun _ h9 => h9) rfl dX3_restore_11 ?_
    refine lv_iload_n hx hb dX3_restore_14 rfl (lv_at hl 1 rfl) ?_
    refine my_aldq (D := D) hx hb hK.1 hP 1 2 rfl rfl (f3_isSlot c_1) (v := .null) (congrArg va_rf (hsl _)) dX3_restore_15 ?_
    refine lv_astore_nN (lv' := [(2, .null), (0, .ref x), (1, .int sn)]) hx hb dX3_restore_16 rfl hl (by decide) rfl (fun ls hl => ?_)
    refine lv_aload_nN hx hb dX3_restore_17 rfl (lv_at hl 0 rfl) ?_
    refine lv_ifnonnullN hx hb dX3_restore_18 ?_
    refine lv_ldc (v := (-1000005)) hx hb hown (hts (.constant RX3 61 (-1000005)) (by decide +kernel)) dX3_restore_21 ?_
    have e9 : D_X3_restore f sn = (-1000005) := by rw [D_X3_restore, if_neg c_1]
    exact ret_i hx hb hr hlk hP hD hS dX3_restore_23 ⟨Nat.zero_le _, Nat.zero_le _⟩ ⟨e9.symm, rfl⟩
  · refine lv_ldc (v := (-1000002)) hx hb hown (hts (.constant RX3 37 (-1000002)) (by decide +kernel)) dX3_restore_7 ?_
    have e9 : D_X3_restore f sn = (-1000002) := by rw [D_X3_restore, if_pos c_1]
    exact ret_i hx hb hr hlk hP hD hS dX3_restore_9 ⟨Nat.zero_le _, Nat.zero_le _⟩ ⟨e9.symm, rfl⟩

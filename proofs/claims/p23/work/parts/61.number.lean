set_option maxHeartbeats 4000000 in
set_option maxRecDepth 100000 in
theorem c_L_number (l : Launch) (D : va_G) (Y : YY) (sz : Nat) (r : Nat) (tr : Nat) (pp : Nat) (h : Nat) (sl : Nat) (tx : Nat) (P : Nat → Nat → Int32) (v : Nat) (wt : va_W) (x : Nat) (vv : Int32) (hT : P 1 0 = nI 0) (hv : v < 1000) (hvv : vv = nI v) : Met l yL_number wsL_number ({ frames := 2, cells := 0, slots := 0, locals := 49 } : Room) (va_Pc [.ref x, .int (nI v)] (Pst D Y sz (wX x r tr pp h sl ++ (wP Y pp tx P ++ wt)))) ((fun A : Nat → Prop => Qsi D (fun r9 w9 => r9 = 1 ∧ ∃ (P9 : Nat → Nat → Int32) (len : Nat) (dgt : Nat → Nat), dig P9 len dgt ∧ val dgt len = v ∧ w9 = wX x r tr pp h sl ++ (wP Y pp tx P9 ++ wt)) A) (va_A (wX x r tr pp h sl ++ (wP Y pp tx P ++ wt)) sz)) 0 0 (va_A (wX x r tr pp h sl ++ (wP Y pp tx P ++ wt)) sz) := by
  refine ct_in (cc := cL_number) (maxL := 2) (ret := (some .boolean)) (Qc := fun A : Nat → Prop => Qsi D (fun r9 w9 => r9 = 1 ∧ ∃ (P9 : Nat → Nat → Int32) (len : Nat) (dgt : Nat → Nat), dig P9 len dgt ∧ val dgt len = v ∧ w9 = wX x r tr pp h sl ++ (wP Y pp tx P9 ++ wt)) A) (by decide +kernel) rfl (Nat.le_of_ble_eq_true rfl) ?_
  intro p e s m below meth c A ls hx hb hr hts hown hml hlk hin hsz hA hP hD hK hS hl
  subst hvv
  have hown : s.vm.findClass RL = some m.cls := hown
  have hl : lv_has ls 2 [(0, .ref x), (1, .int (nI v))] := hl
  show W p l e ({ frames := 2, cells := 0, slots := 0, locals := 49 } : Room) s m ([.ref x, .int (nI v)] : List Value).toArray below meth c s.heap [] 0 0 (MQ below (Qsi D (fun r9 w9 => r9 = 1 ∧ ∃ (P9 : Nat → Nat → Int32) (len : Nat) (dgt : Nat → Nat), dig P9 len dgt ∧ val dgt len = v ∧ w9 = wX x r tr pp h sl ++ (wP Y pp tx P9 ++ wt)) A) ([.ref x, .int (nI v)] : List Value).toArray s 0 0 A) (F0 m 0 ls [])
  refine lv_iload_n hx hb dL_number_0 rfl (lv_at hl 1 rfl) ?_
  refine lv_bipush (v := 100) hx hb dL_number_1 (by decide) ?_
  refine lv_icmp_lt (tgt := 21) hx hb dL_number_3 (by decide) (fun c_1 => ?_) (fun c_1 => ?_)
  · refine lv_iload_n hx hb dL_number_21 rfl (lv_at hl 1 rfl) ?_
    refine lv_bipush (v := 10) hx hb dL_number_22 (by decide) ?_
    refine lv_icmp_lt (tgt := 45) hx hb dL_number_24 (by decide) (fun c_2 => ?_) (fun c_2 => ?_)
    · refine lv_aload_n hx hb dL_number_45 rfl (lv_at hl 0 rfl) ?_
      refine lv_bipush (v := 48) hx hb dL_number_46 (by decide) ?_
      refine lv_iload_n hx hb dL_number_48 rfl (lv_at hl 1 rfl) ?_
      refine lv_bipush (v := 10) hx hb dL_number_49 (by decide) ?_
      refine lv_irem hx hb dL_number_51 (by decide) ?_
      refine lv_topi (fun y9 e9 => ?_)
      obtain rfl : y9 = nI (v % 10) := e9.trans (pk_rem (by omega) (by decide) (by decide))
      refine lv_iadd hx hb dL_number_52 ?_
      refine lv_topi (fun y9 e9 => ?_)
      obtain rfl : y9 = nI (48 + v % 10) := e9.trans (nI_add 48 _)
      refine lv_i2l (v := (nI (48 + v % 10)).toInt64) hx hb dL_number_53 rfl ?_
      refine cb_iD (wr := wt) (ws' := wX x r tr pp h sl ++ (wP Y pp tx ((D_X3_put P ((nI (48 + v % 10)).toInt64)).2) ++ wt)) (va_runV (As := [.long ((nI (48 + v % 10)).toInt64)]) (rest := []) ⟨hx, hb, hml, hown, hts⟩ (c_X3_put l D Y s.heap.size r tr pp h sl tx 0 P x ((nI (48 + v % 10)).toInt64) hT (by decide)) (cwV 1 hts gL_number_X3_put rfl rfl rfl (by decide +kernel) ⟨Nat.le_of_ble_eq_true rfl, Nat.le_of_ble_eq_true rfl⟩) (psb_V (wr := wt) hK hP hD (pl_cons (List.Perm.refl _) (List.Perm.refl _)) (q0 := 0) rfl rfl) rfl rfl hl.1 rfl (lv_room (Nat.le_of_ble_eq_true rfl)) dL_number_54 ⟨Nat.le_of_ble_eq_true rfl, Nat.le_of_ble_eq_true rfl⟩) hP hD hS hA (pl_cons (List.Perm.refl _) (List.Perm.refl _)) (pl_cons (List.Perm.refl _) (List.Perm.refl _)) (fun H locs hP hD hS => ?_)
      refine W.widen (k := 0) (n := 0) (Nat.le_of_ble_eq_true rfl) (Nat.le_of_ble_eq_true rfl) ?_
      have e7 : (D_X3_put P ((nI (48 + v % 10)).toInt64)).2 = putd P 0 (v % 10) := by rw [nI_l (by omega), put_d (len := 0) hT (by decide) (by omega)]
      rw [e7] at hP hD
      clear e7
      refine lv_topi (fun y9 e9 => ?_)
      obtain rfl : y9 = nI 1 := e9.trans (by rw [nI_l (by omega), put_d (len := 0) hT (by decide) (by omega)])
      refine lv_if_le (tgt := 64) hx hb dL_number_57 (by decide) (fun c_3 => ?_) (fun c_3 => ?_)
      · exact absurd c_3 (nI_nle (n := 1) (by decide) (by decide))
      · refine lv_iconst (v := 1) hx hb dL_number_60 (by decide) ?_
        refine lv_goto (tgt := 65) hx hb dL_number_61 (by decide) ?_
        exact ret_z hx hb hr rfl hlk hP hD hS dL_number_65 ⟨Nat.le_of_ble_eq_true rfl, Nat.le_of_ble_eq_true rfl⟩ ⟨rfl, putd P 0 (v % 10), 1, fun _ => v % 10, (num1 (P := P) hv c_2).1, (num1 (P := P) hv c_2).2, rfl⟩
    · refine lv_aload_n hx hb dL_number_27 rfl (lv_at hl 0 rfl) ?_
      refine lv_bipush (v := 48) hx hb dL_number_28 (by decide) ?_
      refine lv_iload_n hx hb dL_number_30 rfl (lv_at hl 1 rfl) ?_
      refine lv_bipush (v := 10) hx hb dL_number_31 (by decide) ?_
      refine lv_idiv hx hb dL_number_33 (by decide) ?_
      refine lv_topi (fun y9 e9 => ?_)
      obtain rfl : y9 = nI (v / 10) := e9.trans (pk_div (by omega) (by decide) (by decide))
      refine lv_bipush (v := 10) hx hb dL_number_34 (by decide) ?_
      refine lv_irem hx hb dL_number_36 (by decide) ?_
      refine lv_topi (fun y9 e9 => ?_)
      obtain rfl : y9 = nI (v / 10 % 10) := e9.trans (pk_rem (by omega) (by decide) (by decide))
      refine lv_iadd hx hb dL_number_37 ?_
      refine lv_topi (fun y9 e9 => ?_)
      obtain rfl : y9 = nI (48 + v / 10 % 10) := e9.trans (nI_add 48 _)
      refine lv_i2l (v := (nI (48 + v / 10 % 10)).toInt64) hx hb dL_number_38 rfl ?_
      refine cb_iD (wr := wt) (ws' := wX x r tr pp h sl ++ (wP Y pp tx ((D_X3_put P ((nI (48 + v / 10 % 10)).toInt64)).2) ++ wt)) (va_runV (As := [.long ((nI (48 + v / 10 % 10)).toInt64)]) (rest := []) ⟨hx, hb, hml, hown, hts⟩ (c_X3_put l D Y s.heap.size r tr pp h sl tx 0 P x ((nI (48 + v / 10 % 10)).toInt64) hT (by decide)) (cwV 1 hts gL_number_X3_put rfl rfl rfl (by decide +kernel) ⟨Nat.le_of_ble_eq_true rfl, Nat.le_of_ble_eq_true rfl⟩) (psb_V (wr := wt) hK hP hD (pl_cons (List.Perm.refl _) (List.Perm.refl _)) (q0 := 0) rfl rfl) rfl rfl hl.1 rfl (lv_room (Nat.le_of_ble_eq_true rfl)) dL_number_39 ⟨Nat.le_of_ble_eq_true rfl, Nat.le_of_ble_eq_true rfl⟩) hP hD hS hA (pl_cons (List.Perm.refl _) (List.Perm.refl _)) (pl_cons (List.Perm.refl _) (List.Perm.refl _)) (fun H locs hP hD hS => ?_)
      refine W.widen (k := 0) (n := 0) (Nat.le_of_ble_eq_true rfl) (Nat.le_of_ble_eq_true rfl) ?_
      have e7 : (D_X3_put P ((nI (48 + v / 10 % 10)).toInt64)).2 = putd P 0 (v / 10 % 10) := by rw [nI_l (by omega), put_d (len := 0) hT (by decide) (by omega)]
      rw [e7] at hP hD
      clear e7
      refine lv_topi (fun y9 e9 => ?_)
      obtain rfl : y9 = nI 1 := e9.trans (by rw [nI_l (by omega), put_d (len := 0) hT (by decide) (by omega)])
      refine lv_if_le (tgt := 64) hx hb dL_number_42 (by decide) (fun c_4 => ?_) (fun c_4 => ?_)
      · exact absurd c_4 (nI_nle (n := 1) (by decide) (by decide))
      · refine lv_aload_n hx hb dL_number_45 rfl (lv_at hl 0 rfl) ?_
        refine lv_bipush (v := 48) hx hb dL_number_46 (by decide) ?_
        refine lv_iload_n hx hb dL_number_48 rfl (lv_at hl 1 rfl) ?_
        refine lv_bipush (v := 10) hx hb dL_number_49 (by decide) ?_
        refine lv_irem hx hb dL_number_51 (by decide) ?_
        refine lv_topi (fun y9 e9 => ?_)
        obtain rfl : y9 = nI (v % 10) := e9.trans (pk_rem (by omega) (by decide) (by decide))
        refine lv_iadd hx hb dL_number_52 ?_
        refine lv_topi (fun y9 e9 => ?_)
        obtain rfl : y9 = nI (48 + v % 10) := e9.trans (nI_add 48 _)
        refine lv_i2l (v := (nI (48 + v % 10)).toInt64) hx hb dL_number_53 rfl ?_
        refine cb_iD (wr := wt) (ws' := wX x r tr pp h sl ++ (wP Y pp tx ((D_X3_put (putd P 0 (v / 10 % 10)) ((nI (48 + v % 10)).toInt64)).2) ++ wt)) (va_runV (As := [.long ((nI (48 + v % 10)).toInt64)]) (rest := []) ⟨hx, hb, hml, hown, hts⟩ (c_X3_put l D Y H.size r tr pp h sl tx 1 (putd P 0 (v / 10 % 10)) x ((nI (48 + v % 10)).toInt64) (pd_n _ _ _) (by decide)) (cwV 1 hts gL_number_X3_put rfl rfl rfl (by decide +kernel) ⟨Nat.le_of_ble_eq_true rfl, Nat.le_of_ble_eq_true rfl⟩) (psb_V (wr := wt) hK hP hD (pl_cons (List.Perm.refl _) (List.Perm.refl _)) (q0 := 0) rfl rfl) rfl rfl hl.1 rfl (lv_room (Nat.le_of_ble_eq_true rfl)) dL_number_54 ⟨Nat.le_of_ble_eq_true rfl, Nat.le_of_ble_eq_true rfl⟩) hP hD hS hA (pl_cons (List.Perm.refl _) (List.Perm.refl _)) (pl_cons (List.Perm.refl _) (List.Perm.refl _)) (fun H locs hP hD hS => ?_)
        refine W.widen (k := 0) (n := 0) (Nat.le_of_ble_eq_true rfl) (Nat.le_of_ble_eq_true rfl) ?_
        have e7 : (D_X3_put (putd P 0 (v / 10 % 10)) ((nI (48 + v % 10)).toInt64)).2 = putd (putd P 0 (v / 10 % 10)) 1 (v % 10) := by rw [nI_l (by omega), put_d (len := 1) (pd_n _ _ _) (by decide) (by omega)]
        rw [e7] at hP hD
        clear e7
        refine lv_topi (fun y9 e9 => ?_)
        obtain rfl : y9 = nI 2 := e9.trans (by rw [nI_l (by omega), put_d (len := 1) (pd_n _ _ _) (by decide) (by omega)])
        refine lv_if_le (tgt := 64) hx hb dL_number_57 (by decide) (fun c_5 => ?_) (fun c_5 => ?_)
        · exact absurd c_5 (nI_nle (n := 2) (by decide) (by decide))
        · refine lv_iconst (v := 1) hx hb dL_number_60 (by decide) ?_
          refine lv_goto (tgt := 65) hx hb dL_number_61 (by decide) ?_
          exact ret_z hx hb hr rfl hlk hP hD hS dL_number_65 ⟨Nat.le_of_ble_eq_true rfl, Nat.le_of_ble_eq_true rfl⟩ ⟨rfl, putd (putd P 0 (v / 10 % 10)) 1 (v % 10), 2, dg2 v, (num2 (P := P) c_1 hv c_2).1, (num2 (P := P) c_1 hv c_2).2, rfl⟩
  · refine lv_aload_n hx hb dL_number_6 rfl (lv_at hl 0 rfl) ?_
    refine lv_bipush (v := 48) hx hb dL_number_7 (by decide) ?_
    refine lv_iload_n hx hb dL_number_9 rfl (lv_at hl 1 rfl) ?_
    refine lv_bipush (v := 100) hx hb dL_number_10 (by decide) ?_
    refine lv_idiv hx hb dL_number_12 (by decide) ?_
    refine lv_topi (fun y9 e9 => ?_)
    obtain rfl : y9 = nI (v / 100) := e9.trans (pk_div (by omega) (by decide) (by decide))
    refine lv_iadd hx hb dL_number_13 ?_
    refine lv_topi (fun y9 e9 => ?_)
    obtain rfl : y9 = nI (48 + v / 100) := e9.trans (nI_add 48 _)
    refine lv_i2l (v := (nI (48 + v / 100)).toInt64) hx hb dL_number_14 rfl ?_
    refine cb_iD (wr := wt) (ws' := wX x r tr pp h sl ++ (wP Y pp tx ((D_X3_put P ((nI (48 + v / 100)).toInt64)).2) ++ wt)) (va_runV (As := [.long ((nI (48 + v / 100)).toInt64)]) (rest := []) ⟨hx, hb, hml, hown, hts⟩ (c_X3_put l D Y s.heap.size r tr pp h sl tx 0 P x ((nI (48 + v / 100)).toInt64) hT (by decide)) (cwV 1 hts gL_number_X3_put rfl rfl rfl (by decide +kernel) ⟨Nat.le_of_ble_eq_true rfl, Nat.le_of_ble_eq_true rfl⟩) (psb_V (wr := wt) hK hP hD (pl_cons (List.Perm.refl _) (List.Perm.refl _)) (q0 := 0) rfl rfl) rfl rfl hl.1 rfl (lv_room (Nat.le_of_ble_eq_true rfl)) dL_number_15 ⟨Nat.le_of_ble_eq_true rfl, Nat.le_of_ble_eq_true rfl⟩) hP hD hS hA (pl_cons (List.Perm.refl _) (List.Perm.refl _)) (pl_cons (List.Perm.refl _) (List.Perm.refl _)) (fun H locs hP hD hS => ?_)
    refine W.widen (k := 0) (n := 0) (Nat.le_of_ble_eq_true rfl) (Nat.le_of_ble_eq_true rfl) ?_
    have e7 : (D_X3_put P ((nI (48 + v / 100)).toInt64)).2 = putd P 0 (v / 100) := by rw [nI_l (by omega), put_d (len := 0) hT (by decide) (by omega)]
    rw [e7] at hP hD
    clear e7
    refine lv_topi (fun y9 e9 => ?_)
    obtain rfl : y9 = nI 1 := e9.trans (by rw [nI_l (by omega), put_d (len := 0) hT (by decide) (by omega)])
    refine lv_if_le (tgt := 64) hx hb dL_number_18 (by decide) (fun c_6 => ?_) (fun c_6 => ?_)
    · exact absurd c_6 (nI_nle (n := 1) (by decide) (by decide))
    · refine lv_iload_n hx hb dL_number_21 rfl (lv_at hl 1 rfl) ?_
      refine lv_bipush (v := 10) hx hb dL_number_22 (by decide) ?_
      refine lv_icmp_lt (tgt := 45) hx hb dL_number_24 (by decide) (fun c_7 => ?_) (fun c_7 => ?_)
      · exact absurd c_7 (nu_c hv c_1)
      · refine lv_aload_n hx hb dL_number_27 rfl (lv_at hl 0 rfl) ?_
        refine lv_bipush (v := 48) hx hb dL_number_28 (by decide) ?_
        refine lv_iload_n hx hb dL_number_30 rfl (lv_at hl 1 rfl) ?_
        refine lv_bipush (v := 10) hx hb dL_number_31 (by decide) ?_
        refine lv_idiv hx hb dL_number_33 (by decide) ?_
        refine lv_topi (fun y9 e9 => ?_)
        obtain rfl : y9 = nI (v / 10) := e9.trans (pk_div (by omega) (by decide) (by decide))
        refine lv_bipush (v := 10) hx hb dL_number_34 (by decide) ?_
        refine lv_irem hx hb dL_number_36 (by decide) ?_
        refine lv_topi (fun y9 e9 => ?_)
        obtain rfl : y9 = nI (v / 10 % 10) := e9.trans (pk_rem (by omega) (by decide) (by decide))
        refine lv_iadd hx hb dL_number_37 ?_
        refine lv_topi (fun y9 e9 => ?_)
        obtain rfl : y9 = nI (48 + v / 10 % 10) := e9.trans (nI_add 48 _)
        refine lv_i2l (v := (nI (48 + v / 10 % 10)).toInt64) hx hb dL_number_38 rfl ?_
        refine cb_iD (wr := wt) (ws' := wX x r tr pp h sl ++ (wP Y pp tx ((D_X3_put (putd P 0 (v / 100)) ((nI (48 + v / 10 % 10)).toInt64)).2) ++ wt)) (va_runV (As := [.long ((nI (48 + v / 10 % 10)).toInt64)]) (rest := []) ⟨hx, hb, hml, hown, hts⟩ (c_X3_put l D Y H.size r tr pp h sl tx 1 (putd P 0 (v / 100)) x ((nI (48 + v / 10 % 10)).toInt64) (pd_n _ _ _) (by decide)) (cwV 1 hts gL_number_X3_put rfl rfl rfl (by decide +kernel) ⟨Nat.le_of_ble_eq_true rfl, Nat.le_of_ble_eq_true rfl⟩) (psb_V (wr := wt) hK hP hD (pl_cons (List.Perm.refl _) (List.Perm.refl _)) (q0 := 0) rfl rfl) rfl rfl hl.1 rfl (lv_room (Nat.le_of_ble_eq_true rfl)) dL_number_39 ⟨Nat.le_of_ble_eq_true rfl, Nat.le_of_ble_eq_true rfl⟩) hP hD hS hA (pl_cons (List.Perm.refl _) (List.Perm.refl _)) (pl_cons (List.Perm.refl _) (List.Perm.refl _)) (fun H locs hP hD hS => ?_)
        refine W.widen (k := 0) (n := 0) (Nat.le_of_ble_eq_true rfl) (Nat.le_of_ble_eq_true rfl) ?_
        have e7 : (D_X3_put (putd P 0 (v / 100)) ((nI (48 + v / 10 % 10)).toInt64)).2 = putd (putd P 0 (v / 100)) 1 (v / 10 % 10) := by rw [nI_l (by omega), put_d (len := 1) (pd_n _ _ _) (by decide) (by omega)]
        rw [e7] at hP hD
        clear e7
        refine lv_topi (fun y9 e9 => ?_)
        obtain rfl : y9 = nI 2 := e9.trans (by rw [nI_l (by omega), put_d (len := 1) (pd_n _ _ _) (by decide) (by omega)])
        refine lv_if_le (tgt := 64) hx hb dL_number_42 (by decide) (fun c_8 => ?_) (fun c_8 => ?_)
        · exact absurd c_8 (nI_nle (n := 2) (by decide) (by decide))
        · refine lv_aload_n hx hb dL_number_45 rfl (lv_at hl 0 rfl) ?_
          refine lv_bipush (v := 48) hx hb dL_number_46 (by decide) ?_
          refine lv_iload_n hx hb dL_number_48 rfl (lv_at hl 1 rfl) ?_
          refine lv_bipush (v := 10) hx hb dL_number_49 (by decide) ?_
          refine lv_irem hx hb dL_number_51 (by decide) ?_
          refine lv_topi (fun y9 e9 => ?_)
          obtain rfl : y9 = nI (v % 10) := e9.trans (pk_rem (by omega) (by decide) (by decide))
          refine lv_iadd hx hb dL_number_52 ?_
          refine lv_topi (fun y9 e9 => ?_)
          obtain rfl : y9 = nI (48 + v % 10) := e9.trans (nI_add 48 _)
          refine lv_i2l (v := (nI (48 + v % 10)).toInt64) hx hb dL_number_53 rfl ?_
          refine cb_iD (wr := wt) (ws' := wX x r tr pp h sl ++ (wP Y pp tx ((D_X3_put (putd (putd P 0 (v / 100)) 1 (v / 10 % 10)) ((nI (48 + v % 10)).toInt64)).2) ++ wt)) (va_runV (As := [.long ((nI (48 + v % 10)).toInt64)]) (rest := []) ⟨hx, hb, hml, hown, hts⟩ (c_X3_put l D Y H.size r tr pp h sl tx 2 (putd (putd P 0 (v / 100)) 1 (v / 10 % 10)) x ((nI (48 + v % 10)).toInt64) (pd_n _ _ _) (by decide)) (cwV 1 hts gL_number_X3_put rfl rfl rfl (by decide +kernel) ⟨Nat.le_of_ble_eq_true rfl, Nat.le_of_ble_eq_true rfl⟩) (psb_V (wr := wt) hK hP hD (pl_cons (List.Perm.refl _) (List.Perm.refl _)) (q0 := 0) rfl rfl) rfl rfl hl.1 rfl (lv_room (Nat.le_of_ble_eq_true rfl)) dL_number_54 ⟨Nat.le_of_ble_eq_true rfl, Nat.le_of_ble_eq_true rfl⟩) hP hD hS hA (pl_cons (List.Perm.refl _) (List.Perm.refl _)) (pl_cons (List.Perm.refl _) (List.Perm.refl _)) (fun H locs hP hD hS => ?_)
          refine W.widen (k := 0) (n := 0) (Nat.le_of_ble_eq_true rfl) (Nat.le_of_ble_eq_true rfl) ?_
          have e7 : (D_X3_put (putd (putd P 0 (v / 100)) 1 (v / 10 % 10)) ((nI (48 + v % 10)).toInt64)).2 = putd (putd (putd P 0 (v / 100)) 1 (v / 10 % 10)) 2 (v % 10) := by rw [nI_l (by omega), put_d (len := 2) (pd_n _ _ _) (by decide) (by omega)]
          rw [e7] at hP hD
          clear e7
          refine lv_topi (fun y9 e9 => ?_)
          obtain rfl : y9 = nI 3 := e9.trans (by rw [nI_l (by omega), put_d (len := 2) (pd_n _ _ _) (by decide) (by omega)])
          refine lv_if_le (tgt := 64) hx hb dL_number_57 (by decide) (fun c_9 => ?_) (fun c_9 => ?_)
          · exact absurd c_9 (nI_nle (n := 3) (by decide) (by decide))
          · refine lv_iconst (v := 1) hx hb dL_number_60 (by decide) ?_
            refine lv_goto (tgt := 65) hx hb dL_number_61 (by decide) ?_
            exact ret_z hx hb hr rfl hlk hP hD hS dL_number_65 ⟨Nat.le_of_ble_eq_true rfl, Nat.le_of_ble_eq_true rfl⟩ ⟨rfl, putd (putd (putd P 0 (v / 100)) 1 (v / 10 % 10)) 2 (v % 10), 3, dg3 v, (num3 (P := P) hv c_1).1, (num3 (P := P) hv c_1).2, rfl⟩

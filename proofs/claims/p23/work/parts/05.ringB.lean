def L_X2_dancedWith_4 (S : Nat → Nat → Int32) (v : Int32) : Nat → (Int32) → (Int32) → (Int32)
  | 0, i, pz => pz
  | n_4 + 1, i, pz => if 9 ≤ i then pz else (if (S 7 (D_X3_pairIndex v i).toNatClampNeg) ≤ 0 then (L_X2_dancedWith_4 S v n_4 (i + 1) pz) else (L_X2_dancedWith_4 S v n_4 (i + 1) (pz ||| (1 <<< (i &&& 31)))))
def D_X2_dancedWith (S : Nat → Nat → Int32) (v : Int32) : (Int32) := (L_X2_dancedWith_4 S v 10 0 0)
set_option maxRecDepth 100000 in
theorem in_X2_dancedWith_RX2 : ∀ w ∈ u_ws RX2 TX2 13, w ∈ wsX2_dancedWith := by decide +kernel
set_option maxHeartbeats 4000000 in
set_option maxRecDepth 100000 in
theorem c_X2_dancedWith (l : Launch) (D : va_G) (Y : YY) (sz : Nat) (q : Nat → Nat) (S : Nat → Nat → Int32) (r : Nat) (v : Int32) (h_v : vp_in v 9) : Met l yX2_dancedWith wsX2_dancedWith ({ frames := 1, cells := 0, slots := 0, locals := 21 } : Room) (va_Pc [.ref r, .int v] (Pst D Y sz (wR Y r q S))) ((fun A : Nat → Prop => Qsi D (fun r9 w9 => r9 = D_X2_dancedWith S v ∧ w9 = wR Y r q S) A) (va_A (wR Y r q S) sz)) 0 0 (va_A (wR Y r q S) sz) := by
  refine ct_in (cc := cX2_dancedWith) (maxL := 4) (ret := (some .int)) (Qc := fun A : Nat → Prop => Qsi D (fun r9 w9 => r9 = D_X2_dancedWith S v ∧ w9 = wR Y r q S) A) (by decide +kernel) rfl (Nat.le_of_ble_eq_true rfl) ?_
  intro p e s m below meth c A ls hx hb hr hts hown hml hlk hin hsz hA hP hD hK hS hl
  have hown : s.vm.findClass RX2 = some m.cls := hown
  have hl : lv_has ls 4 [(0, .ref r), (1, .int v)] := hl
  show W p l e ({ frames := 1, cells := 0, slots := 0, locals := 21 } : Room) s m ([.ref r, .int v] : List Value).toArray below meth c s.heap [] 0 0 (MQ below (Qsi D (fun r9 w9 => r9 = D_X2_dancedWith S v ∧ w9 = wR Y r q S) A) ([.ref r, .int v] : List Value).toArray s 0 0 A) (F0 m 0 ls [])
  refine lv_iconst (v := 0) hx hb dX2_dancedWith_0 (by decide) ?_
  refine lv_istore_n (lv' := [(2, .int 0), (0, .ref r), (1, .int v)]) hx hb dX2_dancedWith_1 rfl hl (by decide) rfl (fun ls hl => ?_)
  refine lv_iconst (v := 0) hx hb dX2_dancedWith_2 (by decide) ?_
  refine lv_istore_n (lv' := [(3, .int 0), (2, .int 0), (0, .ref r), (1, .int v)]) hx hb dX2_dancedWith_3 rfl hl (by decide) rfl (fun ls hl => ?_)
  have loop_4 : ∀ (n_4 k_4 : Nat) (i : Int32) (pz : Int32) (H : Heap) (locs : List Loc) (ls : Array Slot), 10 ≤ k_4 + n_4 → k_4 ≤ 9 → i = nI k_4 → va_P D vwCl (wR Y r q S) H → va_D A (wR Y r q S) → va_S A s.heap H locs → lv_has ls 4 [(3, .int i), (2, .int pz), (0, .ref r), (1, .int v)] → L_X2_dancedWith_4 S v n_4 i pz = L_X2_dancedWith_4 S v 10 0 0 → W p l e ({ frames := 1, cells := 0, slots := 0, locals := 21 } : Room) s m ([.ref r, .int v] : List Value).toArray below meth c H locs 0 0 (MQ below (Qsi D (fun r9 w9 => r9 = D_X2_dancedWith S v ∧ w9 = wR Y r q S) A) ([.ref r, .int v] : List Value).toArray s 0 0 A) (F0 m 4 ls []) := by
    intro n_4
    induction n_4 with
    | zero => intro k_4 i pz H locs ls hkf hkN_4 ex_4 hP hD hS hl hR_4; exact absurd hkf (by omega)
    | succ n_4 ih_4 =>
      intro k_4 i pz H locs ls hkf hkN_4 ex_4 hP hD hS hl hR_4
      refine lv_iload_n hx hb dX2_dancedWith_4 rfl (lv_at hl 0 rfl) ?_
      refine lv_bipush (v := 9) hx hb dX2_dancedWith_5 (by decide) ?_
      refine lv_icmp_ge (tgt := 35) hx hb dX2_dancedWith_7 (by decide) (fun c_1 => ?_) (fun c_1 => ?_)
      · have e8 : L_X2_dancedWith_4 S v (n_4 + 1) i pz = pz := by rw [L_X2_dancedWith_4, if_pos c_1]
        have e8 := hR_4.symm.trans e8
        have epz : L_X2_dancedWith_4 S v 10 0 0 = pz := by rw [e8]
        clear e8 hR_4 ih_4
        refine lv_iload_n hx hb dX2_dancedWith_35 rfl (lv_at hl 1 rfl) ?_
        subst epz
        have e9 : D_X2_dancedWith S v = (L_X2_dancedWith_4 S v 10 0 0) := by rw [D_X2_dancedWith]
        exact ret_i hx hb hr hlk hP hD hS dX2_dancedWith_36 ⟨Nat.zero_le _, Nat.zero_le _⟩ ⟨e9.symm, rfl⟩
      · have hk_4 := my_lt ex_4 (show (9 : Int32) = nI 9 from rfl) (by decide) hkN_4 c_1
        refine lv_aload_n hx hb dX2_dancedWith_10 rfl (lv_at hl 2 rfl) ?_
        refine va_get (D := D) (ci := 2) (v := .ref (q 7)) (C := RX2) (T := TX2) (N := 13) hx hb hts in_X2_dancedWith_RX2 hown hK.1 hP 0 rfl rfl 8 (by decide) (hts (.fieldLink RX2 37 "NineDancers$Ring" "dances" "[I") (by decide +kernel)) (fun _ h9 => h9) rfl dX2_dancedWith_11 ?_
        refine lv_iload_n hx hb dX2_dancedWith_14 rfl (lv_at hl 3 rfl) ?_
        refine lv_iload_n hx hb dX2_dancedWith_15 rfl (lv_at hl 0 rfl) ?_
        refine ck_iD (wr := wR Y r q S) (ws' := wR Y r q S) (va_runSN (As := [.int v, .int i]) (rest := [.ref (q 7)]) ⟨hx, hb, hml, hown, hts⟩ (c_X3_pairIndex l D Y H.size v i) ⟨va_cnB 2 hts gX2_dancedWith_X3_pairIndex_n107 rfl rfl rfl hK.2.2.2.1 (hts (.initialized RX3) (by decide +kernel)) (by decide +kernel) ⟨Nat.le_of_ble_eq_true rfl, Nat.le_of_ble_eq_true rfl⟩, hts (.static yX3_pairIndex) (by decide +kernel), trivial⟩ (pst_S hK hP hD [] rfl (by decide)) rfl rfl hl.1 rfl (lv_room (Nat.le_of_ble_eq_true rfl)) dX2_dancedWith_16 ⟨Nat.zero_le _, Nat.zero_le _⟩) hP hD hS hA [] [0, 1, 2, 3, 4, 5, 6, 7, 8, 9, 10] [0, 1, 2, 3, 4, 5, 6, 7, 8, 9, 10] rfl rfl (by decide) (by decide) rfl (by decide) (fun H locs hP hD hS => ?_)
        refine va_iald (D := D) hx hb hK.1 hP 8 0 rfl rfl (in_pairIndex h_v (by rw [ex_4]; exact vp_in_nI hk_4 (by decide))) dX2_dancedWith_19 ?_
        refine lv_if_le (tgt := 29) hx hb dX2_dancedWith_20 (by decide) (fun c_2 => ?_) (fun c_2 => ?_)
        · refine lv_iinc (v := i + 1) (lv' := [(3, .int (i + 1)), (2, .int pz), (0, .ref r), (1, .int v)]) hx hb dX2_dancedWith_29 hl (k := 0) rfl rfl (by decide) rfl (fun ls hl => ?_)
          refine lv_goto (tgt := 4) hx hb dX2_dancedWith_32 (by decide) ?_
          exact ih_4 (k_4 + 1) (i + 1) pz _ _ _ (by omega) (by omega) (by rw [ex_4]; exact nI_1 k_4)  hP hD hS (lv_sub hl [0, 1, 2, 3] rfl) (by rw [L_X2_dancedWith_4, if_neg c_1, if_pos c_2] at hR_4; exact hR_4)
        · refine lv_iload_n hx hb dX2_dancedWith_23 rfl (lv_at hl 1 rfl) ?_
          refine lv_iconst (v := 1) hx hb dX2_dancedWith_24 (by decide) ?_
          refine lv_iload_n hx hb dX2_dancedWith_25 rfl (lv_at hl 0 rfl) ?_
          refine lv_ishl hx hb dX2_dancedWith_26 ?_
          refine lv_ior hx hb dX2_dancedWith_27 ?_
          refine lv_istore_n (lv' := [(2, .int (pz ||| (1 <<< (i &&& 31)))), (3, .int i), (0, .ref r), (1, .int v)]) hx hb dX2_dancedWith_28 rfl hl (by decide) rfl (fun ls hl => ?_)
          refine lv_iinc (v := i + 1) (lv' := [(3, .int (i + 1)), (2, .int (pz ||| (1 <<< (i &&& 31)))), (0, .ref r), (1, .int v)]) hx hb dX2_dancedWith_29 hl (k := 1) rfl rfl (by decide) rfl (fun ls hl => ?_)
          refine lv_goto (tgt := 4) hx hb dX2_dancedWith_32 (by decide) ?_
          exact ih_4 (k_4 + 1) (i + 1) (pz ||| (1 <<< (i &&& 31))) _ _ _ (by omega) (by omega) (by rw [ex_4]; exact nI_1 k_4)  hP hD hS (lv_sub hl [0, 1, 2, 3] rfl) (by rw [L_X2_dancedWith_4, if_neg c_1, if_neg c_2] at hR_4; exact hR_4)
  exact loop_4 10 0 0 0 _ _ _ (by omega) (Nat.zero_le _) nI_0.symm  hP hD hS (lv_sub hl [0, 1, 2, 3] rfl) rfl
def L_X2_mostFrequentPartner_8 (S : Nat → Nat → Int32) (v : Int32) : Nat → (Int32) → (Int32) → (Int32) → (Int32) × (Int32)
  | 0, i, pz, w => (pz, w)
  | n_8 + 1, i, pz, w => if 9 ≤ i then (pz, w) else (if (S 7 (D_X3_pairIndex v i).toNatClampNeg) ≤ w then (L_X2_mostFrequentPartner_8 S v n_8 (i + 1) pz w) else (L_X2_mostFrequentPartner_8 S v n_8 (i + 1) i (S 7 (D_X3_pairIndex v i).toNatClampNeg)))
def D_X2_mostFrequentPartner (S : Nat → Nat → Int32) (v : Int32) : (Int32) := ((L_X2_mostFrequentPartner_8 S v 10 0 (-1000006) 0).1)
set_option maxRecDepth 100000 in
theorem in_X2_mostFrequentPartner_RX2 : ∀ w ∈ u_ws RX2 TX2 13, w ∈ wsX2_mostFrequentPartner := by decide +kernel
set_option maxHeartbeats 4000000 in
set_option maxRecDepth 100000 in
theorem c_X2_mostFrequentPartner (l : Launch) (D : va_G) (Y : YY) (sz : Nat) (q : Nat → Nat) (S : Nat → Nat → Int32) (r : Nat) (v : Int32) (h_v : vp_in v 9) : Met l yX2_mostFrequentPartner wsX2_mostFrequentPartner ({ frames := 1, cells := 0, slots := 0, locals := 21 } : Room) (va_Pc [.ref r, .int v] (Pst D Y sz (wR Y r q S))) ((fun A : Nat → Prop => Qsi D (fun r9 w9 => r9 = D_X2_mostFrequentPartner S v ∧ w9 = wR Y r q S) A) (va_A (wR Y r q S) sz)) 0 0 (va_A (wR Y r q S) sz) := by
  refine ct_in (cc := cX2_mostFrequentPartner) (maxL := 6) (ret := (some .int)) (Qc := fun A : Nat → Prop => Qsi D (fun r9 w9 => r9 = D_X2_mostFrequentPartner S v ∧ w9 = wR Y r q S) A) (by decide +kernel) rfl (Nat.le_of_ble_eq_true rfl) ?_
  intro p e s m below meth c A ls hx hb hr hts hown hml hlk hin hsz hA hP hD hK hS hl
  have hown : s.vm.findClass RX2 = some m.cls := hown
  have hl : lv_has ls 6 [(0, .ref r), (1, .int v)] := hl
  show W p l e ({ frames := 1, cells := 0, slots := 0, locals := 21 } : Room) s m ([.ref r, .int v] : List Value).toArray below meth c s.heap [] 0 0 (MQ below (Qsi D (fun r9 w9 => r9 = D_X2_mostFrequentPartner S v ∧ w9 = wR Y r q S) A) ([.ref r, .int v] : List Value).toArray s 0 0 A) (F0 m 0 ls [])
  refine lv_ldc (v := (-1000006)) hx hb hown (hts (.constant RX2 49 (-1000006)) (by decide +kernel)) dX2_mostFrequentPartner_0 ?_
  refine lv_istore_n (lv' := [(2, .int (-1000006)), (0, .ref r), (1, .int v)]) hx hb dX2_mostFrequentPartner_2 rfl hl (by decide) rfl (fun ls hl => ?_)
  refine lv_iconst (v := 0) hx hb dX2_mostFrequentPartner_3 (by decide) ?_
  refine lv_istore_n (lv' := [(3, .int 0), (2, .int (-1000006)), (0, .ref r), (1, .int v)]) hx hb dX2_mostFrequentPartner_4 rfl hl (by decide) rfl (fun ls hl => ?_)
  refine lv_iconst (v := 0) hx hb dX2_mostFrequentPartner_5 (by decide) ?_
  refine lv_istore (lv' := [(4, .int 0), (3, .int 0), (2, .int (-1000006)), (0, .ref r), (1, .int v)]) hx hb dX2_mostFrequentPartner_6 hl (by decide) rfl (fun ls hl => ?_)
  have loop_8 : ∀ (n_8 k_8 : Nat) (i : Int32) (pz : Int32) (w : Int32) (H : Heap) (locs : List Loc) (ls : Array Slot), 10 ≤ k_8 + n_8 → k_8 ≤ 9 → i = nI k_8 → va_P D vwCl (wR Y r q S) H → va_D A (wR Y r q S) → va_S A s.heap H locs → lv_has ls 6 [(4, .int i), (3, .int w), (2, .int pz), (0, .ref r), (1, .int v)] → L_X2_mostFrequentPartner_8 S v n_8 i pz w = L_X2_mostFrequentPartner_8 S v 10 0 (-1000006) 0 → W p l e ({ frames := 1, cells := 0, slots := 0, locals := 21 } : Room) s m ([.ref r, .int v] : List Value).toArray below meth c H locs 0 0 (MQ below (Qsi D (fun r9 w9 => r9 = D_X2_mostFrequentPartner S v ∧ w9 = wR Y r q S) A) ([.ref r, .int v] : List Value).toArray s 0 0 A) (F0 m 8 ls []) := by
    intro n_8
    induction n_8 with
    | zero => intro k_8 i pz w H locs ls hkf hkN_8 ex_8 hP hD hS hl hR_8; exact absurd hkf (by omega)
    | succ n_8 ih_8 =>
      intro k_8 i pz w H locs ls hkf hkN_8 ex_8 hP hD hS hl hR_8
      refine lv_iload hx hb dX2_mostFrequentPartner_8 (lv_at hl 0 rfl) ?_
      refine lv_bipush (v := 9) hx hb dX2_mostFrequentPartner_10 (by decide) ?_
      refine lv_icmp_ge (tgt := 46) hx hb dX2_mostFrequentPartner_12 (by decide) (fun c_1 => ?_) (fun c_1 => ?_)
      · have e8 : L_X2_mostFrequentPartner_8 S v (n_8 + 1) i pz w = (pz, w) := by rw [L_X2_mostFrequentPartner_8, if_pos c_1]
        have e8 := hR_8.symm.trans e8
        have epz : (L_X2_mostFrequentPartner_8 S v 10 0 (-1000006) 0).1 = pz := by rw [e8]
        have ew : (L_X2_mostFrequentPartner_8 S v 10 0 (-1000006) 0).2 = w := by rw [e8]
        clear e8 hR_8 ih_8
        refine lv_iload_n hx hb dX2_mostFrequentPartner_46 rfl (lv_at hl 2 rfl) ?_
        subst ew
        subst epz
        have e9 : D_X2_mostFrequentPartner S v = ((L_X2_mostFrequentPartner_8 S v 10 0 (-1000006) 0).1) := by rw [D_X2_mostFrequentPartner]
        exact ret_i hx hb hr hlk hP hD hS dX2_mostFrequentPartner_47 ⟨Nat.zero_le _, Nat.zero_le _⟩ ⟨e9.symm, rfl⟩
      · have hk_8 := my_lt ex_8 (show (9 : Int32) = nI 9 from rfl) (by decide) hkN_8 c_1
        refine lv_aload_n hx hb dX2_mostFrequentPartner_15 rfl (lv_at hl 3 rfl) ?_
        refine va_get (D := D) (ci := 2) (v := .ref (q 7)) (C := RX2) (T := TX2) (N := 13) hx hb hts in_X2_mostFrequentPartner_RX2 hown hK.1 hP 0 rfl rfl 8 (by decide) (hts (.fieldLink RX2 37 "NineDancers$Ring" "dances" "[I") (by decide +kernel)) (fun _ h9 => h9) rfl dX2_mostFrequentPartner_16 ?_
        refine lv_iload_n hx hb dX2_mostFrequentPartner_19 rfl (lv_at hl 4 rfl) ?_
        refine lv_iload hx hb dX2_mostFrequentPartner_20 (lv_at hl 0 rfl) ?_
        refine ck_iD (wr := wR Y r q S) (ws' := wR Y r q S) (va_runSN (As := [.int v, .int i]) (rest := [.ref (q 7)]) ⟨hx, hb, hml, hown, hts⟩ (c_X3_pairIndex l D Y H.size v i) ⟨va_cnB 2 hts gX2_mostFrequentPartner_X3_pairIndex_n107 rfl rfl rfl hK.2.2.2.1 (hts (.initialized RX3) (by decide +kernel)) (by decide +kernel) ⟨Nat.le_of_ble_eq_true rfl, Nat.le_of_ble_eq_true rfl⟩, hts (.static yX3_pairIndex) (by decide +kernel), trivial⟩ (pst_S hK hP hD [] rfl (by decide)) rfl rfl hl.1 rfl (lv_room (Nat.le_of_ble_eq_true rfl)) dX2_mostFrequentPartner_22 ⟨Nat.zero_le _, Nat.zero_le _⟩) hP hD hS hA [] [0, 1, 2, 3, 4, 5, 6, 7, 8, 9, 10] [0, 1, 2, 3, 4, 5, 6, 7, 8, 9, 10] rfl rfl (by decide) (by decide) rfl (by decide) (fun H locs hP hD hS => ?_)
        refine va_iald (D := D) hx hb hK.1 hP 8 0 rfl rfl (in_pairIndex h_v (by rw [ex_8]; exact vp_in_nI hk_8 (by decide))) dX2_mostFrequentPartner_25 ?_
        refine lv_istore (lv' := [(5, .int (S 7 (D_X3_pairIndex v i).toNatClampNeg)), (4, .int i), (3, .int w), (2, .int pz), (0, .ref r), (1, .int v)]) hx hb dX2_mostFrequentPartner_26 hl (by decide) rfl (fun ls hl => ?_)
        refine lv_iload hx hb dX2_mostFrequentPartner_28 (lv_at hl 0 rfl) ?_
        refine lv_iload_n hx hb dX2_mostFrequentPartner_30 rfl (lv_at hl 2 rfl) ?_
        refine lv_icmp_le (tgt := 40) hx hb dX2_mostFrequentPartner_31 (by decide) (fun c_2 => ?_) (fun c_2 => ?_)
        · refine lv_iinc (v := i + 1) (lv' := [(4, .int (i + 1)), (5, .int (S 7 (D_X3_pairIndex v i).toNatClampNeg)), (3, .int w), (2, .int pz), (0, .ref r), (1, .int v)]) hx hb dX2_mostFrequentPartner_40 hl (k := 1) rfl rfl (by decide) rfl (fun ls hl => ?_)
          refine lv_goto (tgt := 8) hx hb dX2_mostFrequentPartner_43 (by decide) ?_
          exact ih_8 (k_8 + 1) (i + 1) pz w _ _ _ (by omega) (by omega) (by rw [ex_8]; exact nI_1 k_8)  hP hD hS (lv_sub hl [0, 2, 3, 4, 5] rfl) (by rw [L_X2_mostFrequentPartner_8, if_neg c_1, if_pos c_2] at hR_8; exact hR_8)
        · refine lv_iload hx hb dX2_mostFrequentPartner_34 (lv_at hl 1 rfl) ?_
          refine lv_istore_n (lv' := [(2, .int i), (5, .int (S 7 (D_X3_pairIndex v i).toNatClampNeg)), (4, .int i), (3, .int w), (0, .ref r), (1, .int v)]) hx hb dX2_mostFrequentPartner_36 rfl hl (by decide) rfl (fun ls hl => ?_)
          refine lv_iload hx hb dX2_mostFrequentPartner_37 (lv_at hl 1 rfl) ?_
          refine lv_istore_n (lv' := [(3, .int (S 7 (D_X3_pairIndex v i).toNatClampNeg)), (2, .int i), (5, .int (S 7 (D_X3_pairIndex v i).toNatClampNeg)), (4, .int i), (0, .ref r), (1, .int v)]) hx hb dX2_mostFrequentPartner_39 rfl hl (by decide) rfl (fun ls hl => ?_)
          refine lv_iinc (v := i + 1) (lv' := [(4, .int (i + 1)), (3, .int (S 7 (D_X3_pairIndex v i).toNatClampNeg)), (2, .int i), (5, .int (S 7 (D_X3_pairIndex v i).toNatClampNeg)), (0, .ref r), (1, .int v)]) hx hb dX2_mostFrequentPartner_40 hl (k := 3) rfl rfl (by decide) rfl (fun ls hl => ?_)
          refine lv_goto (tgt := 8) hx hb dX2_mostFrequentPartner_43 (by decide) ?_
          exact ih_8 (k_8 + 1) (i + 1) i (S 7 (D_X3_pairIndex v i).toNatClampNeg) _ _ _ (by omega) (by omega) (by rw [ex_8]; exact nI_1 k_8)  hP hD hS (lv_sub hl [0, 1, 2, 4, 5] rfl) (by rw [L_X2_mostFrequentPartner_8, if_neg c_1, if_neg c_2] at hR_8; exact hR_8)
  exact loop_8 10 0 0 (-1000006) 0 _ _ _ (by omega) (Nat.zero_le _) nI_0.symm  hP hD hS (lv_sub hl [0, 1, 2, 3, 4] rfl) rfl
def D_X2_isUnmet (S : Nat → Nat → Int32) (a : Int32) (b : Int32) : (Int32) := if (D_X2_isThere S a) = 0 then 0 else (if (D_X2_isThere S b) = 0 then 0 else (if (S 7 (D_X3_pairIndex a b).toNatClampNeg) = 0 then 1 else 0))
set_option maxRecDepth 100000 in
theorem in_X2_isUnmet_RX2 : ∀ w ∈ u_ws RX2 TX2 13, w ∈ wsX2_isUnmet := by decide +kernel
set_option maxHeartbeats 4000000 in
set_option maxRecDepth 100000 in
theorem c_X2_isUnmet (l : Launch) (D : va_G) (Y : YY) (sz : Nat) (q : Nat → Nat) (S : Nat → Nat → Int32) (r : Nat) (a : Int32) (b : Int32) (h_a : vp_in a 9) (h_b : vp_in b 9) : Met l yX2_isUnmet wsX2_isUnmet ({ frames := 1, cells := 0, slots := 0, locals := 21 } : Room) (va_Pc [.ref r, .int a, .int b] (Pst D Y sz (wR Y r q S))) ((fun A : Nat → Prop => Qsi D (fun r9 w9 => r9 = D_X2_isUnmet S a b ∧ w9 = wR Y r q S) A) (va_A (wR Y r q S) sz)) 0 0 (va_A (wR Y r q S) sz) := by
  refine ct_in (cc := cX2_isUnmet) (maxL := 3) (ret := (some .boolean)) (Qc := fun A : Nat → Prop => Qsi D (fun r9 w9 => r9 = D_X2_isUnmet S a b ∧ w9 = wR Y r q S) A) (by decide +kernel) rfl (Nat.le_of_ble_eq_true rfl) ?_
  intro p e s m below meth c A ls hx hb hr hts hown hml hlk hin hsz hA hP hD hK hS hl
  have hown : s.vm.findClass RX2 = some m.cls := hown
  have hl : lv_has ls 3 [(0, .ref r), (1, .int a), (2, .int b)] := hl
  show W p l e ({ frames := 1, cells := 0, slots := 0, locals := 21 } : Room) s m ([.ref r, .int a, .int b] : List Value).toArray below meth c s.heap [] 0 0 (MQ below (Qsi D (fun r9 w9 => r9 = D_X2_isUnmet S a b ∧ w9 = wR Y r q S) A) ([.ref r, .int a, .int b] : List Value).toArray s 0 0 A) (F0 m 0 ls [])
  refine lv_aload_n hx hb dX2_isUnmet_0 rfl (lv_at hl 0 rfl) ?_
  refine lv_iload_n hx hb dX2_isUnmet_1 rfl (lv_at hl 1 rfl) ?_
  refine ck_iD (wr := ([] : va_W)) (ws' := wR Y r q S) (va_runV (As := [.int a]) (rest := []) ⟨hx, hb, hml, hown, hts⟩ (c_X2_isThere l D Y s.heap.size q S r a) (cwV 1 hts gX2_isUnmet_X2_isThere rfl rfl rfl (by decide +kernel) ⟨Nat.le_of_ble_eq_true rfl, Nat.le_of_ble_eq_true rfl⟩) (pst_V hK hP hD [0, 1, 2, 3, 4, 5, 6, 7, 8, 9, 10] rfl (by decide) (q0 := 0) rfl rfl) rfl rfl hl.1 rfl (lv_room (Nat.le_of_ble_eq_true rfl)) dX2_isUnmet_2 ⟨Nat.zero_le _, Nat.zero_le _⟩) hP hD hS hA [0, 1, 2, 3, 4, 5, 6, 7, 8, 9, 10] [] [0, 1, 2, 3, 4, 5, 6, 7, 8, 9, 10] rfl rfl (by decide) (by decide) rfl (by decide) (fun H locs hP hD hS => ?_)
  refine lv_if_eq (tgt := 33) hx hb dX2_isUnmet_5 (by decide) (fun c_1 => ?_) (fun c_1 => ?_)
  · refine lv_iconst (v := 0) hx hb dX2_isUnmet_33 (by decide) ?_
    have e9 : D_X2_isUnmet S a b = 0 := by rw [D_X2_isUnmet, if_pos c_1]
    exact ret_z hx hb hr rfl hlk hP hD hS dX2_isUnmet_34 ⟨Nat.zero_le _, Nat.zero_le _⟩ ⟨e9.symm, rfl⟩
  · refine lv_aload_n hx hb dX2_isUnmet_8 rfl (lv_at hl 0 rfl) ?_
    refine lv_iload_n hx hb dX2_isUnmet_9 rfl (lv_at hl 2 rfl) ?_
    refine ck_iD (wr := ([] : va_W)) (ws' := wR Y r q S) (va_runV (As := [.int b]) (rest := []) ⟨hx, hb, hml, hown, hts⟩ (c_X2_isThere l D Y H.size q S r b) (cwV 1 hts gX2_isUnmet_X2_isThere rfl rfl rfl (by decide +kernel) ⟨Nat.le_of_ble_eq_true rfl, Nat.le_of_ble_eq_true rfl⟩) (pst_V hK hP hD [0, 1, 2, 3, 4, 5, 6, 7, 8, 9, 10] rfl (by decide) (q0 := 0) rfl rfl) rfl rfl hl.1 rfl (lv_room (Nat.le_of_ble_eq_true rfl)) dX2_isUnmet_10 ⟨Nat.zero_le _, Nat.zero_le _⟩) hP hD hS hA [0, 1, 2, 3, 4, 5, 6, 7, 8, 9, 10] [] [0, 1, 2, 3, 4, 5, 6, 7, 8, 9, 10] rfl rfl (by decide) (by decide) rfl (by decide) (fun H locs hP hD hS => ?_)
    refine lv_if_eq (tgt := 33) hx hb dX2_isUnmet_13 (by decide) (fun c_2 => ?_) (fun c_2 => ?_)
    · refine lv_iconst (v := 0) hx hb dX2_isUnmet_33 (by decide) ?_
      have e9 : D_X2_isUnmet S a b = 0 := by rw [D_X2_isUnmet, if_neg c_1, if_pos c_2]
      exact ret_z hx hb hr rfl hlk hP hD hS dX2_isUnmet_34 ⟨Nat.zero_le _, Nat.zero_le _⟩ ⟨e9.symm, rfl⟩
    · refine lv_aload_n hx hb dX2_isUnmet_16 rfl (lv_at hl 0 rfl) ?_
      refine va_get (D := D) (ci := 2) (v := .ref (q 7)) (C := RX2) (T := TX2) (N := 13) hx hb hts in_X2_isUnmet_RX2 hown hK.1 hP 0 rfl rfl 8 (by decide) (hts (.fieldLink RX2 37 "NineDancers$Ring" "dances" "[I") (by decide +kernel)) (fun _ h9 => h9) rfl dX2_isUnmet_17 ?_
      refine lv_iload_n hx hb dX2_isUnmet_20 rfl (lv_at hl 1 rfl) ?_
      refine lv_iload_n hx hb dX2_isUnmet_21 rfl (lv_at hl 2 rfl) ?_
      refine ck_iD (wr := wR Y r q S) (ws' := wR Y r q S) (va_runSN (As := [.int a, .int b]) (rest := [.ref (q 7)]) ⟨hx, hb, hml, hown, hts⟩ (c_X3_pairIndex l D Y H.size a b) ⟨va_cnB 2 hts gX2_isUnmet_X3_pairIndex_n107 rfl rfl rfl hK.2.2.2.1 (hts (.initialized RX3) (by decide +kernel)) (by decide +kernel) ⟨Nat.le_of_ble_eq_true rfl, Nat.le_of_ble_eq_true rfl⟩, hts (.static yX3_pairIndex) (by decide +kernel), trivial⟩ (pst_S hK hP hD [] rfl (by decide)) rfl rfl hl.1 rfl (lv_room (Nat.le_of_ble_eq_true rfl)) dX2_isUnmet_22 ⟨Nat.zero_le _, Nat.zero_le _⟩) hP hD hS hA [] [0, 1, 2, 3, 4, 5, 6, 7, 8, 9, 10] [0, 1, 2, 3, 4, 5, 6, 7, 8, 9, 10] rfl rfl (by decide) (by decide) rfl (by decide) (fun H locs hP hD hS => ?_)
      refine va_iald (D := D) hx hb hK.1 hP 8 0 rfl rfl (in_pairIndex h_a h_b) dX2_isUnmet_25 ?_
      refine lv_if_ne (tgt := 33) hx hb dX2_isUnmet_26 (by decide) (fun c_3 => ?_) (fun c_3 => ?_)
      · refine lv_iconst (v := 0) hx hb dX2_isUnmet_33 (by decide) ?_
        have e9 : D_X2_isUnmet S a b = 0 := by rw [D_X2_isUnmet, if_neg c_1, if_neg c_2, if_neg c_3]
        exact ret_z hx hb hr rfl hlk hP hD hS dX2_isUnmet_34 ⟨Nat.zero_le _, Nat.zero_le _⟩ ⟨e9.symm, rfl⟩
      · refine lv_iconst (v := 1) hx hb dX2_isUnmet_29 (by decide) ?_
        refine lv_goto (tgt := 34) hx hb dX2_isUnmet_30 (by decide) ?_
        have e9 : D_X2_isUnmet S a b = 1 := by rw [D_X2_isUnmet, if_neg c_1, if_neg c_2, if_pos c_3]
        exact ret_z hx hb hr rfl hlk hP hD hS dX2_isUnmet_34 ⟨Nat.zero_le _, Nat.zero_le _⟩ ⟨e9.symm, rfl⟩
theorem z_X2_isUnmet (S : Nat → Nat → Int32) (a : Int32) (b : Int32) : D_X2_isUnmet S a b = 0 ∨ D_X2_isUnmet S a b = 1 := by unfold D_X2_isUnmet; (repeat' split) <;> simp
def L_X2_unmetPairs_14 (S : Nat → Nat → Int32) (i : Int32) (u : Int32) : Nat → (Int32) → (Int32) → (Int32)
  | 0, j, u1 => u1
  | n_14 + 1, j, u1 => if 9 ≤ j then u1 else (if (D_X2_isUnmet S i j) = 0 then (L_X2_unmetPairs_14 S i u n_14 (j + 1) u1) else (L_X2_unmetPairs_14 S i u n_14 (j + 1) (u1 + 1)))
def L_X2_unmetPairs_4 (S : Nat → Nat → Int32) : Nat → (Int32) → (Int32) → (Int32)
  | 0, i, u => u
  | n_4 + 1, i, u => if 9 ≤ i then u else (L_X2_unmetPairs_4 S n_4 (i + 1) (L_X2_unmetPairs_14 S i u 10 (i + 1) u))
def D_X2_unmetPairs (S : Nat → Nat → Int32)  : (Int32) := (L_X2_unmetPairs_4 S 10 0 0)
set_option maxHeartbeats 4000000 in
set_option maxRecDepth 100000 in
theorem c_X2_unmetPairs (l : Launch) (D : va_G) (Y : YY) (sz : Nat) (q : Nat → Nat) (S : Nat → Nat → Int32) (r : Nat) : Met l yX2_unmetPairs wsX2_unmetPairs ({ frames := 2, cells := 0, slots := 0, locals := 43 } : Room) (va_Pc [.ref r] (Pst D Y sz (wR Y r q S))) ((fun A : Nat → Prop => Qsi D (fun r9 w9 => r9 = D_X2_unmetPairs S ∧ w9 = wR Y r q S) A) (va_A (wR Y r q S) sz)) 0 0 (va_A (wR Y r q S) sz) := by
  refine ct_in (cc := cX2_unmetPairs) (maxL := 4) (ret := (some .int)) (Qc := fun A : Nat → Prop => Qsi D (fun r9 w9 => r9 = D_X2_unmetPairs S ∧ w9 = wR Y r q S) A) (by decide +kernel) rfl (Nat.le_of_ble_eq_true rfl) ?_
  intro p e s m below meth c A ls hx hb hr hts hown hml hlk hin hsz hA hP hD hK hS hl
  have hown : s.vm.findClass RX2 = some m.cls := hown
  have hl : lv_has ls 4 [(0, .ref r)] := hl
  show W p l e ({ frames := 2, cells := 0, slots := 0, locals := 43 } : Room) s m ([.ref r] : List Value).toArray below meth c s.heap [] 0 0 (MQ below (Qsi D (fun r9 w9 => r9 = D_X2_unmetPairs S ∧ w9 = wR Y r q S) A) ([.ref r] : List Value).toArray s 0 0 A) (F0 m 0 ls [])
  refine lv_iconst (v := 0) hx hb dX2_unmetPairs_0 (by decide) ?_
  refine lv_istore_n (lv' := [(1, .int 0), (0, .ref r)]) hx hb dX2_unmetPairs_1 rfl hl (by decide) rfl (fun ls hl => ?_)
  refine lv_iconst (v := 0) hx hb dX2_unmetPairs_2 (by decide) ?_
  refine lv_istore_n (lv' := [(2, .int 0), (1, .int 0), (0, .ref r)]) hx hb dX2_unmetPairs_3 rfl hl (by decide) rfl (fun ls hl => ?_)
  have loop_4 : ∀ (n_4 k_4 : Nat) (i : Int32) (u : Int32) (H : Heap) (locs : List Loc) (ls : Array Slot), 10 ≤ k_4 + n_4 → k_4 ≤ 9 → i = nI k_4 → va_P D vwCl (wR Y r q S) H → va_D A (wR Y r q S) → va_S A s.heap H locs → lv_has ls 4 [(2, .int i), (1, .int u), (0, .ref r)] → L_X2_unmetPairs_4 S n_4 i u = L_X2_unmetPairs_4 S 10 0 0 → W p l e ({ frames := 2, cells := 0, slots := 0, locals := 43 } : Room) s m ([.ref r] : List Value).toArray below meth c H locs 0 0 (MQ below (Qsi D (fun r9 w9 => r9 = D_X2_unmetPairs S ∧ w9 = wR Y r q S) A) ([.ref r] : List Value).toArray s 0 0 A) (F0 m 4 ls []) := by
    intro n_4
    induction n_4 with
    | zero => intro k_4 i u H locs ls hkf hkN_4 ex_4 hP hD hS hl hR_4; exact absurd hkf (by omega)
    | succ n_4 ih_4 =>
      intro k_4 i u H locs ls hkf hkN_4 ex_4 hP hD hS hl hR_4
      refine lv_iload_n hx hb dX2_unmetPairs_4 rfl (lv_at hl 0 rfl) ?_
      refine lv_bipush (v := 9) hx hb dX2_unmetPairs_5 (by decide) ?_
      refine lv_icmp_ge (tgt := 44) hx hb dX2_unmetPairs_7 (by decide) (fun c_1 => ?_) (fun c_1 => ?_)
      · have e8 : L_X2_unmetPairs_4 S (n_4 + 1) i u = u := by rw [L_X2_unmetPairs_4, if_pos c_1]
        have e8 := hR_4.symm.trans e8
        have eu : L_X2_unmetPairs_4 S 10 0 0 = u := by rw [e8]
        clear e8 hR_4 ih_4
        refine lv_iload_n hx hb dX2_unmetPairs_44 rfl (lv_at hl 1 rfl) ?_
        subst eu
        have e9 : D_X2_unmetPairs S = (L_X2_unmetPairs_4 S 10 0 0) := by rw [D_X2_unmetPairs]
        exact ret_i hx hb hr hlk hP hD hS dX2_unmetPairs_45 ⟨Nat.zero_le _, Nat.zero_le _⟩ ⟨e9.symm, rfl⟩
      · have hk_4 := my_lt ex_4 (show (9 : Int32) = nI 9 from rfl) (by decide) hkN_4 c_1
        refine lv_iload_n hx hb dX2_unmetPairs_10 rfl (lv_at hl 0 rfl) ?_
        refine lv_iconst (v := 1) hx hb dX2_unmetPairs_11 (by decide) ?_
        refine lv_iadd hx hb dX2_unmetPairs_12 ?_
        refine lv_istore_n (lv' := [(3, .int (i + 1)), (2, .int i), (1, .int u), (0, .ref r)]) hx hb dX2_unmetPairs_13 rfl hl (by decide) rfl (fun ls hl => ?_)
        have loop_14 : ∀ (n_14 k_14 : Nat) (j : Int32) (u1 : Int32) (H : Heap) (locs : List Loc) (ls : Array Slot), 10 ≤ k_14 + n_14 → k_14 ≤ 9 → j = nI k_14 → va_P D vwCl (wR Y r q S) H → va_D A (wR Y r q S) → va_S A s.heap H locs → lv_has ls 4 [(3, .int j), (2, .int i), (1, .int u1), (0, .ref r)] → L_X2_unmetPairs_14 S i u n_14 j u1 = L_X2_unmetPairs_14 S i u 10 (i + 1) u → W p l e ({ frames := 2, cells := 0, slots := 0, locals := 43 } : Room) s m ([.ref r] : List Value).toArray below meth c H locs 0 0 (MQ below (Qsi D (fun r9 w9 => r9 = D_X2_unmetPairs S ∧ w9 = wR Y r q S) A) ([.ref r] : List Value).toArray s 0 0 A) (F0 m 14 ls []) := by
          intro n_14
          induction n_14 with
          | zero => intro k_14 j u1 H locs ls hkf hkN_14 ex_14 hP hD hS hl hR_14; exact absurd hkf (by omega)
          | succ n_14 ih_14 =>
            intro k_14 j u1 H locs ls hkf hkN_14 ex_14 hP hD hS hl hR_14
            refine lv_iload_n hx hb dX2_unmetPairs_14 rfl (lv_at hl 0 rfl) ?_
            refine lv_bipush (v := 9) hx hb dX2_unmetPairs_15 (by decide) ?_
            refine lv_icmp_ge (tgt := 38) hx hb dX2_unmetPairs_17 (by decide) (fun c_2 => ?_) (fun c_2 => ?_)
            · have e8 : L_X2_unmetPairs_14 S i u (n_14 + 1) j u1 = u1 := by rw [L_X2_unmetPairs_14, if_pos c_2]
              have e8 := hR_14.symm.trans e8
              have eu1 : L_X2_unmetPairs_14 S i u 10 (i + 1) u = u1 := by rw [e8]
              clear e8 hR_14 ih_14
              refine lv_iinc (v := i + 1) (lv' := [(2, .int (i + 1)), (3, .int j), (1, .int u1), (0, .ref r)]) hx hb dX2_unmetPairs_38 hl (k := 1) rfl rfl (by decide) rfl (fun ls hl => ?_)
              refine lv_goto (tgt := 4) hx hb dX2_unmetPairs_41 (by decide) ?_
              subst eu1
              exact ih_4 (k_4 + 1) (i + 1) (L_X2_unmetPairs_14 S i u 10 (i + 1) u) _ _ _ (by omega) (by omega) (by rw [ex_4]; exact nI_1 k_4)  hP hD hS (lv_sub hl [0, 2, 3] rfl) (by rw [L_X2_unmetPairs_4, if_neg c_1] at hR_4; exact hR_4)
            · have hk_14 := my_lt ex_14 (show (9 : Int32) = nI 9 from rfl) (by decide) hkN_14 c_2
              refine lv_aload_n hx hb dX2_unmetPairs_20 rfl (lv_at hl 3 rfl) ?_
              refine lv_iload_n hx hb dX2_unmetPairs_21 rfl (lv_at hl 1 rfl) ?_
              refine lv_iload_n hx hb dX2_unmetPairs_22 rfl (lv_at hl 0 rfl) ?_
              refine ck_iD (wr := ([] : va_W)) (ws' := wR Y r q S) (va_runV (As := [.int i, .int j]) (rest := []) ⟨hx, hb, hml, hown, hts⟩ (c_X2_isUnmet l D Y H.size q S r i j (by rw [ex_4]; exact vp_in_nI hk_4 (by decide)) (by rw [ex_14]; exact vp_in_nI hk_14 (by decide))) (cwV 2 hts gX2_unmetPairs_X2_isUnmet rfl rfl rfl (by decide +kernel) ⟨Nat.le_of_ble_eq_true rfl, Nat.le_of_ble_eq_true rfl⟩) (pst_V hK hP hD [0, 1, 2, 3, 4, 5, 6, 7, 8, 9, 10] rfl (by decide) (q0 := 0) rfl rfl) rfl rfl hl.1 rfl (lv_room (Nat.le_of_ble_eq_true rfl)) dX2_unmetPairs_23 ⟨Nat.zero_le _, Nat.zero_le _⟩) hP hD hS hA [0, 1, 2, 3, 4, 5, 6, 7, 8, 9, 10] [] [0, 1, 2, 3, 4, 5, 6, 7, 8, 9, 10] rfl rfl (by decide) (by decide) rfl (by decide) (fun H locs hP hD hS => ?_)
              refine lv_if_eq (tgt := 32) hx hb dX2_unmetPairs_26 (by decide) (fun c_3 => ?_) (fun c_3 => ?_)
              · refine lv_iinc (v := j + 1) (lv' := [(3, .int (j + 1)), (2, .int i), (1, .int u1), (0, .ref r)]) hx hb dX2_unmetPairs_32 hl (k := 0) rfl rfl (by decide) rfl (fun ls hl => ?_)
                refine lv_goto (tgt := 14) hx hb dX2_unmetPairs_35 (by decide) ?_
                exact ih_14 (k_14 + 1) (j + 1) u1 _ _ _ (by omega) (by omega) (by rw [ex_14]; exact nI_1 k_14)  hP hD hS (lv_sub hl [0, 1, 2, 3] rfl) (by rw [L_X2_unmetPairs_14, if_neg c_2, if_pos c_3] at hR_14; exact hR_14)
              · refine lv_iinc (v := u1 + 1) (lv' := [(1, .int (u1 + 1)), (3, .int j), (2, .int i), (0, .ref r)]) hx hb dX2_unmetPairs_29 hl (k := 2) rfl rfl (by decide) rfl (fun ls hl => ?_)
                refine lv_iinc (v := j + 1) (lv' := [(3, .int (j + 1)), (1, .int (u1 + 1)), (2, .int i), (0, .ref r)]) hx hb dX2_unmetPairs_32 hl (k := 1) rfl rfl (by decide) rfl (fun ls hl => ?_)
                refine lv_goto (tgt := 14) hx hb dX2_unmetPairs_35 (by decide) ?_
                exact ih_14 (k_14 + 1) (j + 1) (u1 + 1) _ _ _ (by omega) (by omega) (by rw [ex_14]; exact nI_1 k_14)  hP hD hS (lv_sub hl [0, 2, 1, 3] rfl) (by rw [L_X2_unmetPairs_14, if_neg c_2, if_neg c_3] at hR_14; exact hR_14)
        exact loop_14 10 (k_4 + 1) (i + 1) u _ _ _ (by omega) (by omega) (by rw [ex_4]; exact nI_1 k_4)  hP hD hS (lv_sub hl [0, 1, 2, 3] rfl) rfl
  exact loop_4 10 0 0 0 _ _ _ (by omega) (Nat.zero_le _) nI_0.symm  hP hD hS (lv_sub hl [0, 1, 2] rfl) rfl
def L_X2_hasUnmetPair_2 (S : Nat → Nat → Int32) (n : Int32) : Nat → (Int32) → (Int32)
  | 0, i => 0
  | n_2 + 1, i => if 9 ≤ i then 0 else (if (D_X3_counterpart i n) ≤ i then (L_X2_hasUnmetPair_2 S n n_2 (i + 1)) else (if (D_X2_isUnmet S i (D_X3_counterpart i n)) = 0 then (L_X2_hasUnmetPair_2 S n n_2 (i + 1)) else 1))
def D_X2_hasUnmetPair (S : Nat → Nat → Int32) (n : Int32) : (Int32) := L_X2_hasUnmetPair_2 S n 10 0
set_option maxHeartbeats 4000000 in
set_option maxRecDepth 100000 in
theorem c_X2_hasUnmetPair (l : Launch) (D : va_G) (Y : YY) (sz : Nat) (q : Nat → Nat) (S : Nat → Nat → Int32) (r : Nat) (n : Int32) : Met l yX2_hasUnmetPair wsX2_hasUnmetPair ({ frames := 3, cells := 0, slots := 0, locals := 63 } : Room) (va_Pc [.ref r, .int n] (Pst D Y sz (wR Y r q S))) ((fun A : Nat → Prop => Qsi D (fun r9 w9 => r9 = D_X2_hasUnmetPair S n ∧ w9 = wR Y r q S) A) (va_A (wR Y r q S) sz)) 0 0 (va_A (wR Y r q S) sz) := by
  refine ct_in (cc := cX2_hasUnmetPair) (maxL := 4) (ret := (some .boolean)) (Qc := fun A : Nat → Prop => Qsi D (fun r9 w9 => r9 = D_X2_hasUnmetPair S n ∧ w9 = wR Y r q S) A) (by decide +kernel) rfl (Nat.le_of_ble_eq_true rfl) ?_
  intro p e s m below meth c A ls hx hb hr hts hown hml hlk hin hsz hA hP hD hK hS hl
  have hown : s.vm.findClass RX2 = some m.cls := hown
  have hl : lv_has ls 4 [(0, .ref r), (1, .int n)] := hl
  show W p l e ({ frames := 3, cells := 0, slots := 0, locals := 63 } : Room) s m ([.ref r, .int n] : List Value).toArray below meth c s.heap [] 0 0 (MQ below (Qsi D (fun r9 w9 => r9 = D_X2_hasUnmetPair S n ∧ w9 = wR Y r q S) A) ([.ref r, .int n] : List Value).toArray s 0 0 A) (F0 m 0 ls [])
  refine lv_iconst (v := 0) hx hb dX2_hasUnmetPair_0 (by decide) ?_
  refine lv_istore_n (lv' := [(2, .int 0), (0, .ref r), (1, .int n)]) hx hb dX2_hasUnmetPair_1 rfl hl (by decide) rfl (fun ls hl => ?_)
  have loop_2 : ∀ (n_2 k_2 : Nat) (i : Int32) (H : Heap) (locs : List Loc) (ls : Array Slot), 10 ≤ k_2 + n_2 → k_2 ≤ 9 → i = nI k_2 → va_P D vwCl (wR Y r q S) H → va_D A (wR Y r q S) → va_S A s.heap H locs → lv_has ls 4 [(2, .int i), (0, .ref r), (1, .int n)] → L_X2_hasUnmetPair_2 S n n_2 i = D_X2_hasUnmetPair S n → W p l e ({ frames := 3, cells := 0, slots := 0, locals := 63 } : Room) s m ([.ref r, .int n] : List Value).toArray below meth c H locs 0 0 (MQ below (Qsi D (fun r9 w9 => r9 = D_X2_hasUnmetPair S n ∧ w9 = wR Y r q S) A) ([.ref r, .int n] : List Value).toArray s 0 0 A) (F0 m 2 ls []) := by
    intro n_2
    induction n_2 with
    | zero => intro k_2 i H locs ls hkf hkN_2 ex_2 hP hD hS hl hR_2; exact absurd hkf (by omega)
    | succ n_2 ih_2 =>
      intro k_2 i H locs ls hkf hkN_2 ex_2 hP hD hS hl hR_2
      refine lv_iload_n hx hb dX2_hasUnmetPair_2 rfl (lv_at hl 0 rfl) ?_
      refine lv_bipush (v := 9) hx hb dX2_hasUnmetPair_3 (by decide) ?_
      refine lv_icmp_ge (tgt := 36) hx hb dX2_hasUnmetPair_5 (by decide) (fun c_1 => ?_) (fun c_1 => ?_)
      · refine lv_iconst (v := 0) hx hb dX2_hasUnmetPair_36 (by decide) ?_
        have e9 : L_X2_hasUnmetPair_2 S n (n_2 + 1) i = 0 := by rw [L_X2_hasUnmetPair_2, if_pos c_1]
        have e9 := hR_2.symm.trans e9
        exact ret_z hx hb hr rfl hlk hP hD hS dX2_hasUnmetPair_37 ⟨Nat.zero_le _, Nat.zero_le _⟩ ⟨e9.symm, rfl⟩
      · have hk_2 := my_lt ex_2 (show (9 : Int32) = nI 9 from rfl) (by decide) hkN_2 c_1
        refine lv_iload_n hx hb dX2_hasUnmetPair_8 rfl (lv_at hl 0 rfl) ?_
        refine lv_iload_n hx hb dX2_hasUnmetPair_9 rfl (lv_at hl 2 rfl) ?_
        refine ck_iD (wr := wR Y r q S) (ws' := wR Y r q S) (va_runSN (As := [.int i, .int n]) (rest := []) ⟨hx, hb, hml, hown, hts⟩ (c_X3_counterpart l D Y H.size i n) ⟨va_cnB 2 hts gX2_hasUnmetPair_X3_counterpart_n75 rfl rfl rfl hK.2.2.1 (hts (.initialized RX3) (by decide +kernel)) (by decide +kernel) ⟨Nat.le_of_ble_eq_true rfl, Nat.le_of_ble_eq_true rfl⟩, hts (.static yX3_counterpart) (by decide +kernel), trivial⟩ (pst_S hK hP hD [] rfl (by decide)) rfl rfl hl.1 rfl (lv_room (Nat.le_of_ble_eq_true rfl)) dX2_hasUnmetPair_10 ⟨Nat.zero_le _, Nat.zero_le _⟩) hP hD hS hA [] [0, 1, 2, 3, 4, 5, 6, 7, 8, 9, 10] [0, 1, 2, 3, 4, 5, 6, 7, 8, 9, 10] rfl rfl (by decide) (by decide) rfl (by decide) (fun H locs hP hD hS => ?_)
        refine lv_istore_n (lv' := [(3, .int (D_X3_counterpart i n)), (2, .int i), (0, .ref r), (1, .int n)]) hx hb dX2_hasUnmetPair_13 rfl hl (by decide) rfl (fun ls hl => ?_)
        refine lv_iload_n hx hb dX2_hasUnmetPair_14 rfl (lv_at hl 1 rfl) ?_
        refine lv_iload_n hx hb dX2_hasUnmetPair_15 rfl (lv_at hl 0 rfl) ?_
        refine lv_icmp_ge (tgt := 30) hx hb dX2_hasUnmetPair_16 (by decide) (fun c_2 => ?_) (fun c_2 => ?_)
        · refine lv_iinc (v := i + 1) (lv' := [(2, .int (i + 1)), (3, .int (D_X3_counterpart i n)), (0, .ref r), (1, .int n)]) hx hb dX2_hasUnmetPair_30 hl (k := 1) rfl rfl (by decide) rfl (fun ls hl => ?_)
          refine lv_goto (tgt := 2) hx hb dX2_hasUnmetPair_33 (by decide) ?_
          exact ih_2 (k_2 + 1) (i + 1) _ _ _ (by omega) (by omega) (by rw [ex_2]; exact nI_1 k_2)  hP hD hS (lv_sub hl [0, 2, 3] rfl) (by rw [L_X2_hasUnmetPair_2, if_neg c_1, if_pos c_2] at hR_2; exact hR_2)
        · refine lv_aload_n hx hb dX2_hasUnmetPair_19 rfl (lv_at hl 2 rfl) ?_
          refine lv_iload_n hx hb dX2_hasUnmetPair_20 rfl (lv_at hl 1 rfl) ?_
          refine lv_iload_n hx hb dX2_hasUnmetPair_21 rfl (lv_at hl 0 rfl) ?_
          refine ck_iD (wr := ([] : va_W)) (ws' := wR Y r q S) (va_runV (As := [.int i, .int (D_X3_counterpart i n)]) (rest := []) ⟨hx, hb, hml, hown, hts⟩ (c_X2_isUnmet l D Y H.size q S r i (D_X3_counterpart i n) (by rw [ex_2]; exact vp_in_nI hk_2 (by decide)) (in_counterpart _ _)) (cwV 2 hts gX2_hasUnmetPair_X2_isUnmet rfl rfl rfl (by decide +kernel) ⟨Nat.le_of_ble_eq_true rfl, Nat.le_of_ble_eq_true rfl⟩) (pst_V hK hP hD [0, 1, 2, 3, 4, 5, 6, 7, 8, 9, 10] rfl (by decide) (q0 := 0) rfl rfl) rfl rfl hl.1 rfl (lv_room (Nat.le_of_ble_eq_true rfl)) dX2_hasUnmetPair_22 ⟨Nat.zero_le _, Nat.zero_le _⟩) hP hD hS hA [0, 1, 2, 3, 4, 5, 6, 7, 8, 9, 10] [] [0, 1, 2, 3, 4, 5, 6, 7, 8, 9, 10] rfl rfl (by decide) (by decide) rfl (by decide) (fun H locs hP hD hS => ?_)
          refine lv_if_eq (tgt := 30) hx hb dX2_hasUnmetPair_25 (by decide) (fun c_3 => ?_) (fun c_3 => ?_)
          · refine lv_iinc (v := i + 1) (lv' := [(2, .int (i + 1)), (3, .int (D_X3_counterpart i n)), (0, .ref r), (1, .int n)]) hx hb dX2_hasUnmetPair_30 hl (k := 1) rfl rfl (by decide) rfl (fun ls hl => ?_)
            refine lv_goto (tgt := 2) hx hb dX2_hasUnmetPair_33 (by decide) ?_
            exact ih_2 (k_2 + 1) (i + 1) _ _ _ (by omega) (by omega) (by rw [ex_2]; exact nI_1 k_2)  hP hD hS (lv_sub hl [0, 2, 3] rfl) (by rw [L_X2_hasUnmetPair_2, if_neg c_1, if_neg c_2, if_pos c_3] at hR_2; exact hR_2)
          · refine lv_iconst (v := 1) hx hb dX2_hasUnmetPair_28 (by decide) ?_
            have e9 : L_X2_hasUnmetPair_2 S n (n_2 + 1) i = 1 := by rw [L_X2_hasUnmetPair_2, if_neg c_1, if_neg c_2, if_neg c_3]
            have e9 := hR_2.symm.trans e9
            exact ret_z hx hb hr rfl hlk hP hD hS dX2_hasUnmetPair_29 ⟨Nat.zero_le _, Nat.zero_le _⟩ ⟨e9.symm, rfl⟩
  exact loop_2 10 0 0 _ _ _ (by omega) (Nat.zero_le _) nI_0.symm  hP hD hS (lv_sub hl [0, 1, 2] rfl) (by rw [D_X2_hasUnmetPair])
def L_X2_remaindersWithUnmetPair_4 (S : Nat → Nat → Int32) : Nat → (Int32) → (Int32) → (Int32)
  | 0, i, u => u
  | n_4 + 1, i, u => if 9 ≤ i then u else (if (D_X2_hasUnmetPair S i) = 0 then (L_X2_remaindersWithUnmetPair_4 S n_4 (i + 1) u) else (L_X2_remaindersWithUnmetPair_4 S n_4 (i + 1) (u + 1)))
def D_X2_remaindersWithUnmetPair (S : Nat → Nat → Int32)  : (Int32) := (L_X2_remaindersWithUnmetPair_4 S 10 0 0)
set_option maxHeartbeats 4000000 in
set_option maxRecDepth 100000 in
theorem c_X2_remaindersWithUnmetPair (l : Launch) (D : va_G) (Y : YY) (sz : Nat) (q : Nat → Nat) (S : Nat → Nat → Int32) (r : Nat) : Met l yX2_remaindersWithUnmetPair wsX2_remaindersWithUnmetPair ({ frames := 4, cells := 0, slots := 0, locals := 86 } : Room) (va_Pc [.ref r] (Pst D Y sz (wR Y r q S))) ((fun A : Nat → Prop => Qsi D (fun r9 w9 => r9 = D_X2_remaindersWithUnmetPair S ∧ w9 = wR Y r q S) A) (va_A (wR Y r q S) sz)) 0 0 (va_A (wR Y r q S) sz) := by
  refine ct_in (cc := cX2_remaindersWithUnmetPair) (maxL := 3) (ret := (some .int)) (Qc := fun A : Nat → Prop => Qsi D (fun r9 w9 => r9 = D_X2_remaindersWithUnmetPair S ∧ w9 = wR Y r q S) A) (by decide +kernel) rfl (Nat.le_of_ble_eq_true rfl) ?_
  intro p e s m below meth c A ls hx hb hr hts hown hml hlk hin hsz hA hP hD hK hS hl
  have hown : s.vm.findClass RX2 = some m.cls := hown
  have hl : lv_has ls 3 [(0, .ref r)] := hl
  show W p l e ({ frames := 4, cells := 0, slots := 0, locals := 86 } : Room) s m ([.ref r] : List Value).toArray below meth c s.heap [] 0 0 (MQ below (Qsi D (fun r9 w9 => r9 = D_X2_remaindersWithUnmetPair S ∧ w9 = wR Y r q S) A) ([.ref r] : List Value).toArray s 0 0 A) (F0 m 0 ls [])
  refine lv_iconst (v := 0) hx hb dX2_remaindersWithUnmetPair_0 (by decide) ?_
  refine lv_istore_n (lv' := [(1, .int 0), (0, .ref r)]) hx hb dX2_remaindersWithUnmetPair_1 rfl hl (by decide) rfl (fun ls hl => ?_)
  refine lv_iconst (v := 0) hx hb dX2_remaindersWithUnmetPair_2 (by decide) ?_
  refine lv_istore_n (lv' := [(2, .int 0), (1, .int 0), (0, .ref r)]) hx hb dX2_remaindersWithUnmetPair_3 rfl hl (by decide) rfl (fun ls hl => ?_)
  have loop_4 : ∀ (n_4 k_4 : Nat) (i : Int32) (u : Int32) (H : Heap) (locs : List Loc) (ls : Array Slot), 10 ≤ k_4 + n_4 → k_4 ≤ 9 → i = nI k_4 → va_P D vwCl (wR Y r q S) H → va_D A (wR Y r q S) → va_S A s.heap H locs → lv_has ls 3 [(2, .int i), (1, .int u), (0, .ref r)] → L_X2_remaindersWithUnmetPair_4 S n_4 i u = L_X2_remaindersWithUnmetPair_4 S 10 0 0 → W p l e ({ frames := 4, cells := 0, slots := 0, locals := 86 } : Room) s m ([.ref r] : List Value).toArray below meth c H locs 0 0 (MQ below (Qsi D (fun r9 w9 => r9 = D_X2_remaindersWithUnmetPair S ∧ w9 = wR Y r q S) A) ([.ref r] : List Value).toArray s 0 0 A) (F0 m 4 ls []) := by
    intro n_4
    induction n_4 with
    | zero => intro k_4 i u H locs ls hkf hkN_4 ex_4 hP hD hS hl hR_4; exact absurd hkf (by omega)
    | succ n_4 ih_4 =>
      intro k_4 i u H locs ls hkf hkN_4 ex_4 hP hD hS hl hR_4
      refine lv_iload_n hx hb dX2_remaindersWithUnmetPair_4 rfl (lv_at hl 0 rfl) ?_
      refine lv_bipush (v := 9) hx hb dX2_remaindersWithUnmetPair_5 (by decide) ?_
      refine lv_icmp_ge (tgt := 27) hx hb dX2_remaindersWithUnmetPair_7 (by decide) (fun c_1 => ?_) (fun c_1 => ?_)
      · have e8 : L_X2_remaindersWithUnmetPair_4 S (n_4 + 1) i u = u := by rw [L_X2_remaindersWithUnmetPair_4, if_pos c_1]
        have e8 := hR_4.symm.trans e8
        have eu : L_X2_remaindersWithUnmetPair_4 S 10 0 0 = u := by rw [e8]
        clear e8 hR_4 ih_4
        refine lv_iload_n hx hb dX2_remaindersWithUnmetPair_27 rfl (lv_at hl 1 rfl) ?_
        subst eu
        have e9 : D_X2_remaindersWithUnmetPair S = (L_X2_remaindersWithUnmetPair_4 S 10 0 0) := by rw [D_X2_remaindersWithUnmetPair]
        exact ret_i hx hb hr hlk hP hD hS dX2_remaindersWithUnmetPair_28 ⟨Nat.zero_le _, Nat.zero_le _⟩ ⟨e9.symm, rfl⟩
      · have hk_4 := my_lt ex_4 (show (9 : Int32) = nI 9 from rfl) (by decide) hkN_4 c_1
        refine lv_aload_n hx hb dX2_remaindersWithUnmetPair_10 rfl (lv_at hl 2 rfl) ?_
        refine lv_iload_n hx hb dX2_remaindersWithUnmetPair_11 rfl (lv_at hl 0 rfl) ?_
        refine ck_iD (wr := ([] : va_W)) (ws' := wR Y r q S) (va_runV (As := [.int i]) (rest := []) ⟨hx, hb, hml, hown, hts⟩ (c_X2_hasUnmetPair l D Y H.size q S r i) (cwV 1 hts gX2_remaindersWithUnmetPair_X2_hasUnmetPair rfl rfl rfl (by decide +kernel) ⟨Nat.le_of_ble_eq_true rfl, Nat.le_of_ble_eq_true rfl⟩) (pst_V hK hP hD [0, 1, 2, 3, 4, 5, 6, 7, 8, 9, 10] rfl (by decide) (q0 := 0) rfl rfl) rfl rfl hl.1 rfl (lv_room (Nat.le_of_ble_eq_true rfl)) dX2_remaindersWithUnmetPair_12 ⟨Nat.zero_le _, Nat.zero_le _⟩) hP hD hS hA [0, 1, 2, 3, 4, 5, 6, 7, 8, 9, 10] [] [0, 1, 2, 3, 4, 5, 6, 7, 8, 9, 10] rfl rfl (by decide) (by decide) rfl (by decide) (fun H locs hP hD hS => ?_)
        refine lv_if_eq (tgt := 21) hx hb dX2_remaindersWithUnmetPair_15 (by decide) (fun c_2 => ?_) (fun c_2 => ?_)
        · refine lv_iinc (v := i + 1) (lv' := [(2, .int (i + 1)), (1, .int u), (0, .ref r)]) hx hb dX2_remaindersWithUnmetPair_21 hl (k := 0) rfl rfl (by decide) rfl (fun ls hl => ?_)
          refine lv_goto (tgt := 4) hx hb dX2_remaindersWithUnmetPair_24 (by decide) ?_
          exact ih_4 (k_4 + 1) (i + 1) u _ _ _ (by omega) (by omega) (by rw [ex_4]; exact nI_1 k_4)  hP hD hS (lv_sub hl [0, 1, 2] rfl) (by rw [L_X2_remaindersWithUnmetPair_4, if_neg c_1, if_pos c_2] at hR_4; exact hR_4)
        · refine lv_iinc (v := u + 1) (lv' := [(1, .int (u + 1)), (2, .int i), (0, .ref r)]) hx hb dX2_remaindersWithUnmetPair_18 hl (k := 1) rfl rfl (by decide) rfl (fun ls hl => ?_)
          refine lv_iinc (v := i + 1) (lv' := [(2, .int (i + 1)), (1, .int (u + 1)), (0, .ref r)]) hx hb dX2_remaindersWithUnmetPair_21 hl (k := 1) rfl rfl (by decide) rfl (fun ls hl => ?_)
          refine lv_goto (tgt := 4) hx hb dX2_remaindersWithUnmetPair_24 (by decide) ?_
          exact ih_4 (k_4 + 1) (i + 1) (u + 1) _ _ _ (by omega) (by omega) (by rw [ex_4]; exact nI_1 k_4)  hP hD hS (lv_sub hl [0, 1, 2] rfl) (by rw [L_X2_remaindersWithUnmetPair_4, if_neg c_1, if_neg c_2] at hR_4; exact hR_4)
  exact loop_4 10 0 0 0 _ _ _ (by omega) (Nat.zero_le _) nI_0.symm  hP hD hS (lv_sub hl [0, 1, 2] rfl) rfl
def L_X2_roundsByTrying_14 (S : Nat → Nat → Int32) (i : Int32) (u : Int32) : Nat → (Int32) → (Int32) → (Int32)
  | 0, j, u1 => u1
  | n_14 + 1, j, u1 => if 9 ≤ j then u1 else (if (D_X2_isUnmet S i j) = 0 then (L_X2_roundsByTrying_14 S i u n_14 (j + 1) u1) else (L_X2_roundsByTrying_14 S i u n_14 (j + 1) (u1 ||| (1 <<< ((D_X3_remainderOf (i + j)) &&& 31)))))
def L_X2_roundsByTrying_4 (S : Nat → Nat → Int32) : Nat → (Int32) → (Int32) → (Int32)
  | 0, i, u => u
  | n_4 + 1, i, u => if 9 ≤ i then u else (L_X2_roundsByTrying_4 S n_4 (i + 1) (L_X2_roundsByTrying_14 S i u 10 (i + 1) u))
def D_X2_roundsByTrying (S : Nat → Nat → Int32)  : (Int32) := D_J6_bitCount_0f7a4 (L_X2_roundsByTrying_4 S 10 0 0)
set_option maxHeartbeats 4000000 in
set_option maxRecDepth 100000 in
theorem c_X2_roundsByTrying (l : Launch) (D : va_G) (Y : YY) (sz : Nat) (q : Nat → Nat) (S : Nat → Nat → Int32) (r : Nat) : Met l yX2_roundsByTrying wsX2_roundsByTrying ({ frames := 2, cells := 0, slots := 0, locals := 43 } : Room) (va_Pc [.ref r] (Pst D Y sz (wR Y r q S))) ((fun A : Nat → Prop => Qsi D (fun r9 w9 => r9 = D_X2_roundsByTrying S ∧ w9 = wR Y r q S) A) (va_A (wR Y r q S) sz)) 0 0 (va_A (wR Y r q S) sz) := by
  refine ct_in (cc := cX2_roundsByTrying) (maxL := 4) (ret := (some .int)) (Qc := fun A : Nat → Prop => Qsi D (fun r9 w9 => r9 = D_X2_roundsByTrying S ∧ w9 = wR Y r q S) A) (by decide +kernel) rfl (Nat.le_of_ble_eq_true rfl) ?_
  intro p e s m below meth c A ls hx hb hr hts hown hml hlk hin hsz hA hP hD hK hS hl
  have hown : s.vm.findClass RX2 = some m.cls := hown
  have hl : lv_has ls 4 [(0, .ref r)] := hl
  show W p l e ({ frames := 2, cells := 0, slots := 0, locals := 43 } : Room) s m ([.ref r] : List Value).toArray below meth c s.heap [] 0 0 (MQ below (Qsi D (fun r9 w9 => r9 = D_X2_roundsByTrying S ∧ w9 = wR Y r q S) A) ([.ref r] : List Value).toArray s 0 0 A) (F0 m 0 ls [])
  refine lv_iconst (v := 0) hx hb dX2_roundsByTrying_0 (by decide) ?_
  refine lv_istore_n (lv' := [(1, .int 0), (0, .ref r)]) hx hb dX2_roundsByTrying_1 rfl hl (by decide) rfl (fun ls hl => ?_)
  refine lv_iconst (v := 0) hx hb dX2_roundsByTrying_2 (by decide) ?_
  refine lv_istore_n (lv' := [(2, .int 0), (1, .int 0), (0, .ref r)]) hx hb dX2_roundsByTrying_3 rfl hl (by decide) rfl (fun ls hl => ?_)
  have loop_4 : ∀ (n_4 k_4 : Nat) (i : Int32) (u : Int32) (H : Heap) (locs : List Loc) (ls : Array Slot), 10 ≤ k_4 + n_4 → k_4 ≤ 9 → i = nI k_4 → va_P D vwCl (wR Y r q S) H → va_D A (wR Y r q S) → va_S A s.heap H locs → lv_has ls 4 [(2, .int i), (1, .int u), (0, .ref r)] → L_X2_roundsByTrying_4 S n_4 i u = L_X2_roundsByTrying_4 S 10 0 0 → W p l e ({ frames := 2, cells := 0, slots := 0, locals := 43 } : Room) s m ([.ref r] : List Value).toArray below meth c H locs 0 0 (MQ below (Qsi D (fun r9 w9 => r9 = D_X2_roundsByTrying S ∧ w9 = wR Y r q S) A) ([.ref r] : List Value).toArray s 0 0 A) (F0 m 4 ls []) := by
    intro n_4
    induction n_4 with
    | zero => intro k_4 i u H locs ls hkf hkN_4 ex_4 hP hD hS hl hR_4; exact absurd hkf (by omega)
    | succ n_4 ih_4 =>
      intro k_4 i u H locs ls hkf hkN_4 ex_4 hP hD hS hl hR_4
      refine lv_iload_n hx hb dX2_roundsByTrying_4 rfl (lv_at hl 0 rfl) ?_
      refine lv_bipush (v := 9) hx hb dX2_roundsByTrying_5 (by decide) ?_
      refine lv_icmp_ge (tgt := 52) hx hb dX2_roundsByTrying_7 (by decide) (fun c_1 => ?_) (fun c_1 => ?_)
      · have e8 : L_X2_roundsByTrying_4 S (n_4 + 1) i u = u := by rw [L_X2_roundsByTrying_4, if_pos c_1]
        have e8 := hR_4.symm.trans e8
        have eu : L_X2_roundsByTrying_4 S 10 0 0 = u := by rw [e8]
        clear e8 hR_4 ih_4
        refine lv_iload_n hx hb dX2_roundsByTrying_52 rfl (lv_at hl 1 rfl) ?_
        refine ck_iD (wr := wR Y r q S) (ws' := wR Y r q S) (va_runS (As := [.int u]) (rest := []) ⟨hx, hb, hml, hown, hts⟩ (c_J6_bitCount_0f7a4 l D Y H.size u) (va_cwS 1 hts gX2_roundsByTrying_J6_bitCount_0f7a4 rfl rfl rfl (by decide +kernel) ⟨Nat.le_of_ble_eq_true rfl, Nat.le_of_ble_eq_true rfl⟩) (pst_S hK hP hD [] rfl (by decide)) rfl rfl hl.1 rfl (lv_room (Nat.le_of_ble_eq_true rfl)) dX2_roundsByTrying_53 ⟨Nat.zero_le _, Nat.zero_le _⟩) hP hD hS hA [] [0, 1, 2, 3, 4, 5, 6, 7, 8, 9, 10] [0, 1, 2, 3, 4, 5, 6, 7, 8, 9, 10] rfl rfl (by decide) (by decide) rfl (by decide) (fun H locs hP hD hS => ?_)
        subst eu
        have e9 : D_X2_roundsByTrying S = D_J6_bitCount_0f7a4 (L_X2_roundsByTrying_4 S 10 0 0) := by rw [D_X2_roundsByTrying]
        exact ret_i hx hb hr hlk hP hD hS dX2_roundsByTrying_56 ⟨Nat.zero_le _, Nat.zero_le _⟩ ⟨e9.symm, rfl⟩
      · have hk_4 := my_lt ex_4 (show (9 : Int32) = nI 9 from rfl) (by decide) hkN_4 c_1
        refine lv_iload_n hx hb dX2_roundsByTrying_10 rfl (lv_at hl 0 rfl) ?_
        refine lv_iconst (v := 1) hx hb dX2_roundsByTrying_11 (by decide) ?_
        refine lv_iadd hx hb dX2_roundsByTrying_12 ?_
        refine lv_istore_n (lv' := [(3, .int (i + 1)), (2, .int i), (1, .int u), (0, .ref r)]) hx hb dX2_roundsByTrying_13 rfl hl (by decide) rfl (fun ls hl => ?_)
        have loop_14 : ∀ (n_14 k_14 : Nat) (j : Int32) (u1 : Int32) (H : Heap) (locs : List Loc) (ls : Array Slot), 10 ≤ k_14 + n_14 → k_14 ≤ 9 → j = nI k_14 → va_P D vwCl (wR Y r q S) H → va_D A (wR Y r q S) → va_S A s.heap H locs → lv_has ls 4 [(3, .int j), (2, .int i), (1, .int u1), (0, .ref r)] → L_X2_roundsByTrying_14 S i u n_14 j u1 = L_X2_roundsByTrying_14 S i u 10 (i + 1) u → W p l e ({ frames := 2, cells := 0, slots := 0, locals := 43 } : Room) s m ([.ref r] : List Value).toArray below meth c H locs 0 0 (MQ below (Qsi D (fun r9 w9 => r9 = D_X2_roundsByTrying S ∧ w9 = wR Y r q S) A) ([.ref r] : List Value).toArray s 0 0 A) (F0 m 14 ls []) := by
          intro n_14
          induction n_14 with
          | zero => intro k_14 j u1 H locs ls hkf hkN_14 ex_14 hP hD hS hl hR_14; exact absurd hkf (by omega)
          | succ n_14 ih_14 =>
            intro k_14 j u1 H locs ls hkf hkN_14 ex_14 hP hD hS hl hR_14
            refine lv_iload_n hx hb dX2_roundsByTrying_14 rfl (lv_at hl 0 rfl) ?_
            refine lv_bipush (v := 9) hx hb dX2_roundsByTrying_15 (by decide) ?_
            refine lv_icmp_ge (tgt := 46) hx hb dX2_roundsByTrying_17 (by decide) (fun c_2 => ?_) (fun c_2 => ?_)
            · have e8 : L_X2_roundsByTrying_14 S i u (n_14 + 1) j u1 = u1 := by rw [L_X2_roundsByTrying_14, if_pos c_2]
              have e8 := hR_14.symm.trans e8
              have eu1 : L_X2_roundsByTrying_14 S i u 10 (i + 1) u = u1 := by rw [e8]
              clear e8 hR_14 ih_14
              refine lv_iinc (v := i + 1) (lv' := [(2, .int (i + 1)), (3, .int j), (1, .int u1), (0, .ref r)]) hx hb dX2_roundsByTrying_46 hl (k := 1) rfl rfl (by decide) rfl (fun ls hl => ?_)
              refine lv_goto (tgt := 4) hx hb dX2_roundsByTrying_49 (by decide) ?_
              subst eu1
              exact ih_4 (k_4 + 1) (i + 1) (L_X2_roundsByTrying_14 S i u 10 (i + 1) u) _ _ _ (by omega) (by omega) (by rw [ex_4]; exact nI_1 k_4)  hP hD hS (lv_sub hl [0, 2, 3] rfl) (by rw [L_X2_roundsByTrying_4, if_neg c_1] at hR_4; exact hR_4)
            · have hk_14 := my_lt ex_14 (show (9 : Int32) = nI 9 from rfl) (by decide) hkN_14 c_2
              refine lv_aload_n hx hb dX2_roundsByTrying_20 rfl (lv_at hl 3 rfl) ?_
              refine lv_iload_n hx hb dX2_roundsByTrying_21 rfl (lv_at hl 1 rfl) ?_
              refine lv_iload_n hx hb dX2_roundsByTrying_22 rfl (lv_at hl 0 rfl) ?_
              refine ck_iD (wr := ([] : va_W)) (ws' := wR Y r q S) (va_runV (As := [.int i, .int j]) (rest := []) ⟨hx, hb, hml, hown, hts⟩ (c_X2_isUnmet l D Y H.size q S r i j (by rw [ex_4]; exact vp_in_nI hk_4 (by decide)) (by rw [ex_14]; exact vp_in_nI hk_14 (by decide))) (cwV 2 hts gX2_roundsByTrying_X2_isUnmet rfl rfl rfl (by decide +kernel) ⟨Nat.le_of_ble_eq_true rfl, Nat.le_of_ble_eq_true rfl⟩) (pst_V hK hP hD [0, 1, 2, 3, 4, 5, 6, 7, 8, 9, 10] rfl (by decide) (q0 := 0) rfl rfl) rfl rfl hl.1 rfl (lv_room (Nat.le_of_ble_eq_true rfl)) dX2_roundsByTrying_23 ⟨Nat.zero_le _, Nat.zero_le _⟩) hP hD hS hA [0, 1, 2, 3, 4, 5, 6, 7, 8, 9, 10] [] [0, 1, 2, 3, 4, 5, 6, 7, 8, 9, 10] rfl rfl (by decide) (by decide) rfl (by decide) (fun H locs hP hD hS => ?_)
              refine lv_if_eq (tgt := 40) hx hb dX2_roundsByTrying_26 (by decide) (fun c_3 => ?_) (fun c_3 => ?_)
              · refine lv_iinc (v := j + 1) (lv' := [(3, .int (j + 1)), (2, .int i), (1, .int u1), (0, .ref r)]) hx hb dX2_roundsByTrying_40 hl (k := 0) rfl rfl (by decide) rfl (fun ls hl => ?_)
                refine lv_goto (tgt := 14) hx hb dX2_roundsByTrying_43 (by decide) ?_
                exact ih_14 (k_14 + 1) (j + 1) u1 _ _ _ (by omega) (by omega) (by rw [ex_14]; exact nI_1 k_14)  hP hD hS (lv_sub hl [0, 1, 2, 3] rfl) (by rw [L_X2_roundsByTrying_14, if_neg c_2, if_pos c_3] at hR_14; exact hR_14)
              · refine lv_iload_n hx hb dX2_roundsByTrying_29 rfl (lv_at hl 2 rfl) ?_
                refine lv_iconst (v := 1) hx hb dX2_roundsByTrying_30 (by decide) ?_
                refine lv_iload_n hx hb dX2_roundsByTrying_31 rfl (lv_at hl 1 rfl) ?_
                refine lv_iload_n hx hb dX2_roundsByTrying_32 rfl (lv_at hl 0 rfl) ?_
                refine lv_iadd hx hb dX2_roundsByTrying_33 ?_
                refine ck_iD (wr := wR Y r q S) (ws' := wR Y r q S) (va_runSN (As := [.int (i + j)]) (rest := [.int 1, .int u1]) ⟨hx, hb, hml, hown, hts⟩ (c_X3_remainderOf l D Y H.size (i + j)) ⟨va_cnB 1 hts gX2_roundsByTrying_X3_remainderOf_n93 rfl rfl rfl hK.2.2.2.2.1 (hts (.initialized RX3) (by decide +kernel)) (by decide +kernel) ⟨Nat.le_of_ble_eq_true rfl, Nat.le_of_ble_eq_true rfl⟩, hts (.static yX3_remainderOf) (by decide +kernel), trivial⟩ (pst_S hK hP hD [] rfl (by decide)) rfl rfl hl.1 rfl (lv_room (Nat.le_of_ble_eq_true rfl)) dX2_roundsByTrying_34 ⟨Nat.zero_le _, Nat.zero_le _⟩) hP hD hS hA [] [0, 1, 2, 3, 4, 5, 6, 7, 8, 9, 10] [0, 1, 2, 3, 4, 5, 6, 7, 8, 9, 10] rfl rfl (by decide) (by decide) rfl (by decide) (fun H locs hP hD hS => ?_)
                refine lv_ishl hx hb dX2_roundsByTrying_37 ?_
                refine lv_ior hx hb dX2_roundsByTrying_38 ?_
                refine lv_istore_n (lv' := [(1, .int (u1 ||| (1 <<< ((D_X3_remainderOf (i + j)) &&& 31)))), (3, .int j), (2, .int i), (0, .ref r)]) hx hb dX2_roundsByTrying_39 rfl hl (by decide) rfl (fun ls hl => ?_)
                refine lv_iinc (v := j + 1) (lv' := [(3, .int (j + 1)), (1, .int (u1 ||| (1 <<< ((D_X3_remainderOf (i + j)) &&& 31)))), (2, .int i), (0, .ref r)]) hx hb dX2_roundsByTrying_40 hl (k := 1) rfl rfl (by decide) rfl (fun ls hl => ?_)
                refine lv_goto (tgt := 14) hx hb dX2_roundsByTrying_43 (by decide) ?_
                exact ih_14 (k_14 + 1) (j + 1) (u1 ||| (1 <<< ((D_X3_remainderOf (i + j)) &&& 31))) _ _ _ (by omega) (by omega) (by rw [ex_14]; exact nI_1 k_14)  hP hD hS (lv_sub hl [0, 2, 1, 3] rfl) (by rw [L_X2_roundsByTrying_14, if_neg c_2, if_neg c_3] at hR_14; exact hR_14)
        exact loop_14 10 (k_4 + 1) (i + 1) u _ _ _ (by omega) (by omega) (by rw [ex_4]; exact nI_1 k_4)  hP hD hS (lv_sub hl [0, 1, 2, 3] rfl) rfl
  exact loop_4 10 0 0 0 _ _ _ (by omega) (Nat.zero_le _) nI_0.symm  hP hD hS (lv_sub hl [0, 1, 2] rfl) rfl
def D_X2_pairWouldBring (S : Nat → Nat → Int32) (a : Int32) (b : Int32) (w : Int32) : (Int32) := if w = 2 then (if (D_X2_wouldDance S a b) = 0 then (D_J6_bitCount_0f7a4 ((S 10 0) &&& ((1 <<< (a &&& 31)) ||| (1 <<< (b &&& 31))))) else 0) else (if (D_X2_wouldDance S a b) = 0 then 0 else (if w = 1 then (2 * (D_X2_joyOfEach S a b)) else (if w = 3 then (if (S 7 (D_X3_pairIndex a b).toNatClampNeg) = 0 then 1 else 0) else 1)))
set_option maxRecDepth 100000 in
theorem in_X2_pairWouldBring_RX2 : ∀ w ∈ u_ws RX2 TX2 13, w ∈ wsX2_pairWouldBring := by decide +kernel
set_option maxHeartbeats 4000000 in
set_option maxRecDepth 100000 in
theorem c_X2_pairWouldBring (l : Launch) (D : va_G) (Y : YY) (sz : Nat) (q : Nat → Nat) (S : Nat → Nat → Int32) (r : Nat) (a : Int32) (b : Int32) (w : Int32) (h_a : vp_in a 9) (h_b : vp_in b 9) : Met l yX2_pairWouldBring wsX2_pairWouldBring ({ frames := 2, cells := 0, slots := 0, locals := 43 } : Room) (va_Pc [.ref r, .int a, .int b, .int w] (Pst D Y sz (wR Y r q S))) ((fun A : Nat → Prop => Qsi D (fun r9 w9 => r9 = D_X2_pairWouldBring S a b w ∧ w9 = wR Y r q S) A) (va_A (wR Y r q S) sz)) 0 0 (va_A (wR Y r q S) sz) := by
  refine ct_in (cc := cX2_pairWouldBring) (maxL := 5) (ret := (some .int)) (Qc := fun A : Nat → Prop => Qsi D (fun r9 w9 => r9 = D_X2_pairWouldBring S a b w ∧ w9 = wR Y r q S) A) (by decide +kernel) rfl (Nat.le_of_ble_eq_true rfl) ?_
  intro p e s m below meth c A ls hx hb hr hts hown hml hlk hin hsz hA hP hD hK hS hl
  have hown : s.vm.findClass RX2 = some m.cls := hown
  have hl : lv_has ls 5 [(0, .ref r), (1, .int a), (2, .int b), (3, .int w)] := hl
  show W p l e ({ frames := 2, cells := 0, slots := 0, locals := 43 } : Room) s m ([.ref r, .int a, .int b, .int w] : List Value).toArray below meth c s.heap [] 0 0 (MQ below (Qsi D (fun r9 w9 => r9 = D_X2_pairWouldBring S a b w ∧ w9 = wR Y r q S) A) ([.ref r, .int a, .int b, .int w] : List Value).toArray s 0 0 A) (F0 m 0 ls [])
  refine lv_aload_n hx hb dX2_pairWouldBring_0 rfl (lv_at hl 0 rfl) ?_
  refine lv_iload_n hx hb dX2_pairWouldBring_1 rfl (lv_at hl 1 rfl) ?_
  refine lv_iload_n hx hb dX2_pairWouldBring_2 rfl (lv_at hl 2 rfl) ?_
  refine ck_iD (wr := ([] : va_W)) (ws' := wR Y r q S) (va_runV (As := [.int a, .int b]) (rest := []) ⟨hx, hb, hml, hown, hts⟩ (c_X2_wouldDance l D Y s.heap.size q S r a b h_a h_b) (cwV 2 hts gX2_pairWouldBring_X2_wouldDance rfl rfl rfl (by decide +kernel) ⟨Nat.le_of_ble_eq_true rfl, Nat.le_of_ble_eq_true rfl⟩) (pst_V hK hP hD [0, 1, 2, 3, 4, 5, 6, 7, 8, 9, 10] rfl (by decide) (q0 := 0) rfl rfl) rfl rfl hl.1 rfl (lv_room (Nat.le_of_ble_eq_true rfl)) dX2_pairWouldBring_3 ⟨Nat.zero_le _, Nat.zero_le _⟩) hP hD hS hA [0, 1, 2, 3, 4, 5, 6, 7, 8, 9, 10] [] [0, 1, 2, 3, 4, 5, 6, 7, 8, 9, 10] rfl rfl (by decide) (by decide) rfl (by decide) (fun H locs hP hD hS => ?_)
  refine lv_istore (lv' := [(4, .int (D_X2_wouldDance S a b)), (0, .ref r), (1, .int a), (2, .int b), (3, .int w)]) hx hb dX2_pairWouldBring_6 hl (by decide) rfl (fun ls hl => ?_)
  refine lv_iload_n hx hb dX2_pairWouldBring_8 rfl (lv_at hl 4 rfl) ?_
  refine lv_iconst (v := 2) hx hb dX2_pairWouldBring_9 (by decide) ?_
  refine lv_icmp_ne (tgt := 38) hx hb dX2_pairWouldBring_10 (by decide) (fun c_1 => ?_) (fun c_1 => ?_)
  · refine lv_iload hx hb dX2_pairWouldBring_38 (lv_at hl 0 rfl) ?_
    refine lv_if_ne (tgt := 45) hx hb dX2_pairWouldBring_40 (by decide) (fun c_2 => ?_) (fun c_2 => ?_)
    · refine lv_iload_n hx hb dX2_pairWouldBring_45 rfl (lv_at hl 4 rfl) ?_
      refine lv_iconst (v := 1) hx hb dX2_pairWouldBring_46 (by decide) ?_
      refine lv_icmp_ne (tgt := 59) hx hb dX2_pairWouldBring_47 (by decide) (fun c_3 => ?_) (fun c_3 => ?_)
      · refine lv_iload_n hx hb dX2_pairWouldBring_59 rfl (lv_at hl 4 rfl) ?_
        refine lv_iconst (v := 3) hx hb dX2_pairWouldBring_60 (by decide) ?_
        refine lv_icmp_ne (tgt := 83) hx hb dX2_pairWouldBring_61 (by decide) (fun c_4 => ?_) (fun c_4 => ?_)
        · refine lv_iconst (v := 1) hx hb dX2_pairWouldBring_83 (by decide) ?_
          have e9 : D_X2_pairWouldBring S a b w = 1 := by rw [D_X2_pairWouldBring, if_neg c_1, if_neg c_2, if_neg c_3, if_neg c_4]
          exact ret_i hx hb hr hlk hP hD hS dX2_pairWouldBring_84 ⟨Nat.zero_le _, Nat.zero_le _⟩ ⟨e9.symm, rfl⟩
        · refine lv_aload_n hx hb dX2_pairWouldBring_64 rfl (lv_at hl 1 rfl) ?_
          refine va_get (D := D) (ci := 2) (v := .ref (q 7)) (C := RX2) (T := TX2) (N := 13) hx hb hts in_X2_pairWouldBring_RX2 hown hK.1 hP 0 rfl rfl 8 (by decide) (hts (.fieldLink RX2 37 "NineDancers$Ring" "dances" "[I") (by decide +kernel)) (fun _ h9 => h9) rfl dX2_pairWouldBring_65 ?_
          refine lv_iload_n hx hb dX2_pairWouldBring_68 rfl (lv_at hl 2 rfl) ?_
          refine lv_iload_n hx hb dX2_pairWouldBring_69 rfl (lv_at hl 3 rfl) ?_
          refine ck_iD (wr := wR Y r q S) (ws' := wR Y r q S) (va_runSN (As := [.int a, .int b]) (rest := [.ref (q 7)]) ⟨hx, hb, hml, hown, hts⟩ (c_X3_pairIndex l D Y H.size a b) ⟨va_cnB 2 hts gX2_pairWouldBring_X3_pairIndex_n107 rfl rfl rfl hK.2.2.2.1 (hts (.initialized RX3) (by decide +kernel)) (by decide +kernel) ⟨Nat.le_of_ble_eq_true rfl, Nat.le_of_ble_eq_true rfl⟩, hts (.static yX3_pairIndex) (by decide +kernel), trivial⟩ (pst_S hK hP hD [] rfl (by decide)) rfl rfl hl.1 rfl (lv_room (Nat.le_of_ble_eq_true rfl)) dX2_pairWouldBring_70 ⟨Nat.zero_le _, Nat.zero_le _⟩) hP hD hS hA [] [0, 1, 2, 3, 4, 5, 6, 7, 8, 9, 10] [0, 1, 2, 3, 4, 5, 6, 7, 8, 9, 10] rfl rfl (by decide) (by decide) rfl (by decide) (fun H locs hP hD hS => ?_)
          refine va_iald (D := D) hx hb hK.1 hP 8 0 rfl rfl (in_pairIndex h_a h_b) dX2_pairWouldBring_73 ?_
          refine lv_if_ne (tgt := 81) hx hb dX2_pairWouldBring_74 (by decide) (fun c_5 => ?_) (fun c_5 => ?_)
          · refine lv_iconst (v := 0) hx hb dX2_pairWouldBring_81 (by decide) ?_
            have e9 : D_X2_pairWouldBring S a b w = 0 := by rw [D_X2_pairWouldBring, if_neg c_1, if_neg c_2, if_neg c_3, if_pos c_4, if_neg c_5]
            exact ret_i hx hb hr hlk hP hD hS dX2_pairWouldBring_82 ⟨Nat.zero_le _, Nat.zero_le _⟩ ⟨e9.symm, rfl⟩
          · refine lv_iconst (v := 1) hx hb dX2_pairWouldBring_77 (by decide) ?_
            refine lv_goto (tgt := 82) hx hb dX2_pairWouldBring_78 (by decide) ?_
            have e9 : D_X2_pairWouldBring S a b w = 1 := by rw [D_X2_pairWouldBring, if_neg c_1, if_neg c_2, if_neg c_3, if_pos c_4, if_pos c_5]
            exact ret_i hx hb hr hlk hP hD hS dX2_pairWouldBring_82 ⟨Nat.zero_le _, Nat.zero_le _⟩ ⟨e9.symm, rfl⟩
      · refine lv_iconst (v := 2) hx hb dX2_pairWouldBring_50 (by decide) ?_
        refine lv_aload_n hx hb dX2_pairWouldBring_51 rfl (lv_at hl 1 rfl) ?_
        refine lv_iload_n hx hb dX2_pairWouldBring_52 rfl (lv_at hl 2 rfl) ?_
        refine lv_iload_n hx hb dX2_pairWouldBring_53 rfl (lv_at hl 3 rfl) ?_
        refine ck_iD (wr := ([] : va_W)) (ws' := wR Y r q S) (va_runV (As := [.int a, .int b]) (rest := [.int 2]) ⟨hx, hb, hml, hown, hts⟩ (c_X2_joyOfEach l D Y H.size q S r a b h_a h_b) (cwV 2 hts gX2_pairWouldBring_X2_joyOfEach rfl rfl rfl (by decide +kernel) ⟨Nat.le_of_ble_eq_true rfl, Nat.le_of_ble_eq_true rfl⟩) (pst_V hK hP hD [0, 1, 2, 3, 4, 5, 6, 7, 8, 9, 10] rfl (by decide) (q0 := 0) rfl rfl) rfl rfl hl.1 rfl (lv_room (Nat.le_of_ble_eq_true rfl)) dX2_pairWouldBring_54 ⟨Nat.zero_le _, Nat.zero_le _⟩) hP hD hS hA [0, 1, 2, 3, 4, 5, 6, 7, 8, 9, 10] [] [0, 1, 2, 3, 4, 5, 6, 7, 8, 9, 10] rfl rfl (by decide) (by decide) rfl (by decide) (fun H locs hP hD hS => ?_)
        refine lv_imul hx hb dX2_pairWouldBring_57 ?_
        have e9 : D_X2_pairWouldBring S a b w = 2 * (D_X2_joyOfEach S a b) := by rw [D_X2_pairWouldBring, if_neg c_1, if_neg c_2, if_pos c_3]
        exact ret_i hx hb hr hlk hP hD hS dX2_pairWouldBring_58 ⟨Nat.zero_le _, Nat.zero_le _⟩ ⟨e9.symm, rfl⟩
    · refine lv_iconst (v := 0) hx hb dX2_pairWouldBring_43 (by decide) ?_
      have e9 : D_X2_pairWouldBring S a b w = 0 := by rw [D_X2_pairWouldBring, if_neg c_1, if_pos c_2]
      exact ret_i hx hb hr hlk hP hD hS dX2_pairWouldBring_44 ⟨Nat.zero_le _, Nat.zero_le _⟩ ⟨e9.symm, rfl⟩
  · refine lv_iload hx hb dX2_pairWouldBring_13 (lv_at hl 0 rfl) ?_
    refine lv_if_eq (tgt := 22) hx hb dX2_pairWouldBring_15 (by decide) (fun c_6 => ?_) (fun c_6 => ?_)
    · refine lv_aload_n hx hb dX2_pairWouldBring_22 rfl (lv_at hl 1 rfl) ?_
      refine va_get (D := D) (ci := 2) (v := .int (S 10 0)) (C := RX2) (T := TX2) (N := 13) hx hb hts in_X2_pairWouldBring_RX2 hown hK.1 hP 0 rfl rfl 1 (by decide) (hts (.fieldLink RX2 15 "NineDancers$Ring" "there" "I") (by decide +kernel)) (fun _ h9 => h9) rfl dX2_pairWouldBring_23 ?_
      refine lv_iconst (v := 1) hx hb dX2_pairWouldBring_26 (by decide) ?_
      refine lv_iload_n hx hb dX2_pairWouldBring_27 rfl (lv_at hl 2 rfl) ?_
      refine lv_ishl hx hb dX2_pairWouldBring_28 ?_
      refine lv_iconst (v := 1) hx hb dX2_pairWouldBring_29 (by decide) ?_
      refine lv_iload_n hx hb dX2_pairWouldBring_30 rfl (lv_at hl 3 rfl) ?_
      refine lv_ishl hx hb dX2_pairWouldBring_31 ?_
      refine lv_ior hx hb dX2_pairWouldBring_32 ?_
      refine lv_iand hx hb dX2_pairWouldBring_33 ?_
      refine ck_iD (wr := wR Y r q S) (ws' := wR Y r q S) (va_runS (As := [.int ((S 10 0) &&& ((1 <<< (a &&& 31)) ||| (1 <<< (b &&& 31))))]) (rest := []) ⟨hx, hb, hml, hown, hts⟩ (c_J6_bitCount_0f7a4 l D Y H.size ((S 10 0) &&& ((1 <<< (a &&& 31)) ||| (1 <<< (b &&& 31))))) (va_cwS 1 hts gX2_pairWouldBring_J6_bitCount_0f7a4 rfl rfl rfl (by decide +kernel) ⟨Nat.le_of_ble_eq_true rfl, Nat.le_of_ble_eq_true rfl⟩) (pst_S hK hP hD [] rfl (by decide)) rfl rfl hl.1 rfl (lv_room (Nat.le_of_ble_eq_true rfl)) dX2_pairWouldBring_34 ⟨Nat.zero_le _, Nat.zero_le _⟩) hP hD hS hA [] [0, 1, 2, 3, 4, 5, 6, 7, 8, 9, 10] [0, 1, 2, 3, 4, 5, 6, 7, 8, 9, 10] rfl rfl (by decide) (by decide) rfl (by decide) (fun H locs hP hD hS => ?_)
      have e9 : D_X2_pairWouldBring S a b w = D_J6_bitCount_0f7a4 ((S 10 0) &&& ((1 <<< (a &&& 31)) ||| (1 <<< (b &&& 31)))) := by rw [D_X2_pairWouldBring, if_pos c_1, if_pos c_6]
      exact ret_i hx hb hr hlk hP hD hS dX2_pairWouldBring_37 ⟨Nat.zero_le _, Nat.zero_le _⟩ ⟨e9.symm, rfl⟩
    · refine lv_iconst (v := 0) hx hb dX2_pairWouldBring_18 (by decide) ?_
      refine lv_goto (tgt := 37) hx hb dX2_pairWouldBring_19 (by decide) ?_
      have e9 : D_X2_pairWouldBring S a b w = 0 := by rw [D_X2_pairWouldBring, if_pos c_1, if_neg c_6]
      exact ret_i hx hb hr hlk hP hD hS dX2_pairWouldBring_37 ⟨Nat.zero_le _, Nat.zero_le _⟩ ⟨e9.symm, rfl⟩
def V_X2_wouldBring_1 (S : Nat → Nat → Int32) (n : Int32) (w : Int32) (i : Int32) (u : Int32) : Int32 := u + (D_X2_pairWouldBring S i (D_X3_counterpart i n) w)
def L_X2_wouldBring_5 (S : Nat → Nat → Int32) (n : Int32) (w : Int32) : Nat → (Int32) → (Int32) → (Int32)
  | 0, i, u => u
  | n_5 + 1, i, u => if 9 ≤ i then u else (if (D_X3_counterpart i n) ≤ i then (L_X2_wouldBring_5 S n w n_5 (i + 1) u) else (L_X2_wouldBring_5 S n w n_5 (i + 1) (V_X2_wouldBring_1 S n w i u)))
def D_X2_wouldBring (S : Nat → Nat → Int32) (n : Int32) (w : Int32) : (Int32) := (L_X2_wouldBring_5 S n w 10 0 0)
set_option maxHeartbeats 4000000 in
set_option maxRecDepth 100000 in
theorem c_X2_wouldBring (l : Launch) (D : va_G) (Y : YY) (sz : Nat) (q : Nat → Nat) (S : Nat → Nat → Int32) (r : Nat) (n : Int32) (w : Int32) : Met l yX2_wouldBring wsX2_wouldBring ({ frames := 3, cells := 0, slots := 0, locals := 67 } : Room) (va_Pc [.ref r, .int n, .int w] (Pst D Y sz (wR Y r q S))) ((fun A : Nat → Prop => Qsi D (fun r9 w9 => r9 = D_X2_wouldBring S n w ∧ w9 = wR Y r q S) A) (va_A (wR Y r q S) sz)) 0 0 (va_A (wR Y r q S) sz) := by
  refine ct_in (cc := cX2_wouldBring) (maxL := 6) (ret := (some .int)) (Qc := fun A : Nat → Prop => Qsi D (fun r9 w9 => r9 = D_X2_wouldBring S n w ∧ w9 = wR Y r q S) A) (by decide +kernel) rfl (Nat.le_of_ble_eq_true rfl) ?_
  intro p e s m below meth c A ls hx hb hr hts hown hml hlk hin hsz hA hP hD hK hS hl
  have hown : s.vm.findClass RX2 = some m.cls := hown
  have hl : lv_has ls 6 [(0, .ref r), (1, .int n), (2, .int w)] := hl
  show W p l e ({ frames := 3, cells := 0, slots := 0, locals := 67 } : Room) s m ([.ref r, .int n, .int w] : List Value).toArray below meth c s.heap [] 0 0 (MQ below (Qsi D (fun r9 w9 => r9 = D_X2_wouldBring S n w ∧ w9 = wR Y r q S) A) ([.ref r, .int n, .int w] : List Value).toArray s 0 0 A) (F0 m 0 ls [])
  refine lv_iconst (v := 0) hx hb dX2_wouldBring_0 (by decide) ?_
  refine lv_istore_n (lv' := [(3, .int 0), (0, .ref r), (1, .int n), (2, .int w)]) hx hb dX2_wouldBring_1 rfl hl (by decide) rfl (fun ls hl => ?_)
  refine lv_iconst (v := 0) hx hb dX2_wouldBring_2 (by decide) ?_
  refine lv_istore (lv' := [(4, .int 0), (3, .int 0), (0, .ref r), (1, .int n), (2, .int w)]) hx hb dX2_wouldBring_3 hl (by decide) rfl (fun ls hl => ?_)
  have loop_5 : ∀ (n_5 k_5 : Nat) (i : Int32) (u : Int32) (H : Heap) (locs : List Loc) (ls : Array Slot), 10 ≤ k_5 + n_5 → k_5 ≤ 9 → i = nI k_5 → va_P D vwCl (wR Y r q S) H → va_D A (wR Y r q S) → va_S A s.heap H locs → lv_has ls 6 [(4, .int i), (3, .int u), (0, .ref r), (1, .int n), (2, .int w)] → L_X2_wouldBring_5 S n w n_5 i u = L_X2_wouldBring_5 S n w 10 0 0 → W p l e ({ frames := 3, cells := 0, slots := 0, locals := 67 } : Room) s m ([.ref r, .int n, .int w] : List Value).toArray below meth c H locs 0 0 (MQ below (Qsi D (fun r9 w9 => r9 = D_X2_wouldBring S n w ∧ w9 = wR Y r q S) A) ([.ref r, .int n, .int w] : List Value).toArray s 0 0 A) (F0 m 5 ls []) := by
    intro n_5
    induction n_5 with
    | zero => intro k_5 i u H locs ls hkf hkN_5 ex_5 hP hD hS hl hR_5; exact absurd hkf (by omega)
    | succ n_5 ih_5 =>
      intro k_5 i u H locs ls hkf hkN_5 ex_5 hP hD hS hl hR_5
      refine lv_iload hx hb dX2_wouldBring_5 (lv_at hl 0 rfl) ?_
      refine lv_bipush (v := 9) hx hb dX2_wouldBring_7 (by decide) ?_
      refine lv_icmp_ge (tgt := 45) hx hb dX2_wouldBring_9 (by decide) (fun c_1 => ?_) (fun c_1 => ?_)
      · have e8 : L_X2_wouldBring_5 S n w (n_5 + 1) i u = u := by rw [L_X2_wouldBring_5, if_pos c_1]
        have e8 := hR_5.symm.trans e8
        have eu : L_X2_wouldBring_5 S n w 10 0 0 = u := by rw [e8]
        clear e8 hR_5 ih_5
        refine lv_iload_n hx hb dX2_wouldBring_45 rfl (lv_at hl 1 rfl) ?_
        subst eu
        have e9 : D_X2_wouldBring S n w = (L_X2_wouldBring_5 S n w 10 0 0) := by rw [D_X2_wouldBring]
        exact ret_i hx hb hr hlk hP hD hS dX2_wouldBring_46 ⟨Nat.zero_le _, Nat.zero_le _⟩ ⟨e9.symm, rfl⟩
      · have hk_5 := my_lt ex_5 (show (9 : Int32) = nI 9 from rfl) (by decide) hkN_5 c_1
        refine lv_iload hx hb dX2_wouldBring_12 (lv_at hl 0 rfl) ?_
        refine lv_iload_n hx hb dX2_wouldBring_14 rfl (lv_at hl 3 rfl) ?_
        refine ck_iD (wr := wR Y r q S) (ws' := wR Y r q S) (va_runSN (As := [.int i, .int n]) (rest := []) ⟨hx, hb, hml, hown, hts⟩ (c_X3_counterpart l D Y H.size i n) ⟨va_cnB 2 hts gX2_wouldBring_X3_counterpart_n75 rfl rfl rfl hK.2.2.1 (hts (.initialized RX3) (by decide +kernel)) (by decide +kernel) ⟨Nat.le_of_ble_eq_true rfl, Nat.le_of_ble_eq_true rfl⟩, hts (.static yX3_counterpart) (by decide +kernel), trivial⟩ (pst_S hK hP hD [] rfl (by decide)) rfl rfl hl.1 rfl (lv_room (Nat.le_of_ble_eq_true rfl)) dX2_wouldBring_15 ⟨Nat.zero_le _, Nat.zero_le _⟩) hP hD hS hA [] [0, 1, 2, 3, 4, 5, 6, 7, 8, 9, 10] [0, 1, 2, 3, 4, 5, 6, 7, 8, 9, 10] rfl rfl (by decide) (by decide) rfl (by decide) (fun H locs hP hD hS => ?_)
        refine lv_istore (lv' := [(5, .int (D_X3_counterpart i n)), (4, .int i), (3, .int u), (0, .ref r), (1, .int n), (2, .int w)]) hx hb dX2_wouldBring_18 hl (by decide) rfl (fun ls hl => ?_)
        refine lv_iload hx hb dX2_wouldBring_20 (lv_at hl 1 rfl) ?_
        refine lv_iload hx hb dX2_wouldBring_22 (lv_at hl 0 rfl) ?_
        refine lv_icmp_ge (tgt := 39) hx hb dX2_wouldBring_24 (by decide) (fun c_2 => ?_) (fun c_2 => ?_)
        · refine lv_iinc (v := i + 1) (lv' := [(4, .int (i + 1)), (5, .int (D_X3_counterpart i n)), (3, .int u), (0, .ref r), (1, .int n), (2, .int w)]) hx hb dX2_wouldBring_39 hl (k := 1) rfl rfl (by decide) rfl (fun ls hl => ?_)
          refine lv_goto (tgt := 5) hx hb dX2_wouldBring_42 (by decide) ?_
          exact ih_5 (k_5 + 1) (i + 1) u _ _ _ (by omega) (by omega) (by rw [ex_5]; exact nI_1 k_5)  hP hD hS (lv_sub hl [0, 2, 3, 4, 5] rfl) (by rw [L_X2_wouldBring_5, if_neg c_1, if_pos c_2] at hR_5; exact hR_5)
        · refine lv_iload_n hx hb dX2_wouldBring_27 rfl (lv_at hl 2 rfl) ?_
          refine lv_aload_n hx hb dX2_wouldBring_28 rfl (lv_at hl 3 rfl) ?_
          refine lv_iload hx hb dX2_wouldBring_29 (lv_at hl 1 rfl) ?_
          refine lv_iload hx hb dX2_wouldBring_31 (lv_at hl 0 rfl) ?_
          refine lv_iload_n hx hb dX2_wouldBring_33 rfl (lv_at hl 5 rfl) ?_
          refine ck_iD (wr := ([] : va_W)) (ws' := wR Y r q S) (va_runV (As := [.int i, .int (D_X3_counterpart i n), .int w]) (rest := [.int u]) ⟨hx, hb, hml, hown, hts⟩ (c_X2_pairWouldBring l D Y H.size q S r i (D_X3_counterpart i n) w (by rw [ex_5]; exact vp_in_nI hk_5 (by decide)) (in_counterpart _ _)) (cwV 3 hts gX2_wouldBring_X2_pairWouldBring rfl rfl rfl (by decide +kernel) ⟨Nat.le_of_ble_eq_true rfl, Nat.le_of_ble_eq_true rfl⟩) (pst_V hK hP hD [0, 1, 2, 3, 4, 5, 6, 7, 8, 9, 10] rfl (by decide) (q0 := 0) rfl rfl) rfl rfl hl.1 rfl (lv_room (Nat.le_of_ble_eq_true rfl)) dX2_wouldBring_34 ⟨Nat.zero_le _, Nat.zero_le _⟩) hP hD hS hA [0, 1, 2, 3, 4, 5, 6, 7, 8, 9, 10] [] [0, 1, 2, 3, 4, 5, 6, 7, 8, 9, 10] rfl rfl (by decide) (by decide) rfl (by decide) (fun H locs hP hD hS => ?_)
          refine lv_iadd hx hb dX2_wouldBring_37 ?_
          refine lv_istore_n (lv' := [(3, .int (V_X2_wouldBring_1 S n w i u)), (5, .int (D_X3_counterpart i n)), (4, .int i), (0, .ref r), (1, .int n), (2, .int w)]) hx hb dX2_wouldBring_38 rfl hl (by decide) rfl (fun ls hl => ?_)
          refine lv_iinc (v := i + 1) (lv' := [(4, .int (i + 1)), (3, .int (V_X2_wouldBring_1 S n w i u)), (5, .int (D_X3_counterpart i n)), (0, .ref r), (1, .int n), (2, .int w)]) hx hb dX2_wouldBring_39 hl (k := 2) rfl rfl (by decide) rfl (fun ls hl => ?_)
          refine lv_goto (tgt := 5) hx hb dX2_wouldBring_42 (by decide) ?_
          exact ih_5 (k_5 + 1) (i + 1) (V_X2_wouldBring_1 S n w i u) _ _ _ (by omega) (by omega) (by rw [ex_5]; exact nI_1 k_5)  hP hD hS (lv_sub hl [0, 1, 3, 4, 5] rfl) (by rw [L_X2_wouldBring_5, if_neg c_1, if_neg c_2] at hR_5; exact hR_5)
  exact loop_5 10 0 0 0 _ _ _ (by omega) (Nat.zero_le _) nI_0.symm  hP hD hS (lv_sub hl [0, 1, 2, 3, 4] rfl) rfl

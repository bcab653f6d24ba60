def D_X2_isThere (S : Nat → Nat → Int32) (v : Int32) : (Int32) := if ((S 10 0) &&& (1 <<< (v &&& 31))) = 0 then 0 else 1
set_option maxRecDepth 100000 in
theorem in_X2_isThere_RX2 : ∀ w ∈ u_ws RX2 TX2 13, w ∈ wsX2_isThere := by decide +kernel
set_option maxHeartbeats 4000000 in
set_option maxRecDepth 100000 in
theorem c_X2_isThere (l : Launch) (D : va_G) (Y : YY) (sz : Nat) (q : Nat → Nat) (S : Nat → Nat → Int32) (r : Nat) (v : Int32) : Met l yX2_isThere wsX2_isThere ({ frames := 0, cells := 0, slots := 0, locals := 0 } : Room) (va_Pc [.ref r, .int v] (Pst D Y sz (wR Y r q S))) ((fun A : Nat → Prop => Qsi D (fun r9 w9 => r9 = D_X2_isThere S v ∧ w9 = wR Y r q S) A) (va_A (wR Y r q S) sz)) 0 0 (va_A (wR Y r q S) sz) := by
  refine ct_in (cc := cX2_isThere) (maxL := 2) (ret := (some .boolean)) (Qc := fun A : Nat → Prop => Qsi D (fun r9 w9 => r9 = D_X2_isThere S v ∧ w9 = wR Y r q S) A) (by decide +kernel) rfl (Nat.le_of_ble_eq_true rfl) ?_
  intro p e s m below meth c A ls hx hb hr hts hown hml hlk hin hsz hA hP hD hK hS hl
  have hown : s.vm.findClass RX2 = some m.cls := hown
  have hl : lv_has ls 2 [(0, .ref r), (1, .int v)] := hl
  show W p l e ({ frames := 0, cells := 0, slots := 0, locals := 0 } : Room) s m ([.ref r, .int v] : List Value).toArray below meth c s.heap [] 0 0 (MQ below (Qsi D (fun r9 w9 => r9 = D_X2_isThere S v ∧ w9 = wR Y r q S) A) ([.ref r, .int v] : List Value).toArray s 0 0 A) (F0 m 0 ls [])
  refine lv_aload_n hx hb dX2_isThere_0 rfl (lv_at hl 0 rfl) ?_
  refine va_get (D := D) (ci := 2) (v := .int (S 10 0)) (C := RX2) (T := TX2) (N := 13) hx hb hts in_X2_isThere_RX2 hown hK.1 hP 0 rfl rfl 1 (by decide) (hts (.fieldLink RX2 15 "NineDancers$Ring" "there" "I") (by decide +kernel)) (fun _ h9 => h9) rfl dX2_isThere_1 ?_
  refine lv_iconst (v := 1) hx hb dX2_isThere_4 (by decide) ?_
  refine lv_iload_n hx hb dX2_isThere_5 rfl (lv_at hl 1 rfl) ?_
  refine lv_ishl hx hb dX2_isThere_6 ?_
  refine lv_iand hx hb dX2_isThere_7 ?_
  refine lv_if_eq (tgt := 15) hx hb dX2_isThere_8 (by decide) (fun c_1 => ?_) (fun c_1 => ?_)
  · refine lv_iconst (v := 0) hx hb dX2_isThere_15 (by decide) ?_
    have e9 : D_X2_isThere S v = 0 := by rw [D_X2_isThere, if_pos c_1]
    exact ret_z hx hb hr rfl hlk hP hD hS dX2_isThere_16 ⟨Nat.zero_le _, Nat.zero_le _⟩ ⟨e9.symm, rfl⟩
  · refine lv_iconst (v := 1) hx hb dX2_isThere_11 (by decide) ?_
    refine lv_goto (tgt := 16) hx hb dX2_isThere_12 (by decide) ?_
    have e9 : D_X2_isThere S v = 1 := by rw [D_X2_isThere, if_neg c_1]
    exact ret_z hx hb hr rfl hlk hP hD hS dX2_isThere_16 ⟨Nat.zero_le _, Nat.zero_le _⟩ ⟨e9.symm, rfl⟩
theorem z_X2_isThere (S : Nat → Nat → Int32) (v : Int32) : D_X2_isThere S v = 0 ∨ D_X2_isThere S v = 1 := by unfold D_X2_isThere; (repeat' split) <;> simp
def D_X2_wouldDance (S : Nat → Nat → Int32) (a : Int32) (b : Int32) : (Int32) := if (D_X2_isThere S a) = 0 then 0 else (if (D_X2_isThere S b) = 0 then 0 else (if (S 1 a.toNatClampNeg) < (S 0 (0 : Int32).toNatClampNeg) then 0 else (if (S 1 b.toNatClampNeg) < (S 0 (0 : Int32).toNatClampNeg) then 0 else 1)))
set_option maxRecDepth 100000 in
theorem in_X2_wouldDance_RX2 : ∀ w ∈ u_ws RX2 TX2 13, w ∈ wsX2_wouldDance := by decide +kernel
set_option maxHeartbeats 4000000 in
set_option maxRecDepth 100000 in
theorem c_X2_wouldDance (l : Launch) (D : va_G) (Y : YY) (sz : Nat) (q : Nat → Nat) (S : Nat → Nat → Int32) (r : Nat) (a : Int32) (b : Int32) (h_a : vp_in a 9) (h_b : vp_in b 9) : Met l yX2_wouldDance wsX2_wouldDance ({ frames := 1, cells := 0, slots := 0, locals := 21 } : Room) (va_Pc [.ref r, .int a, .int b] (Pst D Y sz (wR Y r q S))) ((fun A : Nat → Prop => Qsi D (fun r9 w9 => r9 = D_X2_wouldDance S a b ∧ w9 = wR Y r q S) A) (va_A (wR Y r q S) sz)) 0 0 (va_A (wR Y r q S) sz) := by
  refine ct_in (cc := cX2_wouldDance) (maxL := 3) (ret := (some .boolean)) (Qc := fun A : Nat → Prop => Qsi D (fun r9 w9 => r9 = D_X2_wouldDance S a b ∧ w9 = wR Y r q S) A) (by decide +kernel) rfl (Nat.le_of_ble_eq_true rfl) ?_
  intro p e s m below meth c A ls hx hb hr hts hown hml hlk hin hsz hA hP hD hK hS hl
  have hown : s.vm.findClass RX2 = some m.cls := hown
  have hl : lv_has ls 3 [(0, .ref r), (1, .int a), (2, .int b)] := hl
  show W p l e ({ frames := 1, cells := 0, slots := 0, locals := 21 } : Room) s m ([.ref r, .int a, .int b] : List Value).toArray below meth c s.heap [] 0 0 (MQ below (Qsi D (fun r9 w9 => r9 = D_X2_wouldDance S a b ∧ w9 = wR Y r q S) A) ([.ref r, .int a, .int b] : List Value).toArray s 0 0 A) (F0 m 0 ls [])
  refine lv_aload_n hx hb dX2_wouldDance_0 rfl (lv_at hl 0 rfl) ?_
  refine lv_iload_n hx hb dX2_wouldDance_1 rfl (lv_at hl 1 rfl) ?_
  refine ck_iD (wr := ([] : va_W)) (ws' := wR Y r q S) (va_runV (As := [.int a]) (rest := []) ⟨hx, hb, hml, hown, hts⟩ (c_X2_isThere l D Y s.heap.size q S r a) (cwV 1 hts gX2_wouldDance_X2_isThere rfl rfl rfl (by decide +kernel) ⟨Nat.le_of_ble_eq_true rfl, Nat.le_of_ble_eq_true rfl⟩) (pst_V hK hP hD [0, 1, 2, 3, 4, 5, 6, 7, 8, 9, 10] rfl (by decide) (q0 := 0) rfl rfl) rfl rfl hl.1 rfl (lv_room (Nat.le_of_ble_eq_true rfl)) dX2_wouldDance_2 ⟨Nat.zero_le _, Nat.zero_le _⟩) hP hD hS hA [0, 1, 2, 3, 4, 5, 6, 7, 8, 9, 10] [] [0, 1, 2, 3, 4, 5, 6, 7, 8, 9, 10] rfl rfl (by decide) (by decide) rfl (by decide) (fun H locs hP hD hS => ?_)
  refine lv_if_eq (tgt := 50) hx hb dX2_wouldDance_5 (by decide) (fun c_1 => ?_) (fun c_1 => ?_)
  · refine lv_iconst (v := 0) hx hb dX2_wouldDance_50 (by decide) ?_
    have e9 : D_X2_wouldDance S a b = 0 := by rw [D_X2_wouldDance, if_pos c_1]
    exact ret_z hx hb hr rfl hlk hP hD hS dX2_wouldDance_51 ⟨Nat.zero_le _, Nat.zero_le _⟩ ⟨e9.symm, rfl⟩
  · refine lv_aload_n hx hb dX2_wouldDance_8 rfl (lv_at hl 0 rfl) ?_
    refine lv_iload_n hx hb dX2_wouldDance_9 rfl (lv_at hl 2 rfl) ?_
    refine ck_iD (wr := ([] : va_W)) (ws' := wR Y r q S) (va_runV (As := [.int b]) (rest := []) ⟨hx, hb, hml, hown, hts⟩ (c_X2_isThere l D Y H.size q S r b) (cwV 1 hts gX2_wouldDance_X2_isThere rfl rfl rfl (by decide +kernel) ⟨Nat.le_of_ble_eq_true rfl, Nat.le_of_ble_eq_true rfl⟩) (pst_V hK hP hD [0, 1, 2, 3, 4, 5, 6, 7, 8, 9, 10] rfl (by decide) (q0 := 0) rfl rfl) rfl rfl hl.1 rfl (lv_room (Nat.le_of_ble_eq_true rfl)) dX2_wouldDance_10 ⟨Nat.zero_le _, Nat.zero_le _⟩) hP hD hS hA [0, 1, 2, 3, 4, 5, 6, 7, 8, 9, 10] [] [0, 1, 2, 3, 4, 5, 6, 7, 8, 9, 10] rfl rfl (by decide) (by decide) rfl (by decide) (fun H locs hP hD hS => ?_)
    refine lv_if_eq (tgt := 50) hx hb dX2_wouldDance_13 (by decide) (fun c_2 => ?_) (fun c_2 => ?_)
    · refine lv_iconst (v := 0) hx hb dX2_wouldDance_50 (by decide) ?_
      have e9 : D_X2_wouldDance S a b = 0 := by rw [D_X2_wouldDance, if_neg c_1, if_pos c_2]
      exact ret_z hx hb hr rfl hlk hP hD hS dX2_wouldDance_51 ⟨Nat.zero_le _, Nat.zero_le _⟩ ⟨e9.symm, rfl⟩
    · refine lv_aload_n hx hb dX2_wouldDance_16 rfl (lv_at hl 0 rfl) ?_
      refine va_get (D := D) (ci := 2) (v := .ref (q 1)) (C := RX2) (T := TX2) (N := 13) hx hb hts in_X2_wouldDance_RX2 hown hK.1 hP 0 rfl rfl 2 (by decide) (hts (.fieldLink RX2 19 "NineDancers$Ring" "strengths" "[I") (by decide +kernel)) (fun _ h9 => h9) rfl dX2_wouldDance_17 ?_
      refine lv_iload_n hx hb dX2_wouldDance_20 rfl (lv_at hl 1 rfl) ?_
      refine va_iald (D := D) hx hb hK.1 hP 2 0 rfl rfl h_a dX2_wouldDance_21 ?_
      refine lv_aload_n hx hb dX2_wouldDance_22 rfl (lv_at hl 0 rfl) ?_
      refine va_get (D := D) (ci := 2) (v := .ref (q 0)) (C := RX2) (T := TX2) (N := 13) hx hb hts in_X2_wouldDance_RX2 hown hK.1 hP 0 rfl rfl 0 (by decide) (hts (.fieldLink RX2 9 "NineDancers$Ring" "settings" "[I") (by decide +kernel)) (fun _ h9 => h9) rfl dX2_wouldDance_23 ?_
      refine lv_iconst (v := 0) hx hb dX2_wouldDance_26 (by decide) ?_
      refine va_iald (D := D) hx hb hK.1 hP 1 0 rfl rfl (by unfold vp_in; decide) dX2_wouldDance_27 ?_
      refine lv_icmp_lt (tgt := 50) hx hb dX2_wouldDance_28 (by decide) (fun c_3 => ?_) (fun c_3 => ?_)
      · refine lv_iconst (v := 0) hx hb dX2_wouldDance_50 (by decide) ?_
        have e9 : D_X2_wouldDance S a b = 0 := by rw [D_X2_wouldDance, if_neg c_1, if_neg c_2, if_pos c_3]
        exact ret_z hx hb hr rfl hlk hP hD hS dX2_wouldDance_51 ⟨Nat.zero_le _, Nat.zero_le _⟩ ⟨e9.symm, rfl⟩
      · refine lv_aload_n hx hb dX2_wouldDance_31 rfl (lv_at hl 0 rfl) ?_
        refine va_get (D := D) (ci := 2) (v := .ref (q 1)) (C := RX2) (T := TX2) (N := 13) hx hb hts in_X2_wouldDance_RX2 hown hK.1 hP 0 rfl rfl 2 (by decide) (hts (.fieldLink RX2 19 "NineDancers$Ring" "strengths" "[I") (by decide +kernel)) (fun _ h9 => h9) rfl dX2_wouldDance_32 ?_
        refine lv_iload_n hx hb dX2_wouldDance_35 rfl (lv_at hl 2 rfl) ?_
        refine va_iald (D := D) hx hb hK.1 hP 2 0 rfl rfl h_b dX2_wouldDance_36 ?_
        refine lv_aload_n hx hb dX2_wouldDance_37 rfl (lv_at hl 0 rfl) ?_
        refine va_get (D := D) (ci := 2) (v := .ref (q 0)) (C := RX2) (T := TX2) (N := 13) hx hb hts in_X2_wouldDance_RX2 hown hK.1 hP 0 rfl rfl 0 (by decide) (hts (.fieldLink RX2 9 "NineDancers$Ring" "settings" "[I") (by decide +kernel)) (fun _ h9 => h9) rfl dX2_wouldDance_38 ?_
        refine lv_iconst (v := 0) hx hb dX2_wouldDance_41 (by decide) ?_
        refine va_iald (D := D) hx hb hK.1 hP 1 0 rfl rfl (by unfold vp_in; decide) dX2_wouldDance_42 ?_
        refine lv_icmp_lt (tgt := 50) hx hb dX2_wouldDance_43 (by decide) (fun c_4 => ?_) (fun c_4 => ?_)
        · refine lv_iconst (v := 0) hx hb dX2_wouldDance_50 (by decide) ?_
          have e9 : D_X2_wouldDance S a b = 0 := by rw [D_X2_wouldDance, if_neg c_1, if_neg c_2, if_neg c_3, if_pos c_4]
          exact ret_z hx hb hr rfl hlk hP hD hS dX2_wouldDance_51 ⟨Nat.zero_le _, Nat.zero_le _⟩ ⟨e9.symm, rfl⟩
        · refine lv_iconst (v := 1) hx hb dX2_wouldDance_46 (by decide) ?_
          refine lv_goto (tgt := 51) hx hb dX2_wouldDance_47 (by decide) ?_
          have e9 : D_X2_wouldDance S a b = 1 := by rw [D_X2_wouldDance, if_neg c_1, if_neg c_2, if_neg c_3, if_neg c_4]
          exact ret_z hx hb hr rfl hlk hP hD hS dX2_wouldDance_51 ⟨Nat.zero_le _, Nat.zero_le _⟩ ⟨e9.symm, rfl⟩
theorem z_X2_wouldDance (S : Nat → Nat → Int32) (a : Int32) (b : Int32) : D_X2_wouldDance S a b = 0 ∨ D_X2_wouldDance S a b = 1 := by unfold D_X2_wouldDance; (repeat' split) <;> simp
def D_X2_joyOfEach (S : Nat → Nat → Int32) (a : Int32) (b : Int32) : (Int32) := (S 0 (2 : Int32).toNatClampNeg) + (S 6 (D_X3_pairIndex a b).toNatClampNeg)
set_option maxRecDepth 100000 in
theorem in_X2_joyOfEach_RX2 : ∀ w ∈ u_ws RX2 TX2 13, w ∈ wsX2_joyOfEach := by decide +kernel
set_option maxHeartbeats 4000000 in
set_option maxRecDepth 100000 in
theorem c_X2_joyOfEach (l : Launch) (D : va_G) (Y : YY) (sz : Nat) (q : Nat → Nat) (S : Nat → Nat → Int32) (r : Nat) (a : Int32) (b : Int32) (h_a : vp_in a 9) (h_b : vp_in b 9) : Met l yX2_joyOfEach wsX2_joyOfEach ({ frames := 1, cells := 0, slots := 0, locals := 21 } : Room) (va_Pc [.ref r, .int a, .int b] (Pst D Y sz (wR Y r q S))) ((fun A : Nat → Prop => Qsi D (fun r9 w9 => r9 = D_X2_joyOfEach S a b ∧ w9 = wR Y r q S) A) (va_A (wR Y r q S) sz)) 0 0 (va_A (wR Y r q S) sz) := by
  refine ct_in (cc := cX2_joyOfEach) (maxL := 3) (ret := (some .int)) (Qc := fun A : Nat → Prop => Qsi D (fun r9 w9 => r9 = D_X2_joyOfEach S a b ∧ w9 = wR Y r q S) A) (by decide +kernel) rfl (Nat.le_of_ble_eq_true rfl) ?_
  intro p e s m below meth c A ls hx hb hr hts hown hml hlk hin hsz hA hP hD hK hS hl
  have hown : s.vm.findClass RX2 = some m.cls := hown
  have hl : lv_has ls 3 [(0, .ref r), (1, .int a), (2, .int b)] := hl
  show W p l e ({ frames := 1, cells := 0, slots := 0, locals := 21 } : Room) s m ([.ref r, .int a, .int b] : List Value).toArray below meth c s.heap [] 0 0 (MQ below (Qsi D (fun r9 w9 => r9 = D_X2_joyOfEach S a b ∧ w9 = wR Y r q S) A) ([.ref r, .int a, .int b] : List Value).toArray s 0 0 A) (F0 m 0 ls [])
  refine lv_aload_n hx hb dX2_joyOfEach_0 rfl (lv_at hl 0 rfl) ?_
  refine va_get (D := D) (ci := 2) (v := .ref (q 0)) (C := RX2) (T := TX2) (N := 13) hx hb hts in_X2_joyOfEach_RX2 hown hK.1 hP 0 rfl rfl 0 (by decide) (hts (.fieldLink RX2 9 "NineDancers$Ring" "settings" "[I") (by decide +kernel)) (fun _ h9 => h9) rfl dX2_joyOfEach_1 ?_
  refine lv_iconst (v := 2) hx hb dX2_joyOfEach_4 (by decide) ?_
  refine va_iald (D := D) hx hb hK.1 hP 1 0 rfl rfl (by unfold vp_in; decide) dX2_joyOfEach_5 ?_
  refine lv_aload_n hx hb dX2_joyOfEach_6 rfl (lv_at hl 0 rfl) ?_
  refine va_get (D := D) (ci := 2) (v := .ref (q 6)) (C := RX2) (T := TX2) (N := 13) hx hb hts in_X2_joyOfEach_RX2 hown hK.1 hP 0 rfl rfl 7 (by decide) (hts (.fieldLink RX2 34 "NineDancers$Ring" "likings" "[I") (by decide +kernel)) (fun _ h9 => h9) rfl dX2_joyOfEach_7 ?_
  refine lv_iload_n hx hb dX2_joyOfEach_10 rfl (lv_at hl 1 rfl) ?_
  refine lv_iload_n hx hb dX2_joyOfEach_11 rfl (lv_at hl 2 rfl) ?_
  refine ck_iD (wr := wR Y r q S) (ws' := wR Y r q S) (va_runSN (As := [.int a, .int b]) (rest := [.ref (q 6), .int (S 0 (2 : Int32).toNatClampNeg)]) ⟨hx, hb, hml, hown, hts⟩ (c_X3_pairIndex l D Y s.heap.size a b) ⟨va_cnB 2 hts gX2_joyOfEach_X3_pairIndex_n107 rfl rfl rfl hK.2.2.2.1 (hts (.initialized RX3) (by decide +kernel)) (by decide +kernel) ⟨Nat.le_of_ble_eq_true rfl, Nat.le_of_ble_eq_true rfl⟩, hts (.static yX3_pairIndex) (by decide +kernel), trivial⟩ (pst_S hK hP hD [] rfl (by decide)) rfl rfl hl.1 rfl (lv_room (Nat.le_of_ble_eq_true rfl)) dX2_joyOfEach_12 ⟨Nat.zero_le _, Nat.zero_le _⟩) hP hD hS hA [] [0, 1, 2, 3, 4, 5, 6, 7, 8, 9, 10] [0, 1, 2, 3, 4, 5, 6, 7, 8, 9, 10] rfl rfl (by decide) (by decide) rfl (by decide) (fun H locs hP hD hS => ?_)
  refine va_iald (D := D) hx hb hK.1 hP 7 0 rfl rfl (in_pairIndex h_a h_b) dX2_joyOfEach_15 ?_
  refine lv_iadd hx hb dX2_joyOfEach_16 ?_
  have e9 : D_X2_joyOfEach S a b = (S 0 (2 : Int32).toNatClampNeg) + (S 6 (D_X3_pairIndex a b).toNatClampNeg) := by rw [D_X2_joyOfEach]
  exact ret_i hx hb hr hlk hP hD hS dX2_joyOfEach_17 ⟨Nat.zero_le _, Nat.zero_le _⟩ ⟨e9.symm, rfl⟩
def T_X2_takePart_1 (S : Nat → Nat → Int32) (v : Int32) (j : Int32) : Nat → Nat → Int32 := s2 S 2 v.toNatClampNeg ((S 2 v.toNatClampNeg) + j)
def T_X2_takePart_2 (v : Int32) (S_1 : Nat → Nat → Int32) : Nat → Nat → Int32 := s2 S_1 1 v.toNatClampNeg ((S_1 1 v.toNatClampNeg) - (S_1 0 (0 : Int32).toNatClampNeg))
def T_X2_takePart_3 (v : Int32) (S_2 : Nat → Nat → Int32) : Nat → Nat → Int32 := s2 S_2 3 v.toNatClampNeg ((S_2 3 v.toNatClampNeg) + 1)
def D_X2_takePart (S : Nat → Nat → Int32) (v : Int32) (j : Int32) : (Nat → Nat → Int32) := (T_X2_takePart_3 v (T_X2_takePart_2 v (T_X2_takePart_1 S v j)))
set_option maxRecDepth 100000 in
theorem in_X2_takePart_RX2 : ∀ w ∈ u_ws RX2 TX2 13, w ∈ wsX2_takePart := by decide +kernel
set_option maxHeartbeats 4000000 in
set_option maxRecDepth 100000 in
theorem c_X2_takePart (l : Launch) (D : va_G) (Y : YY) (sz : Nat) (q : Nat → Nat) (S : Nat → Nat → Int32) (r : Nat) (v : Int32) (j : Int32) (h_v : vp_in v 9) : Met l yX2_takePart wsX2_takePart ({ frames := 0, cells := 0, slots := 0, locals := 0 } : Room) (va_Pc [.ref r, .int v, .int j] (Pst D Y sz (wR Y r q S))) ((fun A : Nat → Prop => Qsv D (fun w9 => w9 = wR Y r q (D_X2_takePart S v j)) A) (va_A (wR Y r q S) sz)) 0 0 (va_A (wR Y r q S) sz) := by
  refine ct_in (cc := cX2_takePart) (maxL := 3) (ret := none) (Qc := fun A : Nat → Prop => Qsv D (fun w9 => w9 = wR Y r q (D_X2_takePart S v j)) A) (by decide +kernel) rfl (Nat.le_of_ble_eq_true rfl) ?_
  intro p e s m below meth c A ls hx hb hr hts hown hml hlk hin hsz hA hP hD hK hS hl
  have hown : s.vm.findClass RX2 = some m.cls := hown
  have hl : lv_has ls 3 [(0, .ref r), (1, .int v), (2, .int j)] := hl
  show W p l e ({ frames := 0, cells := 0, slots := 0, locals := 0 } : Room) s m ([.ref r, .int v, .int j] : List Value).toArray below meth c s.heap [] 0 0 (MQ below (Qsv D (fun w9 => w9 = wR Y r q (D_X2_takePart S v j)) A) ([.ref r, .int v, .int j] : List Value).toArray s 0 0 A) (F0 m 0 ls [])
  refine lv_aload_n hx hb dX2_takePart_0 rfl (lv_at hl 0 rfl) ?_
  refine va_get (D := D) (ci := 2) (v := .ref (q 2)) (C := RX2) (T := TX2) (N := 13) hx hb hts in_X2_takePart_RX2 hown hK.1 hP 0 rfl rfl 3 (by decide) (hts (.fieldLink RX2 22 "NineDancers$Ring" "joys" "[I") (by decide +kernel)) (fun _ h9 => h9) rfl dX2_takePart_1 ?_
  refine lv_iload_n hx hb dX2_takePart_4 rfl (lv_at hl 1 rfl) ?_
  refine lv_dup2_11 hx hb dX2_takePart_5 rfl rfl ?_
  refine va_iald (D := D) hx hb hK.1 hP 3 0 rfl rfl h_v dX2_takePart_6 ?_
  refine lv_iload_n hx hb dX2_takePart_7 rfl (lv_at hl 2 rfl) ?_
  refine lv_iadd hx hb dX2_takePart_8 ?_
  refine va_iast (D := D) hx hb hK.1 hP hD hS 3 0 rfl rfl h_v dX2_takePart_9 (fun H locs hP hD hS => ?_)
  have hP : va_P D vwCl (wR Y r q (T_X2_takePart_1 S v j)) H := hP
  have hD : va_D A (wR Y r q (T_X2_takePart_1 S v j)) := hD
  obtain ⟨S_1, eS_1⟩ : ∃ z9, T_X2_takePart_1 S v j = z9 := ⟨_, rfl⟩
  rw [eS_1] at hP hD
  refine lv_aload_n hx hb dX2_takePart_10 rfl (lv_at hl 0 rfl) ?_
  refine va_get (D := D) (ci := 2) (v := .ref (q 1)) (C := RX2) (T := TX2) (N := 13) hx hb hts in_X2_takePart_RX2 hown hK.1 hP 0 rfl rfl 2 (by decide) (hts (.fieldLink RX2 19 "NineDancers$Ring" "strengths" "[I") (by decide +kernel)) (fun _ h9 => h9) rfl dX2_takePart_11 ?_
  refine lv_iload_n hx hb dX2_takePart_14 rfl (lv_at hl 1 rfl) ?_
  refine lv_dup2_11 hx hb dX2_takePart_15 rfl rfl ?_
  refine va_iald (D := D) hx hb hK.1 hP 2 0 rfl rfl h_v dX2_takePart_16 ?_
  refine lv_aload_n hx hb dX2_takePart_17 rfl (lv_at hl 0 rfl) ?_
  refine va_get (D := D) (ci := 2) (v := .ref (q 0)) (C := RX2) (T := TX2) (N := 13) hx hb hts in_X2_takePart_RX2 hown hK.1 hP 0 rfl rfl 0 (by decide) (hts (.fieldLink RX2 9 "NineDancers$Ring" "settings" "[I") (by decide +kernel)) (fun _ h9 => h9) rfl dX2_takePart_18 ?_
  refine lv_iconst (v := 0) hx hb dX2_takePart_21 (by decide) ?_
  refine va_iald (D := D) hx hb hK.1 hP 1 0 rfl rfl (by unfold vp_in; decide) dX2_takePart_22 ?_
  refine lv_isub hx hb dX2_takePart_23 ?_
  refine va_iast (D := D) hx hb hK.1 hP hD hS 2 0 rfl rfl h_v dX2_takePart_24 (fun H locs hP hD hS => ?_)
  have hP : va_P D vwCl (wR Y r q (T_X2_takePart_2 v S_1)) H := hP
  have hD : va_D A (wR Y r q (T_X2_takePart_2 v S_1)) := hD
  obtain ⟨S_2, eS_2⟩ : ∃ z9, T_X2_takePart_2 v S_1 = z9 := ⟨_, rfl⟩
  rw [eS_2] at hP hD
  refine lv_aload_n hx hb dX2_takePart_25 rfl (lv_at hl 0 rfl) ?_
  refine va_get (D := D) (ci := 2) (v := .ref (q 3)) (C := RX2) (T := TX2) (N := 13) hx hb hts in_X2_takePart_RX2 hown hK.1 hP 0 rfl rfl 4 (by decide) (hts (.fieldLink RX2 25 "NineDancers$Ring" "roundsDanced" "[I") (by decide +kernel)) (fun _ h9 => h9) rfl dX2_takePart_26 ?_
  refine lv_iload_n hx hb dX2_takePart_29 rfl (lv_at hl 1 rfl) ?_
  refine lv_dup2_11 hx hb dX2_takePart_30 rfl rfl ?_
  refine va_iald (D := D) hx hb hK.1 hP 4 0 rfl rfl h_v dX2_takePart_31 ?_
  refine lv_iconst (v := 1) hx hb dX2_takePart_32 (by decide) ?_
  refine lv_iadd hx hb dX2_takePart_33 ?_
  refine va_iast (D := D) hx hb hK.1 hP hD hS 4 0 rfl rfl h_v dX2_takePart_34 (fun H locs hP hD hS => ?_)
  have hP : va_P D vwCl (wR Y r q (T_X2_takePart_3 v S_2)) H := hP
  have hD : va_D A (wR Y r q (T_X2_takePart_3 v S_2)) := hD
  obtain ⟨S_3, eS_3⟩ : ∃ z9, T_X2_takePart_3 v S_2 = z9 := ⟨_, rfl⟩
  rw [eS_3] at hP hD
  subst eS_3
  subst eS_2
  subst eS_1
  have e9 : D_X2_takePart S v j = (T_X2_takePart_3 v (T_X2_takePart_2 v (T_X2_takePart_1 S v j))) := by rw [D_X2_takePart]
  exact ret_v hx hb hr hlk hP hD hS dX2_takePart_35 ⟨Nat.zero_le _, Nat.zero_le _⟩ (by rw [e9])
def T_X2_rest_1 (S : Nat → Nat → Int32) (v : Int32) : Nat → Nat → Int32 := s2 S 4 v.toNatClampNeg ((S 4 v.toNatClampNeg) + 1)
def T_X2_rest_2 (v : Int32) (S_1 : Nat → Nat → Int32) : Nat → Nat → Int32 := s2 S_1 1 v.toNatClampNeg (if 20 < ((S_1 1 v.toNatClampNeg) + (S_1 0 (1 : Int32).toNatClampNeg)) then 20 else ((S_1 1 v.toNatClampNeg) + (S_1 0 (1 : Int32).toNatClampNeg)))
def D_X2_rest (S : Nat → Nat → Int32) (v : Int32) : (Nat → Nat → Int32) := if (D_X2_isThere S v) = 0 then S else (T_X2_rest_2 v (T_X2_rest_1 S v))
set_option maxRecDepth 100000 in
theorem in_X2_rest_RX2 : ∀ w ∈ u_ws RX2 TX2 13, w ∈ wsX2_rest := by decide +kernel
set_option maxHeartbeats 4000000 in
set_option maxRecDepth 100000 in
theorem c_X2_rest (l : Launch) (D : va_G) (Y : YY) (sz : Nat) (q : Nat → Nat) (S : Nat → Nat → Int32) (r : Nat) (v : Int32) (h_v : vp_in v 9) : Met l yX2_rest wsX2_rest ({ frames := 1, cells := 0, slots := 0, locals := 21 } : Room) (va_Pc [.ref r, .int v] (Pst D Y sz (wR Y r q S))) ((fun A : Nat → Prop => Qsv D (fun w9 => w9 = wR Y r q (D_X2_rest S v)) A) (va_A (wR Y r q S) sz)) 0 0 (va_A (wR Y r q S) sz) := by
  refine ct_in (cc := cX2_rest) (maxL := 2) (ret := none) (Qc := fun A : Nat → Prop => Qsv D (fun w9 => w9 = wR Y r q (D_X2_rest S v)) A) (by decide +kernel) rfl (Nat.le_of_ble_eq_true rfl) ?_
  intro p e s m below meth c A ls hx hb hr hts hown hml hlk hin hsz hA hP hD hK hS hl
  have hown : s.vm.findClass RX2 = some m.cls := hown
  have hl : lv_has ls 2 [(0, .ref r), (1, .int v)] := hl
  show W p l e ({ frames := 1, cells := 0, slots := 0, locals := 21 } : Room) s m ([.ref r, .int v] : List Value).toArray below meth c s.heap [] 0 0 (MQ below (Qsv D (fun w9 => w9 = wR Y r q (D_X2_rest S v)) A) ([.ref r, .int v] : List Value).toArray s 0 0 A) (F0 m 0 ls [])
  refine lv_aload_n hx hb dX2_rest_0 rfl (lv_at hl 0 rfl) ?_
  refine lv_iload_n hx hb dX2_rest_1 rfl (lv_at hl 1 rfl) ?_
  refine ck_iD (wr := ([] : va_W)) (ws' := wR Y r q S) (va_runV (As := [.int v]) (rest := []) ⟨hx, hb, hml, hown, hts⟩ (c_X2_isThere l D Y s.heap.size q S r v) (cwV 1 hts gX2_rest_X2_isThere rfl rfl rfl (by decide +kernel) ⟨Nat.le_of_ble_eq_true rfl, Nat.le_of_ble_eq_true rfl⟩) (pst_V hK hP hD [0, 1, 2, 3, 4, 5, 6, 7, 8, 9, 10] rfl (by decide) (q0 := 0) rfl rfl) rfl rfl hl.1 rfl (lv_room (Nat.le_of_ble_eq_true rfl)) dX2_rest_2 ⟨Nat.zero_le _, Nat.zero_le _⟩) hP hD hS hA [0, 1, 2, 3, 4, 5, 6, 7, 8, 9, 10] [] [0, 1, 2, 3, 4, 5, 6, 7, 8, 9, 10] rfl rfl (by decide) (by decide) rfl (by decide) (fun H locs hP hD hS => ?_)
  refine lv_if_eq (tgt := 42) hx hb dX2_rest_5 (by decide) (fun c_1 => ?_) (fun c_1 => ?_)
  · have e9 : D_X2_rest S v = S := by rw [D_X2_rest, if_pos c_1]
    exact ret_v hx hb hr hlk hP hD hS dX2_rest_42 ⟨Nat.zero_le _, Nat.zero_le _⟩ (by rw [e9])
  · refine lv_aload_n hx hb dX2_rest_8 rfl (lv_at hl 0 rfl) ?_
    refine va_get (D := D) (ci := 2) (v := .ref (q 4)) (C := RX2) (T := TX2) (N := 13) hx hb hts in_X2_rest_RX2 hown hK.1 hP 0 rfl rfl 5 (by decide) (hts (.fieldLink RX2 28 "NineDancers$Ring" "roundsRested" "[I") (by decide +kernel)) (fun _ h9 => h9) rfl dX2_rest_9 ?_
    refine lv_iload_n hx hb dX2_rest_12 rfl (lv_at hl 1 rfl) ?_
    refine lv_dup2_11 hx hb dX2_rest_13 rfl rfl ?_
    refine va_iald (D := D) hx hb hK.1 hP 5 0 rfl rfl h_v dX2_rest_14 ?_
    refine lv_iconst (v := 1) hx hb dX2_rest_15 (by decide) ?_
    refine lv_iadd hx hb dX2_rest_16 ?_
    refine va_iast (D := D) hx hb hK.1 hP hD hS 5 0 rfl rfl h_v dX2_rest_17 (fun H locs hP hD hS => ?_)
    have hP : va_P D vwCl (wR Y r q (T_X2_rest_1 S v)) H := hP
    have hD : va_D A (wR Y r q (T_X2_rest_1 S v)) := hD
    obtain ⟨S_1, eS_1⟩ : ∃ z9, T_X2_rest_1 S v = z9 := ⟨_, rfl⟩
    rw [eS_1] at hP hD
    refine lv_aload_n hx hb dX2_rest_18 rfl (lv_at hl 0 rfl) ?_
    refine va_get (D := D) (ci := 2) (v := .ref (q 1)) (C := RX2) (T := TX2) (N := 13) hx hb hts in_X2_rest_RX2 hown hK.1 hP 0 rfl rfl 2 (by decide) (hts (.fieldLink RX2 19 "NineDancers$Ring" "strengths" "[I") (by decide +kernel)) (fun _ h9 => h9) rfl dX2_rest_19 ?_
    refine lv_iload_n hx hb dX2_rest_22 rfl (lv_at hl 1 rfl) ?_
    refine lv_aload_n hx hb dX2_rest_23 rfl (lv_at hl 0 rfl) ?_
    refine va_get (D := D) (ci := 2) (v := .ref (q 1)) (C := RX2) (T := TX2) (N := 13) hx hb hts in_X2_rest_RX2 hown hK.1 hP 0 rfl rfl 2 (by decide) (hts (.fieldLink RX2 19 "NineDancers$Ring" "strengths" "[I") (by decide +kernel)) (fun _ h9 => h9) rfl dX2_rest_24 ?_
    refine lv_iload_n hx hb dX2_rest_27 rfl (lv_at hl 1 rfl) ?_
    refine va_iald (D := D) hx hb hK.1 hP 2 0 rfl rfl h_v dX2_rest_28 ?_
    refine lv_aload_n hx hb dX2_rest_29 rfl (lv_at hl 0 rfl) ?_
    refine va_get (D := D) (ci := 2) (v := .ref (q 0)) (C := RX2) (T := TX2) (N := 13) hx hb hts in_X2_rest_RX2 hown hK.1 hP 0 rfl rfl 0 (by decide) (hts (.fieldLink RX2 9 "NineDancers$Ring" "settings" "[I") (by decide +kernel)) (fun _ h9 => h9) rfl dX2_rest_30 ?_
    refine lv_iconst (v := 1) hx hb dX2_rest_33 (by decide) ?_
    refine va_iald (D := D) hx hb hK.1 hP 1 0 rfl rfl (by unfold vp_in; decide) dX2_rest_34 ?_
    refine lv_iadd hx hb dX2_rest_35 ?_
    refine lv_bipush (v := 20) hx hb dX2_rest_36 (by decide) ?_
    refine va_mmin hx hb (by rw [hml]; exact hl.1.symm) hown (hts (.methodLink RX2 63 Lib.Math.min.name) (by decide +kernel)) (hts (.static Lib.Math.min.name) (by decide +kernel)) (hts (.initialized "java/lang/Math") (by decide +kernel)) (hts (.code Lib.Math.min.name Lib.Math.min.code 2 (some .int)) (by decide +kernel)) (Nat.le_of_ble_eq_true rfl) (Nat.le_of_ble_eq_true rfl) (Nat.zero_le _) (Nat.zero_le _) dX2_rest_38 ?_
    refine va_iast (D := D) hx hb hK.1 hP hD hS 2 0 rfl rfl h_v dX2_rest_41 (fun H locs hP hD hS => ?_)
    have hP : va_P D vwCl (wR Y r q (T_X2_rest_2 v S_1)) H := hP
    have hD : va_D A (wR Y r q (T_X2_rest_2 v S_1)) := hD
    obtain ⟨S_2, eS_2⟩ : ∃ z9, T_X2_rest_2 v S_1 = z9 := ⟨_, rfl⟩
    rw [eS_2] at hP hD
    subst eS_2
    subst eS_1
    have e9 : D_X2_rest S v = (T_X2_rest_2 v (T_X2_rest_1 S v)) := by rw [D_X2_rest, if_neg c_1]
    exact ret_v hx hb hr hlk hP hD hS dX2_rest_42 ⟨Nat.zero_le _, Nat.zero_le _⟩ (by rw [e9])
def T_X2_leaveAlone_1 (S : Nat → Nat → Int32) (v : Int32) : Nat → Nat → Int32 := s2 S 5 v.toNatClampNeg ((S 5 v.toNatClampNeg) + 1)
def D_X2_leaveAlone (S : Nat → Nat → Int32) (v : Int32) : (Nat → Nat → Int32) := if (D_X2_isThere S v) = 0 then S else (D_X2_rest (T_X2_leaveAlone_1 S v) v)
set_option maxRecDepth 100000 in
theorem in_X2_leaveAlone_RX2 : ∀ w ∈ u_ws RX2 TX2 13, w ∈ wsX2_leaveAlone := by decide +kernel
set_option maxHeartbeats 4000000 in
set_option maxRecDepth 100000 in
theorem c_X2_leaveAlone (l : Launch) (D : va_G) (Y : YY) (sz : Nat) (q : Nat → Nat) (S : Nat → Nat → Int32) (r : Nat) (v : Int32) (h_v : vp_in v 9) : Met l yX2_leaveAlone wsX2_leaveAlone ({ frames := 2, cells := 0, slots := 0, locals := 42 } : Room) (va_Pc [.ref r, .int v] (Pst D Y sz (wR Y r q S))) ((fun A : Nat → Prop => Qsv D (fun w9 => w9 = wR Y r q (D_X2_leaveAlone S v)) A) (va_A (wR Y r q S) sz)) 0 0 (va_A (wR Y r q S) sz) := by
  refine ct_in (cc := cX2_leaveAlone) (maxL := 2) (ret := none) (Qc := fun A : Nat → Prop => Qsv D (fun w9 => w9 = wR Y r q (D_X2_leaveAlone S v)) A) (by decide +kernel) rfl (Nat.le_of_ble_eq_true rfl) ?_
  intro p e s m below meth c A ls hx hb hr hts hown hml hlk hin hsz hA hP hD hK hS hl
  have hown : s.vm.findClass RX2 = some m.cls := hown
  have hl : lv_has ls 2 [(0, .ref r), (1, .int v)] := hl
  show W p l e ({ frames := 2, cells := 0, slots := 0, locals := 42 } : Room) s m ([.ref r, .int v] : List Value).toArray below meth c s.heap [] 0 0 (MQ below (Qsv D (fun w9 => w9 = wR Y r q (D_X2_leaveAlone S v)) A) ([.ref r, .int v] : List Value).toArray s 0 0 A) (F0 m 0 ls [])
  refine lv_aload_n hx hb dX2_leaveAlone_0 rfl (lv_at hl 0 rfl) ?_
  refine lv_iload_n hx hb dX2_leaveAlone_1 rfl (lv_at hl 1 rfl) ?_
  refine ck_iD (wr := ([] : va_W)) (ws' := wR Y r q S) (va_runV (As := [.int v]) (rest := []) ⟨hx, hb, hml, hown, hts⟩ (c_X2_isThere l D Y s.heap.size q S r v) (cwV 1 hts gX2_leaveAlone_X2_isThere rfl rfl rfl (by decide +kernel) ⟨Nat.le_of_ble_eq_true rfl, Nat.le_of_ble_eq_true rfl⟩) (pst_V hK hP hD [0, 1, 2, 3, 4, 5, 6, 7, 8, 9, 10] rfl (by decide) (q0 := 0) rfl rfl) rfl rfl hl.1 rfl (lv_room (Nat.le_of_ble_eq_true rfl)) dX2_leaveAlone_2 ⟨Nat.zero_le _, Nat.zero_le _⟩) hP hD hS hA [0, 1, 2, 3, 4, 5, 6, 7, 8, 9, 10] [] [0, 1, 2, 3, 4, 5, 6, 7, 8, 9, 10] rfl rfl (by decide) (by decide) rfl (by decide) (fun H locs hP hD hS => ?_)
  refine lv_if_eq (tgt := 23) hx hb dX2_leaveAlone_5 (by decide) (fun c_1 => ?_) (fun c_1 => ?_)
  · have e9 : D_X2_leaveAlone S v = S := by rw [D_X2_leaveAlone, if_pos c_1]
    exact ret_v hx hb hr hlk hP hD hS dX2_leaveAlone_23 ⟨Nat.zero_le _, Nat.zero_le _⟩ (by rw [e9])
  · refine lv_aload_n hx hb dX2_leaveAlone_8 rfl (lv_at hl 0 rfl) ?_
    refine va_get (D := D) (ci := 2) (v := .ref (q 5)) (C := RX2) (T := TX2) (N := 13) hx hb hts in_X2_leaveAlone_RX2 hown hK.1 hP 0 rfl rfl 6 (by decide) (hts (.fieldLink RX2 31 "NineDancers$Ring" "roundsAlone" "[I") (by decide +kernel)) (fun _ h9 => h9) rfl dX2_leaveAlone_9 ?_
    refine lv_iload_n hx hb dX2_leaveAlone_12 rfl (lv_at hl 1 rfl) ?_
    refine lv_dup2_11 hx hb dX2_leaveAlone_13 rfl rfl ?_
    refine va_iald (D := D) hx hb hK.1 hP 6 0 rfl rfl h_v dX2_leaveAlone_14 ?_
    refine lv_iconst (v := 1) hx hb dX2_leaveAlone_15 (by decide) ?_
    refine lv_iadd hx hb dX2_leaveAlone_16 ?_
    refine va_iast (D := D) hx hb hK.1 hP hD hS 6 0 rfl rfl h_v dX2_leaveAlone_17 (fun H locs hP hD hS => ?_)
    have hP : va_P D vwCl (wR Y r q (T_X2_leaveAlone_1 S v)) H := hP
    have hD : va_D A (wR Y r q (T_X2_leaveAlone_1 S v)) := hD
    obtain ⟨S_1, eS_1⟩ : ∃ z9, T_X2_leaveAlone_1 S v = z9 := ⟨_, rfl⟩
    rw [eS_1] at hP hD
    refine lv_aload_n hx hb dX2_leaveAlone_18 rfl (lv_at hl 0 rfl) ?_
    refine lv_iload_n hx hb dX2_leaveAlone_19 rfl (lv_at hl 1 rfl) ?_
    refine ck_vD (wr := ([] : va_W)) (ws' := wR Y r q (D_X2_rest S_1 v)) (va_runV (As := [.int v]) (rest := []) ⟨hx, hb, hml, hown, hts⟩ (c_X2_rest l D Y H.size q S_1 r v h_v) (cwV 1 hts gX2_leaveAlone_X2_rest rfl rfl rfl (by decide +kernel) ⟨Nat.le_of_ble_eq_true rfl, Nat.le_of_ble_eq_true rfl⟩) (pst_V hK hP hD [0, 1, 2, 3, 4, 5, 6, 7, 8, 9, 10] rfl (by decide) (q0 := 0) rfl rfl) rfl rfl hl.1 rfl (lv_room (Nat.le_of_ble_eq_true rfl)) dX2_leaveAlone_20 ⟨Nat.zero_le _, Nat.zero_le _⟩) hP hD hS hA [0, 1, 2, 3, 4, 5, 6, 7, 8, 9, 10] [] [0, 1, 2, 3, 4, 5, 6, 7, 8, 9, 10] rfl rfl (by decide) (by decide) rfl (by decide) (fun H locs hP hD hS => ?_)
    obtain ⟨S_2, eS_2⟩ : ∃ z9, (D_X2_rest S_1 v) = z9 := ⟨_, rfl⟩
    rw [eS_2] at hP hD
    subst eS_2
    subst eS_1
    have e9 : D_X2_leaveAlone S v = (D_X2_rest (T_X2_leaveAlone_1 S v) v) := by rw [D_X2_leaveAlone, if_neg c_1]
    exact ret_v hx hb hr hlk hP hD hS dX2_leaveAlone_23 ⟨Nat.zero_le _, Nat.zero_le _⟩ (by rw [e9])
def T_X2_dance_1 (a : Int32) (b : Int32) (S_2 : Nat → Nat → Int32) : Nat → Nat → Int32 := s2 S_2 7 (D_X3_pairIndex a b).toNatClampNeg ((S_2 7 (D_X3_pairIndex a b).toNatClampNeg) + 1)
def T_X2_dance_2 (a : Int32) (b : Int32) (S_3 : Nat → Nat → Int32) : Nat → Nat → Int32 := s2 S_3 8 (D_X3_pairIndex a b).toNatClampNeg (S_3 10 1)
def D_X2_dance (S : Nat → Nat → Int32) (a : Int32) (b : Int32) : (Nat → Nat → Int32) := (T_X2_dance_2 a b (T_X2_dance_1 a b (D_X2_takePart (D_X2_takePart S a (D_X2_joyOfEach S a b)) b (D_X2_joyOfEach S a b))))
set_option maxRecDepth 100000 in
theorem in_X2_dance_RX2 : ∀ w ∈ u_ws RX2 TX2 13, w ∈ wsX2_dance := by decide +kernel
set_option maxHeartbeats 4000000 in
set_option maxRecDepth 100000 in
theorem c_X2_dance (l : Launch) (D : va_G) (Y : YY) (sz : Nat) (q : Nat → Nat) (S : Nat → Nat → Int32) (r : Nat) (a : Int32) (b : Int32) (h_a : vp_in a 9) (h_b : vp_in b 9) : Met l yX2_dance wsX2_dance ({ frames := 2, cells := 0, slots := 0, locals := 43 } : Room) (va_Pc [.ref r, .int a, .int b] (Pst D Y sz (wR Y r q S))) ((fun A : Nat → Prop => Qsv D (fun w9 => w9 = wR Y r q (D_X2_dance S a b)) A) (va_A (wR Y r q S) sz)) 0 0 (va_A (wR Y r q S) sz) := by
  refine ct_in (cc := cX2_dance) (maxL := 5) (ret := none) (Qc := fun A : Nat → Prop => Qsv D (fun w9 => w9 = wR Y r q (D_X2_dance S a b)) A) (by decide +kernel) rfl (Nat.le_of_ble_eq_true rfl) ?_
  intro p e s m below meth c A ls hx hb hr hts hown hml hlk hin hsz hA hP hD hK hS hl
  have hown : s.vm.findClass RX2 = some m.cls := hown
  have hl : lv_has ls 5 [(0, .ref r), (1, .int a), (2, .int b)] := hl
  show W p l e ({ frames := 2, cells := 0, slots := 0, locals := 43 } : Room) s m ([.ref r, .int a, .int b] : List Value).toArray below meth c s.heap [] 0 0 (MQ below (Qsv D (fun w9 => w9 = wR Y r q (D_X2_dance S a b)) A) ([.ref r, .int a, .int b] : List Value).toArray s 0 0 A) (F0 m 0 ls [])
  refine lv_aload_n hx hb dX2_dance_0 rfl (lv_at hl 0 rfl) ?_
  refine lv_iload_n hx hb dX2_dance_1 rfl (lv_at hl 1 rfl) ?_
  refine lv_iload_n hx hb dX2_dance_2 rfl (lv_at hl 2 rfl) ?_
  refine ck_iD (wr := ([] : va_W)) (ws' := wR Y r q S) (va_runV (As := [.int a, .int b]) (rest := []) ⟨hx, hb, hml, hown, hts⟩ (c_X2_joyOfEach l D Y s.heap.size q S r a b h_a h_b) (cwV 2 hts gX2_dance_X2_joyOfEach rfl rfl rfl (by decide +kernel) ⟨Nat.le_of_ble_eq_true rfl, Nat.le_of_ble_eq_true rfl⟩) (pst_V hK hP hD [0, 1, 2, 3, 4, 5, 6, 7, 8, 9, 10] rfl (by decide) (q0 := 0) rfl rfl) rfl rfl hl.1 rfl (lv_room (Nat.le_of_ble_eq_true rfl)) dX2_dance_3 ⟨Nat.zero_le _, Nat.zero_le _⟩) hP hD hS hA [0, 1, 2, 3, 4, 5, 6, 7, 8, 9, 10] [] [0, 1, 2, 3, 4, 5, 6, 7, 8, 9, 10] rfl rfl (by decide) (by decide) rfl (by decide) (fun H locs hP hD hS => ?_)
  refine lv_istore_n (lv' := [(3, .int (D_X2_joyOfEach S a b)), (0, .ref r), (1, .int a), (2, .int b)]) hx hb dX2_dance_6 rfl hl (by decide) rfl (fun ls hl => ?_)
  refine lv_aload_n hx hb dX2_dance_7 rfl (lv_at hl 1 rfl) ?_
  refine lv_iload_n hx hb dX2_dance_8 rfl (lv_at hl 2 rfl) ?_
  refine lv_iload_n hx hb dX2_dance_9 rfl (lv_at hl 0 rfl) ?_
  refine ck_vD (wr := ([] : va_W)) (ws' := wR Y r q (D_X2_takePart S a (D_X2_joyOfEach S a b))) (va_runV (As := [.int a, .int (D_X2_joyOfEach S a b)]) (rest := []) ⟨hx, hb, hml, hown, hts⟩ (c_X2_takePart l D Y H.size q S r a (D_X2_joyOfEach S a b) h_a) (cwV 2 hts gX2_dance_X2_takePart rfl rfl rfl (by decide +kernel) ⟨Nat.le_of_ble_eq_true rfl, Nat.le_of_ble_eq_true rfl⟩) (pst_V hK hP hD [0, 1, 2, 3, 4, 5, 6, 7, 8, 9, 10] rfl (by decide) (q0 := 0) rfl rfl) rfl rfl hl.1 rfl (lv_room (Nat.le_of_ble_eq_true rfl)) dX2_dance_10 ⟨Nat.zero_le _, Nat.zero_le _⟩) hP hD hS hA [0, 1, 2, 3, 4, 5, 6, 7, 8, 9, 10] [] [0, 1, 2, 3, 4, 5, 6, 7, 8, 9, 10] rfl rfl (by decide) (by decide) rfl (by decide) (fun H locs hP hD hS => ?_)
  obtain ⟨S_1, eS_1⟩ : ∃ z9, (D_X2_takePart S a (D_X2_joyOfEach S a b)) = z9 := ⟨_, rfl⟩
  rw [eS_1] at hP hD
  refine lv_aload_n hx hb dX2_dance_13 rfl (lv_at hl 1 rfl) ?_
  refine lv_iload_n hx hb dX2_dance_14 rfl (lv_at hl 3 rfl) ?_
  refine lv_iload_n hx hb dX2_dance_15 rfl (lv_at hl 0 rfl) ?_
  refine ck_vD (wr := ([] : va_W)) (ws' := wR Y r q (D_X2_takePart S_1 b (D_X2_joyOfEach S a b))) (va_runV (As := [.int b, .int (D_X2_joyOfEach S a b)]) (rest := []) ⟨hx, hb, hml, hown, hts⟩ (c_X2_takePart l D Y H.size q S_1 r b (D_X2_joyOfEach S a b) h_b) (cwV 2 hts gX2_dance_X2_takePart rfl rfl rfl (by decide +kernel) ⟨Nat.le_of_ble_eq_true rfl, Nat.le_of_ble_eq_true rfl⟩) (pst_V hK hP hD [0, 1, 2, 3, 4, 5, 6, 7, 8, 9, 10] rfl (by decide) (q0 := 0) rfl rfl) rfl rfl hl.1 rfl (lv_room (Nat.le_of_ble_eq_true rfl)) dX2_dance_16 ⟨Nat.zero_le _, Nat.zero_le _⟩) hP hD hS hA [0, 1, 2, 3, 4, 5, 6, 7, 8, 9, 10] [] [0, 1, 2, 3, 4, 5, 6, 7, 8, 9, 10] rfl rfl (by decide) (by decide) rfl (by decide) (fun H locs hP hD hS => ?_)
  obtain ⟨S_2, eS_2⟩ : ∃ z9, (D_X2_takePart S_1 b (D_X2_joyOfEach S a b)) = z9 := ⟨_, rfl⟩
  rw [eS_2] at hP hD
  refine lv_iload_n hx hb dX2_dance_19 rfl (lv_at hl 2 rfl) ?_
  refine lv_iload_n hx hb dX2_dance_20 rfl (lv_at hl 3 rfl) ?_
  refine ck_iD (wr := wR Y r q S_2) (ws' := wR Y r q S_2) (va_runSN (As := [.int a, .int b]) (rest := []) ⟨hx, hb, hml, hown, hts⟩ (c_X3_pairIndex l D Y H.size a b) ⟨va_cnB 2 hts gX2_dance_X3_pairIndex_n107 rfl rfl rfl hK.2.2.2.1 (hts (.initialized RX3) (by decide +kernel)) (by decide +kernel) ⟨Nat.le_of_ble_eq_true rfl, Nat.le_of_ble_eq_true rfl⟩, hts (.static yX3_pairIndex) (by decide +kernel), trivial⟩ (pst_S hK hP hD [] rfl (by decide)) rfl rfl hl.1 rfl (lv_room (Nat.le_of_ble_eq_true rfl)) dX2_dance_21 ⟨Nat.zero_le _, Nat.zero_le _⟩) hP hD hS hA [] [0, 1, 2, 3, 4, 5, 6, 7, 8, 9, 10] [0, 1, 2, 3, 4, 5, 6, 7, 8, 9, 10] rfl rfl (by decide) (by decide) rfl (by decide) (fun H locs hP hD hS => ?_)
  refine lv_istore (lv' := [(4, .int (D_X3_pairIndex a b)), (3, .int (D_X2_joyOfEach S a b)), (0, .ref r), (1, .int a), (2, .int b)]) hx hb dX2_dance_24 hl (by decide) rfl (fun ls hl => ?_)
  refine lv_aload_n hx hb dX2_dance_26 rfl (lv_at hl 2 rfl) ?_
  refine va_get (D := D) (ci := 2) (v := .ref (q 7)) (C := RX2) (T := TX2) (N := 13) hx hb hts in_X2_dance_RX2 hown hK.1 hP 0 rfl rfl 8 (by decide) (hts (.fieldLink RX2 37 "NineDancers$Ring" "dances" "[I") (by decide +kernel)) (fun _ h9 => h9) rfl dX2_dance_27 ?_
  refine lv_iload hx hb dX2_dance_30 (lv_at hl 0 rfl) ?_
  refine lv_dup2_11 hx hb dX2_dance_32 rfl rfl ?_
  refine va_iald (D := D) hx hb hK.1 hP 8 0 rfl rfl (in_pairIndex h_a h_b) dX2_dance_33 ?_
  refine lv_iconst (v := 1) hx hb dX2_dance_34 (by decide) ?_
  refine lv_iadd hx hb dX2_dance_35 ?_
  refine va_iast (D := D) hx hb hK.1 hP hD hS 8 0 rfl rfl (in_pairIndex h_a h_b) dX2_dance_36 (fun H locs hP hD hS => ?_)
  have hP : va_P D vwCl (wR Y r q (T_X2_dance_1 a b S_2)) H := hP
  have hD : va_D A (wR Y r q (T_X2_dance_1 a b S_2)) := hD
  obtain ⟨S_3, eS_3⟩ : ∃ z9, T_X2_dance_1 a b S_2 = z9 := ⟨_, rfl⟩
  rw [eS_3] at hP hD
  refine lv_aload_n hx hb dX2_dance_37 rfl (lv_at hl 2 rfl) ?_
  refine va_get (D := D) (ci := 2) (v := .ref (q 8)) (C := RX2) (T := TX2) (N := 13) hx hb hts in_X2_dance_RX2 hown hK.1 hP 0 rfl rfl 9 (by decide) (hts (.fieldLink RX2 40 "NineDancers$Ring" "lastDances" "[I") (by decide +kernel)) (fun _ h9 => h9) rfl dX2_dance_38 ?_
  refine lv_iload hx hb dX2_dance_41 (lv_at hl 0 rfl) ?_
  refine lv_aload_n hx hb dX2_dance_43 rfl (lv_at hl 2 rfl) ?_
  refine va_get (D := D) (ci := 2) (v := .int (S_3 10 1)) (C := RX2) (T := TX2) (N := 13) hx hb hts in_X2_dance_RX2 hown hK.1 hP 0 rfl rfl 11 (by decide) (hts (.fieldLink RX2 46 "NineDancers$Ring" "rounds" "I") (by decide +kernel)) (fun _ h9 => h9) rfl dX2_dance_44 ?_
  refine va_iast (D := D) hx hb hK.1 hP hD hS 9 0 rfl rfl (in_pairIndex h_a h_b) dX2_dance_47 (fun H locs hP hD hS => ?_)
  have hP : va_P D vwCl (wR Y r q (T_X2_dance_2 a b S_3)) H := hP
  have hD : va_D A (wR Y r q (T_X2_dance_2 a b S_3)) := hD
  obtain ⟨S_4, eS_4⟩ : ∃ z9, T_X2_dance_2 a b S_3 = z9 := ⟨_, rfl⟩
  rw [eS_4] at hP hD
  subst eS_4
  subst eS_3
  subst eS_2
  subst eS_1
  have e9 : D_X2_dance S a b = (T_X2_dance_2 a b (T_X2_dance_1 a b (D_X2_takePart (D_X2_takePart S a (D_X2_joyOfEach S a b)) b (D_X2_joyOfEach S a b)))) := by rw [D_X2_dance]
  exact ret_v hx hb hr hlk hP hD hS dX2_dance_48 ⟨Nat.zero_le _, Nat.zero_le _⟩ (by rw [e9])
def L_X2_danceRound_4 (S : Nat → Nat → Int32) (n : Int32) : Nat → (Int32) → (Int32) → (Nat → Nat → Int32) → (Int32) × (Nat → Nat → Int32)
  | 0, i, pz, S1 => (pz, S1)
  | n_4 + 1, i, pz, S1 => if 9 ≤ i then (pz, S1) else (if i = (D_X3_counterpart i n) then (L_X2_danceRound_4 S n n_4 (i + 1) pz (D_X2_rest S1 i)) else (if (D_X3_counterpart i n) ≤ i then (if (D_X3_counterpart i n) ≤ i then (L_X2_danceRound_4 S n n_4 (i + 1) pz S1) else (L_X2_danceRound_4 S n n_4 (i + 1) pz (D_X2_leaveAlone (D_X2_leaveAlone S1 i) (D_X3_counterpart i n)))) else (if (D_X2_wouldDance S1 i (D_X3_counterpart i n)) = 0 then (if (D_X3_counterpart i n) ≤ i then (L_X2_danceRound_4 S n n_4 (i + 1) pz S1) else (L_X2_danceRound_4 S n n_4 (i + 1) pz (D_X2_leaveAlone (D_X2_leaveAlone S1 i) (D_X3_counterpart i n)))) else (L_X2_danceRound_4 S n n_4 (i + 1) (pz + 1) (D_X2_dance S1 i (D_X3_counterpart i n))))))
def T_X2_danceRound_1 (n : Int32) (S1 : Nat → Nat → Int32) : Nat → Nat → Int32 := s2 S1 9 (D_X3_remainderOf n).toNatClampNeg ((S1 9 (D_X3_remainderOf n).toNatClampNeg) + 1)
def T_X2_danceRound_2 (n : Int32) (S_1 : Nat → Nat → Int32) : Nat → Nat → Int32 := s2 S_1 10 2 n
def T_X2_danceRound_3 (S_2 : Nat → Nat → Int32) : Nat → Nat → Int32 := s2 S_2 10 1 ((S_2 10 1) + 1)
def D_X2_danceRound (S : Nat → Nat → Int32) (n : Int32) : (Int32) × (Nat → Nat → Int32) := (((L_X2_danceRound_4 S n 10 0 0 S).1), (T_X2_danceRound_3 (T_X2_danceRound_2 n (T_X2_danceRound_1 n ((L_X2_danceRound_4 S n 10 0 0 S).2)))))
set_option maxRecDepth 100000 in
theorem in_X2_danceRound_RX2 : ∀ w ∈ u_ws RX2 TX2 13, w ∈ wsX2_danceRound := by decide +kernel
set_option maxHeartbeats 4000000 in
set_option maxRecDepth 100000 in
theorem c_X2_danceRound (l : Launch) (D : va_G) (Y : YY) (sz : Nat) (q : Nat → Nat) (S : Nat → Nat → Int32) (r : Nat) (n : Int32) : Met l yX2_danceRound wsX2_danceRound ({ frames := 3, cells := 0, slots := 0, locals := 67 } : Room) (va_Pc [.ref r, .int n] (Pst D Y sz (wR Y r q S))) ((fun A : Nat → Prop => Qsi D (fun r9 w9 => r9 = (D_X2_danceRound S n).1 ∧ w9 = wR Y r q ((D_X2_danceRound S n).2)) A) (va_A (wR Y r q S) sz)) 0 0 (va_A (wR Y r q S) sz) := by
  refine ct_in (cc := cX2_danceRound) (maxL := 5) (ret := (some .int)) (Qc := fun A : Nat → Prop => Qsi D (fun r9 w9 => r9 = (D_X2_danceRound S n).1 ∧ w9 = wR Y r q ((D_X2_danceRound S n).2)) A) (by decide +kernel) rfl (Nat.le_of_ble_eq_true rfl) ?_
  intro p e s m below meth c A ls hx hb hr hts hown hml hlk hin hsz hA hP hD hK hS hl
  have hown : s.vm.findClass RX2 = some m.cls := hown
  have hl : lv_has ls 5 [(0, .ref r), (1, .int n)] := hl
  show W p l e ({ frames := 3, cells := 0, slots := 0, locals := 67 } : Room) s m ([.ref r, .int n] : List Value).toArray below meth c s.heap [] 0 0 (MQ below (Qsi D (fun r9 w9 => r9 = (D_X2_danceRound S n).1 ∧ w9 = wR Y r q ((D_X2_danceRound S n).2)) A) ([.ref r, .int n] : List Value).toArray s 0 0 A) (F0 m 0 ls [])
  refine lv_iconst (v := 0) hx hb dX2_danceRound_0 (by decide) ?_
  refine lv_istore_n (lv' := [(2, .int 0), (0, .ref r), (1, .int n)]) hx hb dX2_danceRound_1 rfl hl (by decide) rfl (fun ls hl => ?_)
  refine lv_iconst (v := 0) hx hb dX2_danceRound_2 (by decide) ?_
  refine lv_istore_n (lv' := [(3, .int 0), (2, .int 0), (0, .ref r), (1, .int n)]) hx hb dX2_danceRound_3 rfl hl (by decide) rfl (fun ls hl => ?_)
  have loop_4 : ∀ (n_4 k_4 : Nat) (i : Int32) (pz : Int32) (S1 : Nat → Nat → Int32) (H : Heap) (locs : List Loc) (ls : Array Slot), 10 ≤ k_4 + n_4 → k_4 ≤ 9 → i = nI k_4 → va_P D vwCl (wR Y r q S1) H → va_D A (wR Y r q S1) → va_S A s.heap H locs → lv_has ls 5 [(3, .int i), (2, .int pz), (0, .ref r), (1, .int n)] → L_X2_danceRound_4 S n n_4 i pz S1 = L_X2_danceRound_4 S n 10 0 0 S → W p l e ({ frames := 3, cells := 0, slots := 0, locals := 67 } : Room) s m ([.ref r, .int n] : List Value).toArray below meth c H locs 0 0 (MQ below (Qsi D (fun r9 w9 => r9 = (D_X2_danceRound S n).1 ∧ w9 = wR Y r q ((D_X2_danceRound S n).2)) A) ([.ref r, .int n] : List Value).toArray s 0 0 A) (F0 m 4 ls []) := by
    intro n_4
    induction n_4 with
    | zero => intro k_4 i pz S1 H locs ls hkf hkN_4 ex_4 hP hD hS hl hR_4; exact absurd hkf (by omega)
    | succ n_4 ih_4 =>
      intro k_4 i pz S1 H locs ls hkf hkN_4 ex_4 hP hD hS hl hR_4
      refine lv_iload_n hx hb dX2_danceRound_4 rfl (lv_at hl 0 rfl) ?_
      refine lv_bipush (v := 9) hx hb dX2_danceRound_5 (by decide) ?_
      refine lv_icmp_ge (tgt := 83) hx hb dX2_danceRound_7 (by decide) (fun c_1 => ?_) (fun c_1 => ?_)
      · have e8 : L_X2_danceRound_4 S n (n_4 + 1) i pz S1 = (pz, S1) := by rw [L_X2_danceRound_4, if_pos c_1]
        have e8 := hR_4.symm.trans e8
        have epz : (L_X2_danceRound_4 S n 10 0 0 S).1 = pz := by rw [e8]
        have eS1 : (L_X2_danceRound_4 S n 10 0 0 S).2 = S1 := by rw [e8]
        clear e8 hR_4 ih_4
        refine lv_aload_n hx hb dX2_danceRound_83 rfl (lv_at hl 2 rfl) ?_
        refine va_get (D := D) (ci := 2) (v := .ref (q 9)) (C := RX2) (T := TX2) (N := 13) hx hb hts in_X2_danceRound_RX2 hown hK.1 hP 0 rfl rfl 10 (by decide) (hts (.fieldLink RX2 43 "NineDancers$Ring" "timesTold" "[I") (by decide +kernel)) (fun _ h9 => h9) rfl dX2_danceRound_84 ?_
        refine lv_iload_n hx hb dX2_danceRound_87 rfl (lv_at hl 3 rfl) ?_
        refine ck_iD (wr := wR Y r q S1) (ws' := wR Y r q S1) (va_runSN (As := [.int n]) (rest := [.ref (q 9)]) ⟨hx, hb, hml, hown, hts⟩ (c_X3_remainderOf l D Y H.size n) ⟨va_cnB 1 hts gX2_danceRound_X3_remainderOf_n93 rfl rfl rfl hK.2.2.2.2.1 (hts (.initialized RX3) (by decide +kernel)) (by decide +kernel) ⟨Nat.le_of_ble_eq_true rfl, Nat.le_of_ble_eq_true rfl⟩, hts (.static yX3_remainderOf) (by decide +kernel), trivial⟩ (pst_S hK hP hD [] rfl (by decide)) rfl rfl hl.1 rfl (lv_room (Nat.le_of_ble_eq_true rfl)) dX2_danceRound_88 ⟨Nat.zero_le _, Nat.zero_le _⟩) hP hD hS hA [] [0, 1, 2, 3, 4, 5, 6, 7, 8, 9, 10] [0, 1, 2, 3, 4, 5, 6, 7, 8, 9, 10] rfl rfl (by decide) (by decide) rfl (by decide) (fun H locs hP hD hS => ?_)
        refine lv_dup2_11 hx hb dX2_danceRound_91 rfl rfl ?_
        refine va_iald (D := D) hx hb hK.1 hP 10 0 rfl rfl (in_remainderOf _) dX2_danceRound_92 ?_
        refine lv_iconst (v := 1) hx hb dX2_danceRound_93 (by decide) ?_
        refine lv_iadd hx hb dX2_danceRound_94 ?_
        refine va_iast (D := D) hx hb hK.1 hP hD hS 10 0 rfl rfl (in_remainderOf _) dX2_danceRound_95 (fun H locs hP hD hS => ?_)
        have hP : va_P D vwCl (wR Y r q (T_X2_danceRound_1 n S1)) H := hP
        have hD : va_D A (wR Y r q (T_X2_danceRound_1 n S1)) := hD
        obtain ⟨S_1, eS_1⟩ : ∃ z9, T_X2_danceRound_1 n S1 = z9 := ⟨_, rfl⟩
        rw [eS_1] at hP hD
        refine lv_aload_n hx hb dX2_danceRound_96 rfl (lv_at hl 2 rfl) ?_
        refine lv_iload_n hx hb dX2_danceRound_97 rfl (lv_at hl 3 rfl) ?_
        refine va_put (D := D) (ci := 2) (v := .int n) (ty := .int) (C := RX2) (T := TX2) (N := 13) hx hb hts in_X2_danceRound_RX2 tyX2 tyX2_ok nmX2 hown hK.1 hP hD hS 0 rfl rfl 12 (by decide) (hts (.fieldLink RX2 50 "NineDancers$Ring" "lastNumber" "I") (by decide +kernel)) (fun _ h9 => h9) rfl (by decide +kernel) rfl rfl (Nat.le_of_ble_eq_true rfl) dX2_danceRound_98 (fun H locs hP hD hS => ?_)
        have hP : va_P D vwCl (wR Y r q (T_X2_danceRound_2 n S_1)) H := hP
        have hD : va_D A (wR Y r q (T_X2_danceRound_2 n S_1)) := hD
        obtain ⟨S_2, eS_2⟩ : ∃ z9, T_X2_danceRound_2 n S_1 = z9 := ⟨_, rfl⟩
        rw [eS_2] at hP hD
        refine lv_aload_n hx hb dX2_danceRound_101 rfl (lv_at hl 2 rfl) ?_
        refine lv_dup hx hb dX2_danceRound_102 rfl ?_
        refine va_get (D := D) (ci := 2) (v := .int (S_2 10 1)) (C := RX2) (T := TX2) (N := 13) hx hb hts in_X2_danceRound_RX2 hown hK.1 hP 0 rfl rfl 11 (by decide) (hts (.fieldLink RX2 46 "NineDancers$Ring" "rounds" "I") (by decide +kernel)) (fun _ h9 => h9) rfl dX2_danceRound_103 ?_
        refine lv_iconst (v := 1) hx hb dX2_danceRound_106 (by decide) ?_
        refine lv_iadd hx hb dX2_danceRound_107 ?_
        refine va_put (D := D) (ci := 2) (v := .int ((S_2 10 1) + 1)) (ty := .int) (C := RX2) (T := TX2) (N := 13) hx hb hts in_X2_danceRound_RX2 tyX2 tyX2_ok nmX2 hown hK.1 hP hD hS 0 rfl rfl 11 (by decide) (hts (.fieldLink RX2 46 "NineDancers$Ring" "rounds" "I") (by decide +kernel)) (fun _ h9 => h9) rfl (by decide +kernel) rfl rfl (Nat.le_of_ble_eq_true rfl) dX2_danceRound_108 (fun H locs hP hD hS => ?_)
        have hP : va_P D vwCl (wR Y r q (T_X2_danceRound_3 S_2)) H := hP
        have hD : va_D A (wR Y r q (T_X2_danceRound_3 S_2)) := hD
        obtain ⟨S_3, eS_3⟩ : ∃ z9, T_X2_danceRound_3 S_2 = z9 := ⟨_, rfl⟩
        rw [eS_3] at hP hD
        refine lv_iload_n hx hb dX2_danceRound_111 rfl (lv_at hl 1 rfl) ?_
        subst eS_3
        subst eS_2
        subst eS_1
        subst eS1
        subst epz
        have e9 : D_X2_danceRound S n = (((L_X2_danceRound_4 S n 10 0 0 S).1), (T_X2_danceRound_3 (T_X2_danceRound_2 n (T_X2_danceRound_1 n ((L_X2_danceRound_4 S n 10 0 0 S).2))))) := by rw [D_X2_danceRound]
        exact ret_i hx hb hr hlk hP hD hS dX2_danceRound_112 ⟨Nat.zero_le _, Nat.zero_le _⟩ ⟨by rw [e9], by rw [e9]⟩
      · have hk_4 := my_lt ex_4 (show (9 : Int32) = nI 9 from rfl) (by decide) hkN_4 c_1
        refine lv_iload_n hx hb dX2_danceRound_10 rfl (lv_at hl 0 rfl) ?_
        refine lv_iload_n hx hb dX2_danceRound_11 rfl (lv_at hl 3 rfl) ?_
        refine ck_iD (wr := wR Y r q S1) (ws' := wR Y r q S1) (va_runSN (As := [.int i, .int n]) (rest := []) ⟨hx, hb, hml, hown, hts⟩ (c_X3_counterpart l D Y H.size i n) ⟨va_cnB 2 hts gX2_danceRound_X3_counterpart_n75 rfl rfl rfl hK.2.2.1 (hts (.initialized RX3) (by decide +kernel)) (by decide +kernel) ⟨Nat.le_of_ble_eq_true rfl, Nat.le_of_ble_eq_true rfl⟩, hts (.static yX3_counterpart) (by decide +kernel), trivial⟩ (pst_S hK hP hD [] rfl (by decide)) rfl rfl hl.1 rfl (lv_room (Nat.le_of_ble_eq_true rfl)) dX2_danceRound_12 ⟨Nat.zero_le _, Nat.zero_le _⟩) hP hD hS hA [] [0, 1, 2, 3, 4, 5, 6, 7, 8, 9, 10] [0, 1, 2, 3, 4, 5, 6, 7, 8, 9, 10] rfl rfl (by decide) (by decide) rfl (by decide) (fun H locs hP hD hS => ?_)
        refine lv_istore (lv' := [(4, .int (D_X3_counterpart i n)), (3, .int i), (2, .int pz), (0, .ref r), (1, .int n)]) hx hb dX2_danceRound_15 hl (by decide) rfl (fun ls hl => ?_)
        refine lv_iload_n hx hb dX2_danceRound_17 rfl (lv_at hl 1 rfl) ?_
        refine lv_iload hx hb dX2_danceRound_18 (lv_at hl 0 rfl) ?_
        refine lv_icmp_ne (tgt := 31) hx hb dX2_danceRound_20 (by decide) (fun c_2 => ?_) (fun c_2 => ?_)
        · refine lv_iload_n hx hb dX2_danceRound_31 rfl (lv_at hl 1 rfl) ?_
          refine lv_iload hx hb dX2_danceRound_32 (lv_at hl 0 rfl) ?_
          refine lv_icmp_ge (tgt := 60) hx hb dX2_danceRound_34 (by decide) (fun c_3 => ?_) (fun c_3 => ?_)
          · refine lv_iload_n hx hb dX2_danceRound_60 rfl (lv_at hl 1 rfl) ?_
            refine lv_iload hx hb dX2_danceRound_61 (lv_at hl 0 rfl) ?_
            refine lv_icmp_ge (tgt := 77) hx hb dX2_danceRound_63 (by decide) (fun c_4 => ?_) (fun c_4 => ?_)
            · refine lv_iinc (v := i + 1) (lv' := [(3, .int (i + 1)), (4, .int (D_X3_counterpart i n)), (2, .int pz), (0, .ref r), (1, .int n)]) hx hb dX2_danceRound_77 hl (k := 1) rfl rfl (by decide) rfl (fun ls hl => ?_)
              refine lv_goto (tgt := 4) hx hb dX2_danceRound_80 (by decide) ?_
              exact ih_4 (k_4 + 1) (i + 1) pz S1 _ _ _ (by omega) (by omega) (by rw [ex_4]; exact nI_1 k_4)  hP hD hS (lv_sub hl [0, 2, 3, 4] rfl) (by rw [L_X2_danceRound_4, if_neg c_1, if_neg c_2, if_pos c_3, if_pos c_4] at hR_4; exact hR_4)
            · refine lv_aload_n hx hb dX2_danceRound_66 rfl (lv_at hl 3 rfl) ?_
              refine lv_iload_n hx hb dX2_danceRound_67 rfl (lv_at hl 1 rfl) ?_
              refine ck_vD (wr := ([] : va_W)) (ws' := wR Y r q (D_X2_leaveAlone S1 i)) (va_runV (As := [.int i]) (rest := []) ⟨hx, hb, hml, hown, hts⟩ (c_X2_leaveAlone l D Y H.size q S1 r i (by rw [ex_4]; exact vp_in_nI hk_4 (by decide))) (cwV 1 hts gX2_danceRound_X2_leaveAlone rfl rfl rfl (by decide +kernel) ⟨Nat.le_of_ble_eq_true rfl, Nat.le_of_ble_eq_true rfl⟩) (pst_V hK hP hD [0, 1, 2, 3, 4, 5, 6, 7, 8, 9, 10] rfl (by decide) (q0 := 0) rfl rfl) rfl rfl hl.1 rfl (lv_room (Nat.le_of_ble_eq_true rfl)) dX2_danceRound_68 ⟨Nat.zero_le _, Nat.zero_le _⟩) hP hD hS hA [0, 1, 2, 3, 4, 5, 6, 7, 8, 9, 10] [] [0, 1, 2, 3, 4, 5, 6, 7, 8, 9, 10] rfl rfl (by decide) (by decide) rfl (by decide) (fun H locs hP hD hS => ?_)
              obtain ⟨S_4, eS_4⟩ : ∃ z9, (D_X2_leaveAlone S1 i) = z9 := ⟨_, rfl⟩
              rw [eS_4] at hP hD
              refine lv_aload_n hx hb dX2_danceRound_71 rfl (lv_at hl 3 rfl) ?_
              refine lv_iload hx hb dX2_danceRound_72 (lv_at hl 0 rfl) ?_
              refine ck_vD (wr := ([] : va_W)) (ws' := wR Y r q (D_X2_leaveAlone S_4 (D_X3_counterpart i n))) (va_runV (As := [.int (D_X3_counterpart i n)]) (rest := []) ⟨hx, hb, hml, hown, hts⟩ (c_X2_leaveAlone l D Y H.size q S_4 r (D_X3_counterpart i n) (in_counterpart _ _)) (cwV 1 hts gX2_danceRound_X2_leaveAlone rfl rfl rfl (by decide +kernel) ⟨Nat.le_of_ble_eq_true rfl, Nat.le_of_ble_eq_true rfl⟩) (pst_V hK hP hD [0, 1, 2, 3, 4, 5, 6, 7, 8, 9, 10] rfl (by decide) (q0 := 0) rfl rfl) rfl rfl hl.1 rfl (lv_room (Nat.le_of_ble_eq_true rfl)) dX2_danceRound_74 ⟨Nat.zero_le _, Nat.zero_le _⟩) hP hD hS hA [0, 1, 2, 3, 4, 5, 6, 7, 8, 9, 10] [] [0, 1, 2, 3, 4, 5, 6, 7, 8, 9, 10] rfl rfl (by decide) (by decide) rfl (by decide) (fun H locs hP hD hS => ?_)
              obtain ⟨S_5, eS_5⟩ : ∃ z9, (D_X2_leaveAlone S_4 (D_X3_counterpart i n)) = z9 := ⟨_, rfl⟩
              rw [eS_5] at hP hD
              refine lv_iinc (v := i + 1) (lv' := [(3, .int (i + 1)), (4, .int (D_X3_counterpart i n)), (2, .int pz), (0, .ref r), (1, .int n)]) hx hb dX2_danceRound_77 hl (k := 1) rfl rfl (by decide) rfl (fun ls hl => ?_)
              refine lv_goto (tgt := 4) hx hb dX2_danceRound_80 (by decide) ?_
              subst eS_5
              subst eS_4
              exact ih_4 (k_4 + 1) (i + 1) pz (D_X2_leaveAlone (D_X2_leaveAlone S1 i) (D_X3_counterpart i n)) _ _ _ (by omega) (by omega) (by rw [ex_4]; exact nI_1 k_4)  hP hD hS (lv_sub hl [0, 2, 3, 4] rfl) (by rw [L_X2_danceRound_4, if_neg c_1, if_neg c_2, if_pos c_3, if_neg c_4] at hR_4; exact hR_4)
          · refine lv_aload_n hx hb dX2_danceRound_37 rfl (lv_at hl 3 rfl) ?_
            refine lv_iload_n hx hb dX2_danceRound_38 rfl (lv_at hl 1 rfl) ?_
            refine lv_iload hx hb dX2_danceRound_39 (lv_at hl 0 rfl) ?_
            refine ck_iD (wr := ([] : va_W)) (ws' := wR Y r q S1) (va_runV (As := [.int i, .int (D_X3_counterpart i n)]) (rest := []) ⟨hx, hb, hml, hown, hts⟩ (c_X2_wouldDance l D Y H.size q S1 r i (D_X3_counterpart i n) (by rw [ex_4]; exact vp_in_nI hk_4 (by decide)) (in_counterpart _ _)) (cwV 2 hts gX2_danceRound_X2_wouldDance rfl rfl rfl (by decide +kernel) ⟨Nat.le_of_ble_eq_true rfl, Nat.le_of_ble_eq_true rfl⟩) (pst_V hK hP hD [0, 1, 2, 3, 4, 5, 6, 7, 8, 9, 10] rfl (by decide) (q0 := 0) rfl rfl) rfl rfl hl.1 rfl (lv_room (Nat.le_of_ble_eq_true rfl)) dX2_danceRound_41 ⟨Nat.zero_le _, Nat.zero_le _⟩) hP hD hS hA [0, 1, 2, 3, 4, 5, 6, 7, 8, 9, 10] [] [0, 1, 2, 3, 4, 5, 6, 7, 8, 9, 10] rfl rfl (by decide) (by decide) rfl (by decide) (fun H locs hP hD hS => ?_)
            refine lv_if_eq (tgt := 60) hx hb dX2_danceRound_44 (by decide) (fun c_5 => ?_) (fun c_5 => ?_)
            · refine lv_iload_n hx hb dX2_danceRound_60 rfl (lv_at hl 1 rfl) ?_
              refine lv_iload hx hb dX2_danceRound_61 (lv_at hl 0 rfl) ?_
              refine lv_icmp_ge (tgt := 77) hx hb dX2_danceRound_63 (by decide) (fun c_6 => ?_) (fun c_6 => ?_)
              · refine lv_iinc (v := i + 1) (lv' := [(3, .int (i + 1)), (4, .int (D_X3_counterpart i n)), (2, .int pz), (0, .ref r), (1, .int n)]) hx hb dX2_danceRound_77 hl (k := 1) rfl rfl (by decide) rfl (fun ls hl => ?_)
                refine lv_goto (tgt := 4) hx hb dX2_danceRound_80 (by decide) ?_
                exact ih_4 (k_4 + 1) (i + 1) pz S1 _ _ _ (by omega) (by omega) (by rw [ex_4]; exact nI_1 k_4)  hP hD hS (lv_sub hl [0, 2, 3, 4] rfl) (by rw [L_X2_danceRound_4, if_neg c_1, if_neg c_2, if_neg c_3, if_pos c_5, if_pos c_6] at hR_4; exact hR_4)
              · refine lv_aload_n hx hb dX2_danceRound_66 rfl (lv_at hl 3 rfl) ?_
                refine lv_iload_n hx hb dX2_danceRound_67 rfl (lv_at hl 1 rfl) ?_
                refine ck_vD (wr := ([] : va_W)) (ws' := wR Y r q (D_X2_leaveAlone S1 i)) (va_runV (As := [.int i]) (rest := []) ⟨hx, hb, hml, hown, hts⟩ (c_X2_leaveAlone l D Y H.size q S1 r i (by rw [ex_4]; exact vp_in_nI hk_4 (by decide))) (cwV 1 hts gX2_danceRound_X2_leaveAlone rfl rfl rfl (by decide +kernel) ⟨Nat.le_of_ble_eq_true rfl, Nat.le_of_ble_eq_true rfl⟩) (pst_V hK hP hD [0, 1, 2, 3, 4, 5, 6, 7, 8, 9, 10] rfl (by decide) (q0 := 0) rfl rfl) rfl rfl hl.1 rfl (lv_room (Nat.le_of_ble_eq_true rfl)) dX2_danceRound_68 ⟨Nat.zero_le _, Nat.zero_le _⟩) hP hD hS hA [0, 1, 2, 3, 4, 5, 6, 7, 8, 9, 10] [] [0, 1, 2, 3, 4, 5, 6, 7, 8, 9, 10] rfl rfl (by decide) (by decide) rfl (by decide) (fun H locs hP hD hS => ?_)
                obtain ⟨S_6, eS_6⟩ : ∃ z9, (D_X2_leaveAlone S1 i) = z9 := ⟨_, rfl⟩
                rw [eS_6] at hP hD
                refine lv_aload_n hx hb dX2_danceRound_71 rfl (lv_at hl 3 rfl) ?_
                refine lv_iload hx hb dX2_danceRound_72 (lv_at hl 0 rfl) ?_
                refine ck_vD (wr := ([] : va_W)) (ws' := wR Y r q (D_X2_leaveAlone S_6 (D_X3_counterpart i n))) (va_runV (As := [.int (D_X3_counterpart i n)]) (rest := []) ⟨hx, hb, hml, hown, hts⟩ (c_X2_leaveAlone l D Y H.size q S_6 r (D_X3_counterpart i n) (in_counterpart _ _)) (cwV 1 hts gX2_danceRound_X2_leaveAlone rfl rfl rfl (by decide +kernel) ⟨Nat.le_of_ble_eq_true rfl, Nat.le_of_ble_eq_true rfl⟩) (pst_V hK hP hD [0, 1, 2, 3, 4, 5, 6, 7, 8, 9, 10] rfl (by decide) (q0 := 0) rfl rfl) rfl rfl hl.1 rfl (lv_room (Nat.le_of_ble_eq_true rfl)) dX2_danceRound_74 ⟨Nat.zero_le _, Nat.zero_le _⟩) hP hD hS hA [0, 1, 2, 3, 4, 5, 6, 7, 8, 9, 10] [] [0, 1, 2, 3, 4, 5, 6, 7, 8, 9, 10] rfl rfl (by decide) (by decide) rfl (by decide) (fun H locs hP hD hS => ?_)
                obtain ⟨S_7, eS_7⟩ : ∃ z9, (D_X2_leaveAlone S_6 (D_X3_counterpart i n)) = z9 := ⟨_, rfl⟩
                rw [eS_7] at hP hD
                refine lv_iinc (v := i + 1) (lv' := [(3, .int (i + 1)), (4, .int (D_X3_counterpart i n)), (2, .int pz), (0, .ref r), (1, .int n)]) hx hb dX2_danceRound_77 hl (k := 1) rfl rfl (by decide) rfl (fun ls hl => ?_)
                refine lv_goto (tgt := 4) hx hb dX2_danceRound_80 (by decide) ?_
                subst eS_7
                subst eS_6
                exact ih_4 (k_4 + 1) (i + 1) pz (D_X2_leaveAlone (D_X2_leaveAlone S1 i) (D_X3_counterpart i n)) _ _ _ (by omega) (by omega) (by rw [ex_4]; exact nI_1 k_4)  hP hD hS (lv_sub hl [0, 2, 3, 4] rfl) (by rw [L_X2_danceRound_4, if_neg c_1, if_neg c_2, if_neg c_3, if_pos c_5, if_neg c_6] at hR_4; exact hR_4)
            · refine lv_aload_n hx hb dX2_danceRound_47 rfl (lv_at hl 3 rfl) ?_
              refine lv_iload_n hx hb dX2_danceRound_48 rfl (lv_at hl 1 rfl) ?_
              refine lv_iload hx hb dX2_danceRound_49 (lv_at hl 0 rfl) ?_
              refine ck_vD (wr := ([] : va_W)) (ws' := wR Y r q (D_X2_dance S1 i (D_X3_counterpart i n))) (va_runV (As := [.int i, .int (D_X3_counterpart i n)]) (rest := []) ⟨hx, hb, hml, hown, hts⟩ (c_X2_dance l D Y H.size q S1 r i (D_X3_counterpart i n) (by rw [ex_4]; exact vp_in_nI hk_4 (by decide)) (in_counterpart _ _)) (cwV 2 hts gX2_danceRound_X2_dance rfl rfl rfl (by decide +kernel) ⟨Nat.le_of_ble_eq_true rfl, Nat.le_of_ble_eq_true rfl⟩) (pst_V hK hP hD [0, 1, 2, 3, 4, 5, 6, 7, 8, 9, 10] rfl (by decide) (q0 := 0) rfl rfl) rfl rfl hl.1 rfl (lv_room (Nat.le_of_ble_eq_true rfl)) dX2_danceRound_51 ⟨Nat.zero_le _, Nat.zero_le _⟩) hP hD hS hA [0, 1, 2, 3, 4, 5, 6, 7, 8, 9, 10] [] [0, 1, 2, 3, 4, 5, 6, 7, 8, 9, 10] rfl rfl (by decide) (by decide) rfl (by decide) (fun H locs hP hD hS => ?_)
              obtain ⟨S_8, eS_8⟩ : ∃ z9, (D_X2_dance S1 i (D_X3_counterpart i n)) = z9 := ⟨_, rfl⟩
              rw [eS_8] at hP hD
              refine lv_iinc (v := pz + 1) (lv' := [(2, .int (pz + 1)), (4, .int (D_X3_counterpart i n)), (3, .int i), (0, .ref r), (1, .int n)]) hx hb dX2_danceRound_54 hl (k := 2) rfl rfl (by decide) rfl (fun ls hl => ?_)
              refine lv_goto (tgt := 77) hx hb dX2_danceRound_57 (by decide) ?_
              refine lv_iinc (v := i + 1) (lv' := [(3, .int (i + 1)), (2, .int (pz + 1)), (4, .int (D_X3_counterpart i n)), (0, .ref r), (1, .int n)]) hx hb dX2_danceRound_77 hl (k := 2) rfl rfl (by decide) rfl (fun ls hl => ?_)
              refine lv_goto (tgt := 4) hx hb dX2_danceRound_80 (by decide) ?_
              subst eS_8
              exact ih_4 (k_4 + 1) (i + 1) (pz + 1) (D_X2_dance S1 i (D_X3_counterpart i n)) _ _ _ (by omega) (by omega) (by rw [ex_4]; exact nI_1 k_4)  hP hD hS (lv_sub hl [0, 1, 3, 4] rfl) (by rw [L_X2_danceRound_4, if_neg c_1, if_neg c_2, if_neg c_3, if_neg c_5] at hR_4; exact hR_4)
        · refine lv_aload_n hx hb dX2_danceRound_23 rfl (lv_at hl 3 rfl) ?_
          refine lv_iload_n hx hb dX2_danceRound_24 rfl (lv_at hl 1 rfl) ?_
          refine ck_vD (wr := ([] : va_W)) (ws' := wR Y r q (D_X2_rest S1 i)) (va_runV (As := [.int i]) (rest := []) ⟨hx, hb, hml, hown, hts⟩ (c_X2_rest l D Y H.size q S1 r i (by rw [ex_4]; exact vp_in_nI hk_4 (by decide))) (cwV 1 hts gX2_danceRound_X2_rest rfl rfl rfl (by decide +kernel) ⟨Nat.le_of_ble_eq_true rfl, Nat.le_of_ble_eq_true rfl⟩) (pst_V hK hP hD [0, 1, 2, 3, 4, 5, 6, 7, 8, 9, 10] rfl (by decide) (q0 := 0) rfl rfl) rfl rfl hl.1 rfl (lv_room (Nat.le_of_ble_eq_true rfl)) dX2_danceRound_25 ⟨Nat.zero_le _, Nat.zero_le _⟩) hP hD hS hA [0, 1, 2, 3, 4, 5, 6, 7, 8, 9, 10] [] [0, 1, 2, 3, 4, 5, 6, 7, 8, 9, 10] rfl rfl (by decide) (by decide) rfl (by decide) (fun H locs hP hD hS => ?_)
          obtain ⟨S_9, eS_9⟩ : ∃ z9, (D_X2_rest S1 i) = z9 := ⟨_, rfl⟩
          rw [eS_9] at hP hD
          refine lv_goto (tgt := 77) hx hb dX2_danceRound_28 (by decide) ?_
          refine lv_iinc (v := i + 1) (lv' := [(3, .int (i + 1)), (4, .int (D_X3_counterpart i n)), (2, .int pz), (0, .ref r), (1, .int n)]) hx hb dX2_danceRound_77 hl (k := 1) rfl rfl (by decide) rfl (fun ls hl => ?_)
          refine lv_goto (tgt := 4) hx hb dX2_danceRound_80 (by decide) ?_
          subst eS_9
          exact ih_4 (k_4 + 1) (i + 1) pz (D_X2_rest S1 i) _ _ _ (by omega) (by omega) (by rw [ex_4]; exact nI_1 k_4)  hP hD hS (lv_sub hl [0, 2, 3, 4] rfl) (by rw [L_X2_danceRound_4, if_neg c_1, if_pos c_2] at hR_4; exact hR_4)
  exact loop_4 10 0 0 0 S _ _ _ (by omega) (Nat.zero_le _) nI_0.symm  hP hD hS (lv_sub hl [0, 1, 2, 3] rfl) rfl

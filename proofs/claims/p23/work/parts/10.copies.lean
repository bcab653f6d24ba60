def T_X2_copyRow_1 (n : Nat) (f : Nat → Int32) (h : Nat → Int32) : Nat → Int32 := va_cpy f h (0 : Int32).toNatClampNeg (0 : Int32).toNatClampNeg (nI n).toNatClampNeg
def D_X2_copyRow (n : Nat) (f : Nat → Int32) (h : Nat → Int32)  : (Nat → Int32) := (T_X2_copyRow_1 n f h)
set_option maxHeartbeats 4000000 in
set_option maxRecDepth 100000 in
theorem c_X2_copyRow (l : Launch) (D : va_G) (Y : YY) (sz : Nat) (n : Nat) (f : Nat → Int32) (h : Nat → Int32) (a : Nat) (b : Nat) (hn : n < 2 ^ 31) : Met l yX2_copyRow wsX2_copyRow ({ frames := 1, cells := 0, slots := 0, locals := 40 } : Room) (va_Pc [.ref a, .ref b] (Pst D Y sz (wI Y a n f ++ wI Y b n h))) ((fun A : Nat → Prop => Qsv D (fun w9 => w9 = wI Y a n f ++ wI Y b n (D_X2_copyRow n f h)) A) (va_A (wI Y a n f ++ wI Y b n h) sz)) 0 0 (va_A (wI Y a n f ++ wI Y b n h) sz) := by
  refine ct_in (cc := cX2_copyRow) (maxL := 2) (ret := none) (Qc := fun A : Nat → Prop => Qsv D (fun w9 => w9 = wI Y a n f ++ wI Y b n (D_X2_copyRow n f h)) A) (by decide +kernel) rfl (Nat.le_of_ble_eq_true rfl) ?_
  intro p e s m below meth c A ls hx hb hr hts hown hml hlk hin hsz hA hP hD hK hS hl
  have hown : s.vm.findClass RX2 = some m.cls := hown
  have hl : lv_has ls 2 [(0, .ref a), (1, .ref b)] := hl
  show W p l e ({ frames := 1, cells := 0, slots := 0, locals := 40 } : Room) s m ([.ref a, .ref b] : List Value).toArray below meth c s.heap [] 0 0 (MQ below (Qsv D (fun w9 => w9 = wI Y a n f ++ wI Y b n (D_X2_copyRow n f h)) A) ([.ref a, .ref b] : List Value).toArray s 0 0 A) (F0 m 0 ls [])
  refine lv_aload_n hx hb dX2_copyRow_0 rfl (lv_at hl 0 rfl) ?_
  refine lv_iconst (v := 0) hx hb dX2_copyRow_1 (by decide) ?_
  refine lv_aload_n hx hb dX2_copyRow_2 rfl (lv_at hl 1 rfl) ?_
  refine lv_iconst (v := 0) hx hb dX2_copyRow_3 (by decide) ?_
  refine lv_aload_n hx hb dX2_copyRow_4 rfl (lv_at hl 0 rfl) ?_
  refine va_alen (D := D) hx hb hK.1 hP 0 0 rfl rfl (v := nI n) rfl dX2_copyRow_5 ?_
  refine lv_aload_n hx hb dX2_copyRow_6 rfl (lv_at hl 1 rfl) ?_
  refine va_alen (D := D) hx hb hK.1 hP 1 0 rfl rfl (v := nI n) rfl dX2_copyRow_7 ?_
  refine va_mmin hx hb (by rw [hml]; exact hl.1.symm) hown (hts (.methodLink RX2 63 Lib.Math.min.name) (by decide +kernel)) (hts (.static Lib.Math.min.name) (by decide +kernel)) (hts (.initialized "java/lang/Math") (by decide +kernel)) (hts (.code Lib.Math.min.name Lib.Math.min.code 2 (some .int)) (by decide +kernel)) (Nat.le_of_ble_eq_true rfl) (Nat.le_of_ble_eq_true rfl) (Nat.zero_le _) (Nat.zero_le _) dX2_copyRow_8 ?_
  rw [if_neg (show ¬ nI n < nI n from by rw [Int32.lt_iff_toInt_lt]; omega)]
  refine va_copyi (D := D) hx hb (by rw [hml]; exact hl.1.symm) hown (hts (.methodLink RX2 69 arraycopyName) (by decide +kernel)) (hts (.native arraycopyName) (by decide +kernel)) (hts (.static arraycopyName) (by decide +kernel)) (hts (.initialized "java/lang/System") (by decide +kernel)) hK.1 hP hD hS 0 1 0 0 rfl rfl rfl rfl rfl (by decide) (by decide) (nI_pos hn) (by rw [nI_clamp hn]; exact Nat.le_of_eq (Nat.zero_add n)) (by rw [nI_clamp hn]; exact Nat.le_of_eq (Nat.zero_add n)) (fun _ _ => rfl) (Nat.le_of_ble_eq_true rfl) (Nat.le_of_ble_eq_true rfl) dX2_copyRow_11 (fun H locs hP hD hS => ?_)
  have hP : va_P D vwCl (wI Y a n f ++ wI Y b n (T_X2_copyRow_1 n f h)) H := hP
  have hD : va_D A (wI Y a n f ++ wI Y b n (T_X2_copyRow_1 n f h)) := hD
  obtain ⟨S_1, eS_1⟩ : ∃ z9, T_X2_copyRow_1 n f h = z9 := ⟨_, rfl⟩
  rw [eS_1] at hP hD
  subst eS_1
  have e9 : D_X2_copyRow n f h = (T_X2_copyRow_1 n f h) := by rw [D_X2_copyRow]
  exact ret_v hx hb hr hlk hP hD hS dX2_copyRow_14 ⟨Nat.zero_le _, Nat.zero_le _⟩ (by rw [e9])
def T_X2_copyFrom_1 (S : Nat → Nat → Int32) (Z : Nat → Nat → Int32) : Nat → Nat → Int32 := sX S 0 (D_X2_copyRow 3 (Z 0) (S 0))
def T_X2_copyFrom_2 (Z : Nat → Nat → Int32) (S_1 : Nat → Nat → Int32) : Nat → Nat → Int32 := s2 S_1 10 0 (Z 10 0)
def T_X2_copyFrom_3 (Z : Nat → Nat → Int32) (S_2 : Nat → Nat → Int32) : Nat → Nat → Int32 := sX S_2 1 (D_X2_copyRow 9 (Z 1) (S_2 1))
def T_X2_copyFrom_4 (Z : Nat → Nat → Int32) (S_3 : Nat → Nat → Int32) : Nat → Nat → Int32 := sX S_3 2 (D_X2_copyRow 9 (Z 2) (S_3 2))
def T_X2_copyFrom_5 (Z : Nat → Nat → Int32) (S_4 : Nat → Nat → Int32) : Nat → Nat → Int32 := sX S_4 3 (D_X2_copyRow 9 (Z 3) (S_4 3))
def T_X2_copyFrom_6 (Z : Nat → Nat → Int32) (S_5 : Nat → Nat → Int32) : Nat → Nat → Int32 := sX S_5 4 (D_X2_copyRow 9 (Z 4) (S_5 4))
def T_X2_copyFrom_7 (Z : Nat → Nat → Int32) (S_6 : Nat → Nat → Int32) : Nat → Nat → Int32 := sX S_6 5 (D_X2_copyRow 9 (Z 5) (S_6 5))
def T_X2_copyFrom_8 (Z : Nat → Nat → Int32) (S_7 : Nat → Nat → Int32) : Nat → Nat → Int32 := sX S_7 6 (D_X2_copyRow 81 (Z 6) (S_7 6))
def T_X2_copyFrom_9 (Z : Nat → Nat → Int32) (S_8 : Nat → Nat → Int32) : Nat → Nat → Int32 := sX S_8 7 (D_X2_copyRow 81 (Z 7) (S_8 7))
def T_X2_copyFrom_10 (Z : Nat → Nat → Int32) (S_9 : Nat → Nat → Int32) : Nat → Nat → Int32 := sX S_9 8 (D_X2_copyRow 81 (Z 8) (S_9 8))
def T_X2_copyFrom_11 (Z : Nat → Nat → Int32) (S_10 : Nat → Nat → Int32) : Nat → Nat → Int32 := sX S_10 9 (D_X2_copyRow 9 (Z 9) (S_10 9))
def T_X2_copyFrom_12 (Z : Nat → Nat → Int32) (S_11 : Nat → Nat → Int32) : Nat → Nat → Int32 := s2 S_11 10 1 (Z 10 1)
def T_X2_copyFrom_13 (Z : Nat → Nat → Int32) (S_12 : Nat → Nat → Int32) : Nat → Nat → Int32 := s2 S_12 10 2 (Z 10 2)
def D_X2_copyFrom (S : Nat → Nat → Int32) (Z : Nat → Nat → Int32)  : (Nat → Nat → Int32) := (T_X2_copyFrom_13 Z (T_X2_copyFrom_12 Z (T_X2_copyFrom_11 Z (T_X2_copyFrom_10 Z (T_X2_copyFrom_9 Z (T_X2_copyFrom_8 Z (T_X2_copyFrom_7 Z (T_X2_copyFrom_6 Z (T_X2_copyFrom_5 Z (T_X2_copyFrom_4 Z (T_X2_copyFrom_3 Z (T_X2_copyFrom_2 Z (T_X2_copyFrom_1 S Z)))))))))))))
set_option maxRecDepth 100000 in
theorem in_X2_copyFrom_RX2 : ∀ w ∈ u_ws RX2 TX2 13, w ∈ wsX2_copyFrom := by decide +kernel
set_option maxHeartbeats 4000000 in
set_option maxRecDepth 100000 in
theorem c_X2_copyFrom (l : Launch) (D : va_G) (Y : YY) (sz : Nat) (q : Nat → Nat) (q2 : Nat → Nat) (S : Nat → Nat → Int32) (Z : Nat → Nat → Int32) (r : Nat) (r2 : Nat) : Met l yX2_copyFrom wsX2_copyFrom ({ frames := 2, cells := 0, slots := 0, locals := 61 } : Room) (va_Pc [.ref r, .ref r2] (Pst D Y sz (wR Y r q S ++ wR Y r2 q2 Z))) ((fun A : Nat → Prop => Qsv D (fun w9 => w9 = wR Y r q (D_X2_copyFrom S Z) ++ wR Y r2 q2 Z) A) (va_A (wR Y r q S ++ wR Y r2 q2 Z) sz)) 0 0 (va_A (wR Y r q S ++ wR Y r2 q2 Z) sz) := by
  refine ct_in (cc := cX2_copyFrom) (maxL := 2) (ret := none) (Qc := fun A : Nat → Prop => Qsv D (fun w9 => w9 = wR Y r q (D_X2_copyFrom S Z) ++ wR Y r2 q2 Z) A) (by decide +kernel) rfl (Nat.le_of_ble_eq_true rfl) ?_
  intro p e s m below meth c A ls hx hb hr hts hown hml hlk hin hsz hA hP hD hK hS hl
  have hown : s.vm.findClass RX2 = some m.cls := hown
  have hl : lv_has ls 2 [(0, .ref r), (1, .ref r2)] := hl
  show W p l e ({ frames := 2, cells := 0, slots := 0, locals := 61 } : Room) s m ([.ref r, .ref r2] : List Value).toArray below meth c s.heap [] 0 0 (MQ below (Qsv D (fun w9 => w9 = wR Y r q (D_X2_copyFrom S Z) ++ wR Y r2 q2 Z) A) ([.ref r, .ref r2] : List Value).toArray s 0 0 A) (F0 m 0 ls [])
  refine lv_aload_n hx hb dX2_copyFrom_0 rfl (lv_at hl 1 rfl) ?_
  refine va_get (D := D) (ci := 2) (v := .ref (q2 0)) (C := RX2) (T := TX2) (N := 13) hx hb hts in_X2_copyFrom_RX2 hown hK.1 hP 11 rfl rfl 0 (by decide) (hts (.fieldLink RX2 9 "NineDancers$Ring" "settings" "[I") (by decide +kernel)) (fun _ h9 => h9) rfl dX2_copyFrom_1 ?_
  refine lv_aload_n hx hb dX2_copyFrom_4 rfl (lv_at hl 0 rfl) ?_
  refine va_get (D := D) (ci := 2) (v := .ref (q 0)) (C := RX2) (T := TX2) (N := 13) hx hb hts in_X2_copyFrom_RX2 hown hK.1 hP 0 rfl rfl 0 (by decide) (hts (.fieldLink RX2 9 "NineDancers$Ring" "settings" "[I") (by decide +kernel)) (fun _ h9 => h9) rfl dX2_copyFrom_5 ?_
  refine ck_vD (wr := [(r, .inr (2, fR q S)), (q 1, .inl (Y.1, 9, .inl (S 1))), (q 2, .inl (Y.1, 9, .inl (S 2))), (q 3, .inl (Y.1, 9, .inl (S 3))), (q 4, .inl (Y.1, 9, .inl (S 4))), (q 5, .inl (Y.1, 9, .inl (S 5))), (q 6, .inl (Y.1, 81, .inl (S 6))), (q 7, .inl (Y.1, 81, .inl (S 7))), (q 8, .inl (Y.1, 81, .inl (S 8))), (q 9, .inl (Y.1, 9, .inl (S 9))), (r2, .inr (2, fR q2 Z)), (q2 1, .inl (Y.1, 9, .inl (Z 1))), (q2 2, .inl (Y.1, 9, .inl (Z 2))), (q2 3, .inl (Y.1, 9, .inl (Z 3))), (q2 4, .inl (Y.1, 9, .inl (Z 4))), (q2 5, .inl (Y.1, 9, .inl (Z 5))), (q2 6, .inl (Y.1, 81, .inl (Z 6))), (q2 7, .inl (Y.1, 81, .inl (Z 7))), (q2 8, .inl (Y.1, 81, .inl (Z 8))), (q2 9, .inl (Y.1, 9, .inl (Z 9)))]) (ws' := wR Y r q (T_X2_copyFrom_1 S Z) ++ wR Y r2 q2 Z) (va_runS (As := [.ref (q2 0), .ref (q 0)]) (rest := []) ⟨hx, hb, hml, hown, hts⟩ (c_X2_copyRow l D Y s.heap.size 3 (Z 0) (S 0) (q2 0) (q 0) (by decide)) (va_cwS 2 hts gX2_copyFrom_X2_copyRow rfl rfl rfl (by decide +kernel) ⟨Nat.le_of_ble_eq_true rfl, Nat.le_of_ble_eq_true rfl⟩) (pst_S hK hP hD [12, 1] rfl (by decide)) rfl rfl hl.1 rfl (lv_room (Nat.le_of_ble_eq_true rfl)) dX2_copyFrom_8 ⟨Nat.zero_le _, Nat.zero_le _⟩) hP hD hS hA [12, 1] [0, 2, 3, 4, 5, 6, 7, 8, 9, 10, 11, 13, 14, 15, 16, 17, 18, 19, 20, 21] [0, 21, 1, 2, 3, 4, 5, 6, 7, 8, 9, 10, 20, 11, 12, 13, 14, 15, 16, 17, 18, 19] rfl rfl (by decide) (by decide) rfl (by decide) (fun H locs hP hD hS => ?_)
  obtain ⟨S_1, eS_1⟩ : ∃ z9, T_X2_copyFrom_1 S Z = z9 := ⟨_, rfl⟩
  rw [eS_1] at hP hD
  refine lv_aload_n hx hb dX2_copyFrom_11 rfl (lv_at hl 0 rfl) ?_
  refine lv_aload_n hx hb dX2_copyFrom_12 rfl (lv_at hl 1 rfl) ?_
  refine va_get (D := D) (ci := 2) (v := .int (Z 10 0)) (C := RX2) (T := TX2) (N := 13) hx hb hts in_X2_copyFrom_RX2 hown hK.1 hP 11 rfl rfl 1 (by decide) (hts (.fieldLink RX2 15 "NineDancers$Ring" "there" "I") (by decide +kernel)) (fun _ h9 => h9) rfl dX2_copyFrom_13 ?_
  refine va_put (D := D) (ci := 2) (v := .int (Z 10 0)) (ty := .int) (C := RX2) (T := TX2) (N := 13) hx hb hts in_X2_copyFrom_RX2 tyX2 tyX2_ok nmX2 hown hK.1 hP hD hS 0 rfl rfl 1 (by decide) (hts (.fieldLink RX2 15 "NineDancers$Ring" "there" "I") (by decide +kernel)) (fun _ h9 => h9) rfl (by decide +kernel) rfl rfl (Nat.le_of_ble_eq_true rfl) dX2_copyFrom_16 (fun H locs hP hD hS => ?_)
  have hP : va_P D vwCl (wR Y r q (T_X2_copyFrom_2 Z S_1) ++ wR Y r2 q2 Z) H := hP
  have hD : va_D A (wR Y r q (T_X2_copyFrom_2 Z S_1) ++ wR Y r2 q2 Z) := hD
  obtain ⟨S_2, eS_2⟩ : ∃ z9, T_X2_copyFrom_2 Z S_1 = z9 := ⟨_, rfl⟩
  rw [eS_2] at hP hD
  refine lv_aload_n hx hb dX2_copyFrom_19 rfl (lv_at hl 1 rfl) ?_
  refine va_get (D := D) (ci := 2) (v := .ref (q2 1)) (C := RX2) (T := TX2) (N := 13) hx hb hts in_X2_copyFrom_RX2 hown hK.1 hP 11 rfl rfl 2 (by decide) (hts (.fieldLink RX2 19 "NineDancers$Ring" "strengths" "[I") (by decide +kernel)) (fun _ h9 => h9) rfl dX2_copyFrom_20 ?_
  refine lv_aload_n hx hb dX2_copyFrom_23 rfl (lv_at hl 0 rfl) ?_
  refine va_get (D := D) (ci := 2) (v := .ref (q 1)) (C := RX2) (T := TX2) (N := 13) hx hb hts in_X2_copyFrom_RX2 hown hK.1 hP 0 rfl rfl 2 (by decide) (hts (.fieldLink RX2 19 "NineDancers$Ring" "strengths" "[I") (by decide +kernel)) (fun _ h9 => h9) rfl dX2_copyFrom_24 ?_
  refine ck_vD (wr := [(r, .inr (2, fR q S_2)), (q 0, .inl (Y.1, 3, .inl (S_2 0))), (q 2, .inl (Y.1, 9, .inl (S_2 2))), (q 3, .inl (Y.1, 9, .inl (S_2 3))), (q 4, .inl (Y.1, 9, .inl (S_2 4))), (q 5, .inl (Y.1, 9, .inl (S_2 5))), (q 6, .inl (Y.1, 81, .inl (S_2 6))), (q 7, .inl (Y.1, 81, .inl (S_2 7))), (q 8, .inl (Y.1, 81, .inl (S_2 8))), (q 9, .inl (Y.1, 9, .inl (S_2 9))), (r2, .inr (2, fR q2 Z)), (q2 0, .inl (Y.1, 3, .inl (Z 0))), (q2 2, .inl (Y.1, 9, .inl (Z 2))), (q2 3, .inl (Y.1, 9, .inl (Z 3))), (q2 4, .inl (Y.1, 9, .inl (Z 4))), (q2 5, .inl (Y.1, 9, .inl (Z 5))), (q2 6, .inl (Y.1, 81, .inl (Z 6))), (q2 7, .inl (Y.1, 81, .inl (Z 7))), (q2 8, .inl (Y.1, 81, .inl (Z 8))), (q2 9, .inl (Y.1, 9, .inl (Z 9)))]) (ws' := wR Y r q (T_X2_copyFrom_3 Z S_2) ++ wR Y r2 q2 Z) (va_runS (As := [.ref (q2 1), .ref (q 1)]) (rest := []) ⟨hx, hb, hml, hown, hts⟩ (c_X2_copyRow l D Y H.size 9 (Z 1) (S_2 1) (q2 1) (q 1) (by decide)) (va_cwS 2 hts gX2_copyFrom_X2_copyRow rfl rfl rfl (by decide +kernel) ⟨Nat.le_of_ble_eq_true rfl, Nat.le_of_ble_eq_true rfl⟩) (pst_S hK hP hD [13, 2] rfl (by decide)) rfl rfl hl.1 rfl (lv_room (Nat.le_of_ble_eq_true rfl)) dX2_copyFrom_27 ⟨Nat.zero_le _, Nat.zero_le _⟩) hP hD hS hA [13, 2] [0, 1, 3, 4, 5, 6, 7, 8, 9, 10, 11, 12, 14, 15, 16, 17, 18, 19, 20, 21] [0, 1, 21, 2, 3, 4, 5, 6, 7, 8, 9, 10, 11, 20, 12, 13, 14, 15, 16, 17, 18, 19] rfl rfl (by decide) (by decide) rfl (by decide) (fun H locs hP hD hS => ?_)
  obtain ⟨S_3, eS_3⟩ : ∃ z9, T_X2_copyFrom_3 Z S_2 = z9 := ⟨_, rfl⟩
  rw [eS_3] at hP hD
  refine lv_aload_n hx hb dX2_copyFrom_30 rfl (lv_at hl 1 rfl) ?_
  refine va_get (D := D) (ci := 2) (v := .ref (q2 2)) (C := RX2) (T := TX2) (N := 13) hx hb hts in_X2_copyFrom_RX2 hown hK.1 hP 11 rfl rfl 3 (by decide) (hts (.fieldLink RX2 22 "NineDancers$Ring" "joys" "[I") (by decide +kernel)) (fun _ h9 => h9) rfl dX2_copyFrom_31 ?_
  refine lv_aload_n hx hb dX2_copyFrom_34 rfl (lv_at hl 0 rfl) ?_
  refine va_get (D := D) (ci := 2) (v := .ref (q 2)) (C := RX2) (T := TX2) (N := 13) hx hb hts in_X2_copyFrom_RX2 hown hK.1 hP 0 rfl rfl 3 (by decide) (hts (.fieldLink RX2 22 "NineDancers$Ring" "joys" "[I") (by decide +kernel)) (fun _ h9 => h9) rfl dX2_copyFrom_35 ?_
  refine ck_vD (wr := [(r, .inr (2, fR q S_3)), (q 0, .inl (Y.1, 3, .inl (S_3 0))), (q 1, .inl (Y.1, 9, .inl (S_3 1))), (q 3, .inl (Y.1, 9, .inl (S_3 3))), (q 4, .inl (Y.1, 9, .inl (S_3 4))), (q 5, .inl (Y.1, 9, .inl (S_3 5))), (q 6, .inl (Y.1, 81, .inl (S_3 6))), (q 7, .inl (Y.1, 81, .inl (S_3 7))), (q 8, .inl (Y.1, 81, .inl (S_3 8))), (q 9, .inl (Y.1, 9, .inl (S_3 9))), (r2, .inr (2, fR q2 Z)), (q2 0, .inl (Y.1, 3, .inl (Z 0))), (q2 1, .inl (Y.1, 9, .inl (Z 1))), (q2 3, .inl (Y.1, 9, .inl (Z 3))), (q2 4, .inl (Y.1, 9, .inl (Z 4))), (q2 5, .inl (Y.1, 9, .inl (Z 5))), (q2 6, .inl (Y.1, 81, .inl (Z 6))), (q2 7, .inl (Y.1, 81, .inl (Z 7))), (q2 8, .inl (Y.1, 81, .inl (Z 8))), (q2 9, .inl (Y.1, 9, .inl (Z 9)))]) (ws' := wR Y r q (T_X2_copyFrom_4 Z S_3) ++ wR Y r2 q2 Z) (va_runS (As := [.ref (q2 2), .ref (q 2)]) (rest := []) ⟨hx, hb, hml, hown, hts⟩ (c_X2_copyRow l D Y H.size 9 (Z 2) (S_3 2) (q2 2) (q 2) (by decide)) (va_cwS 2 hts gX2_copyFrom_X2_copyRow rfl rfl rfl (by decide +kernel) ⟨Nat.le_of_ble_eq_true rfl, Nat.le_of_ble_eq_true rfl⟩) (pst_S hK hP hD [14, 3] rfl (by decide)) rfl rfl hl.1 rfl (lv_room (Nat.le_of_ble_eq_true rfl)) dX2_copyFrom_38 ⟨Nat.zero_le _, Nat.zero_le _⟩) hP hD hS hA [14, 3] [0, 1, 2, 4, 5, 6, 7, 8, 9, 10, 11, 12, 13, 15, 16, 17, 18, 19, 20, 21] [0, 1, 2, 21, 3, 4, 5, 6, 7, 8, 9, 10, 11, 12, 20, 13, 14, 15, 16, 17, 18, 19] rfl rfl (by decide) (by decide) rfl (by decide) (fun H locs hP hD hS => ?_)
  obtain ⟨S_4, eS_4⟩ : ∃ z9, T_X2_copyFrom_4 Z S_3 = z9 := ⟨_, rfl⟩
  rw [eS_4] at hP hD
  refine lv_aload_n hx hb dX2_copyFrom_41 rfl (lv_at hl 1 rfl) ?_
  refine va_get (D := D) (ci := 2) (v := .ref (q2 3)) (C := RX2) (T := TX2) (N := 13) hx hb hts in_X2_copyFrom_RX2 hown hK.1 hP 11 rfl rfl 4 (by decide) (hts (.fieldLink RX2 25 "NineDancers$Ring" "roundsDanced" "[I") (by decide +kernel)) (fun _ h9 => h9) rfl dX2_copyFrom_42 ?_
  refine lv_aload_n hx hb dX2_copyFrom_45 rfl (lv_at hl 0 rfl) ?_
  refine va_get (D := D) (ci := 2) (v := .ref (q 3)) (C := RX2) (T := TX2) (N := 13) hx hb hts in_X2_copyFrom_RX2 hown hK.1 hP 0 rfl rfl 4 (by decide) (hts (.fieldLink RX2 25 "NineDancers$Ring" "roundsDanced" "[I") (by decide +kernel)) (fun _ h9 => h9) rfl dX2_copyFrom_46 ?_
  refine ck_vD (wr := [(r, .inr (2, fR q S_4)), (q 0, .inl (Y.1, 3, .inl (S_4 0))), (q 1, .inl (Y.1, 9, .inl (S_4 1))), (q 2, .inl (Y.1, 9, .inl (S_4 2))), (q 4, .inl (Y.1, 9, .inl (S_4 4))), (q 5, .inl (Y.1, 9, .inl (S_4 5))), (q 6, .inl (Y.1, 81, .inl (S_4 6))), (q 7, .inl (Y.1, 81, .inl (S_4 7))), (q 8, .inl (Y.1, 81, .inl (S_4 8))), (q 9, .inl (Y.1, 9, .inl (S_4 9))), (r2, .inr (2, fR q2 Z)), (q2 0, .inl (Y.1, 3, .inl (Z 0))), (q2 1, .inl (Y.1, 9, .inl (Z 1))), (q2 2, .inl (Y.1, 9, .inl (Z 2))), (q2 4, .inl (Y.1, 9, .inl (Z 4))), (q2 5, .inl (Y.1, 9, .inl (Z 5))), (q2 6, .inl (Y.1, 81, .inl (Z 6))), (q2 7, .inl (Y.1, 81, .inl (Z 7))), (q2 8, .inl (Y.1, 81, .inl (Z 8))), (q2 9, .inl (Y.1, 9, .inl (Z 9)))]) (ws' := wR Y r q (T_X2_copyFrom_5 Z S_4) ++ wR Y r2 q2 Z) (va_runS (As := [.ref (q2 3), .ref (q 3)]) (rest := []) ⟨hx, hb, hml, hown, hts⟩ (c_X2_copyRow l D Y H.size 9 (Z 3) (S_4 3) (q2 3) (q 3) (by decide)) (va_cwS 2 hts gX2_copyFrom_X2_copyRow rfl rfl rfl (by decide +kernel) ⟨Nat.le_of_ble_eq_true rfl, Nat.le_of_ble_eq_true rfl⟩) (pst_S hK hP hD [15, 4] rfl (by decide)) rfl rfl hl.1 rfl (lv_room (Nat.le_of_ble_eq_true rfl)) dX2_copyFrom_49 ⟨Nat.zero_le _, Nat.zero_le _⟩) hP hD hS hA [15, 4] [0, 1, 2, 3, 5, 6, 7, 8, 9, 10, 11, 12, 13, 14, 16, 17, 18, 19, 20, 21] [0, 1, 2, 3, 21, 4, 5, 6, 7, 8, 9, 10, 11, 12, 13, 20, 14, 15, 16, 17, 18, 19] rfl rfl (by decide) (by decide) rfl (by decide) (fun H locs hP hD hS => ?_)
  obtain ⟨S_5, eS_5⟩ : ∃ z9, T_X2_copyFrom_5 Z S_4 = z9 := ⟨_, rfl⟩
  rw [eS_5] at hP hD
  refine lv_aload_n hx hb dX2_copyFrom_52 rfl (lv_at hl 1 rfl) ?_
  refine va_get (D := D) (ci := 2) (v := .ref (q2 4)) (C := RX2) (T := TX2) (N := 13) hx hb hts in_X2_copyFrom_RX2 hown hK.1 hP 11 rfl rfl 5 (by decide) (hts (.fieldLink RX2 28 "NineDancers$Ring" "roundsRested" "[I") (by decide +kernel)) (fun _ h9 => h9) rfl dX2_copyFrom_53 ?_
  refine lv_aload_n hx hb dX2_copyFrom_56 rfl (lv_at hl 0 rfl) ?_
  refine va_get (D := D) (ci := 2) (v := .ref (q 4)) (C := RX2) (T := TX2) (N := 13) hx hb hts in_X2_copyFrom_RX2 hown hK.1 hP 0 rfl rfl 5 (by decide) (hts (.fieldLink RX2 28 "NineDancers$Ring" "roundsRested" "[I") (by decide +kernel)) (fun _ h9 => h9) rfl dX2_copyFrom_57 ?_
  refine ck_vD (wr := [(r, .inr (2, fR q S_5)), (q 0, .inl (Y.1, 3, .inl (S_5 0))), (q 1, .inl (Y.1, 9, .inl (S_5 1))), (q 2, .inl (Y.1, 9, .inl (S_5 2))), (q 3, .inl (Y.1, 9, .inl (S_5 3))), (q 5, .inl (Y.1, 9, .inl (S_5 5))), (q 6, .inl (Y.1, 81, .inl (S_5 6))), (q 7, .inl (Y.1, 81, .inl (S_5 7))), (q 8, .inl (Y.1, 81, .inl (S_5 8))), (q 9, .inl (Y.1, 9, .inl (S_5 9))), (r2, .inr (2, fR q2 Z)), (q2 0, .inl (Y.1, 3, .inl (Z 0))), (q2 1, .inl (Y.1, 9, .inl (Z 1))), (q2 2, .inl (Y.1, 9, .inl (Z 2))), (q2 3, .inl (Y.1, 9, .inl (Z 3))), (q2 5, .inl (Y.1, 9, .inl (Z 5))), (q2 6, .inl (Y.1, 81, .inl (Z 6))), (q2 7, .inl (Y.1, 81, .inl (Z 7))), (q2 8, .inl (Y.1, 81, .inl (Z 8))), (q2 9, .inl (Y.1, 9, .inl (Z 9)))]) (ws' := wR Y r q (T_X2_copyFrom_6 Z S_5) ++ wR Y r2 q2 Z) (va_runS (As := [.ref (q2 4), .ref (q 4)]) (rest := []) ⟨hx, hb, hml, hown, hts⟩ (c_X2_copyRow l D Y H.size 9 (Z 4) (S_5 4) (q2 4) (q 4) (by decide)) (va_cwS 2 hts gX2_copyFrom_X2_copyRow rfl rfl rfl (by decide +kernel) ⟨Nat.le_of_ble_eq_true rfl, Nat.le_of_ble_eq_true rfl⟩) (pst_S hK hP hD [16, 5] rfl (by decide)) rfl rfl hl.1 rfl (lv_room (Nat.le_of_ble_eq_true rfl)) dX2_copyFrom_60 ⟨Nat.zero_le _, Nat.zero_le _⟩) hP hD hS hA [16, 5] [0, 1, 2, 3, 4, 6, 7, 8, 9, 10, 11, 12, 13, 14, 15, 17, 18, 19, 20, 21] [0, 1, 2, 3, 4, 21, 5, 6, 7, 8, 9, 10, 11, 12, 13, 14, 20, 15, 16, 17, 18, 19] rfl rfl (by decide) (by decide) rfl (by decide) (fun H locs hP hD hS => ?_)
  obtain ⟨S_6, eS_6⟩ : ∃ z9, T_X2_copyFrom_6 Z S_5 = z9 := ⟨_, rfl⟩
  rw [eS_6] at hP hD
  refine lv_aload_n hx hb dX2_copyFrom_63 rfl (lv_at hl 1 rfl) ?_
  refine va_get (D := D) (ci := 2) (v := .ref (q2 5)) (C := RX2) (T := TX2) (N := 13) hx hb hts in_X2_copyFrom_RX2 hown hK.1 hP 11 rfl rfl 6 (by decide) (hts (.fieldLink RX2 31 "NineDancers$Ring" "roundsAlone" "[I") (by decide +kernel)) (fun _ h9 => h9) rfl dX2_copyFrom_64 ?_
  refine lv_aload_n hx hb dX2_copyFrom_67 rfl (lv_at hl 0 rfl) ?_
  refine va_get (D := D) (ci := 2) (v := .ref (q 5)) (C := RX2) (T := TX2) (N := 13) hx hb hts in_X2_copyFrom_RX2 hown hK.1 hP 0 rfl rfl 6 (by decide) (hts (.fieldLink RX2 31 "NineDancers$Ring" "roundsAlone" "[I") (by decide +kernel)) (fun _ h9 => h9) rfl dX2_copyFrom_68 ?_
  refine ck_vD (wr := [(r, .inr (2, fR q S_6)), (q 0, .inl (Y.1, 3, .inl (S_6 0))), (q 1, .inl (Y.1, 9, .inl (S_6 1))), (q 2, .inl (Y.1, 9, .inl (S_6 2))), (q 3, .inl (Y.1, 9, .inl (S_6 3))), (q 4, .inl (Y.1, 9, .inl (S_6 4))), (q 6, .inl (Y.1, 81, .inl (S_6 6))), (q 7, .inl (Y.1, 81, .inl (S_6 7))), (q 8, .inl (Y.1, 81, .inl (S_6 8))), (q 9, .inl (Y.1, 9, .inl (S_6 9))), (r2, .inr (2, fR q2 Z)), (q2 0, .inl (Y.1, 3, .inl (Z 0))), (q2 1, .inl (Y.1, 9, .inl (Z 1))), (q2 2, .inl (Y.1, 9, .inl (Z 2))), (q2 3, .inl (Y.1, 9, .inl (Z 3))), (q2 4, .inl (Y.1, 9, .inl (Z 4))), (q2 6, .inl (Y.1, 81, .inl (Z 6))), (q2 7, .inl (Y.1, 81, .inl (Z 7))), (q2 8, .inl (Y.1, 81, .inl (Z 8))), (q2 9, .inl (Y.1, 9, .inl (Z 9)))]) (ws' := wR Y r q (T_X2_copyFrom_7 Z S_6) ++ wR Y r2 q2 Z) (va_runS (As := [.ref (q2 5), .ref (q 5)]) (rest := []) ⟨hx, hb, hml, hown, hts⟩ (c_X2_copyRow l D Y H.size 9 (Z 5) (S_6 5) (q2 5) (q 5) (by decide)) (va_cwS 2 hts gX2_copyFrom_X2_copyRow rfl rfl rfl (by decide +kernel) ⟨Nat.le_of_ble_eq_true rfl, Nat.le_of_ble_eq_true rfl⟩) (pst_S hK hP hD [17, 6] rfl (by decide)) rfl rfl hl.1 rfl (lv_room (Nat.le_of_ble_eq_true rfl)) dX2_copyFrom_71 ⟨Nat.zero_le _, Nat.zero_le _⟩) hP hD hS hA [17, 6] [0, 1, 2, 3, 4, 5, 7, 8, 9, 10, 11, 12, 13, 14, 15, 16, 18, 19, 20, 21] [0, 1, 2, 3, 4, 5, 21, 6, 7, 8, 9, 10, 11, 12, 13, 14, 15, 20, 16, 17, 18, 19] rfl rfl (by decide) (by decide) rfl (by decide) (fun H locs hP hD hS => ?_)
  obtain ⟨S_7, eS_7⟩ : ∃ z9, T_X2_copyFrom_7 Z S_6 = z9 := ⟨_, rfl⟩
  rw [eS_7] at hP hD
  refine lv_aload_n hx hb dX2_copyFrom_74 rfl (lv_at hl 1 rfl) ?_
  refine va_get (D := D) (ci := 2) (v := .ref (q2 6)) (C := RX2) (T := TX2) (N := 13) hx hb hts in_X2_copyFrom_RX2 hown hK.1 hP 11 rfl rfl 7 (by decide) (hts (.fieldLink RX2 34 "NineDancers$Ring" "likings" "[I") (by decide +kernel)) (fun _ h9 => h9) rfl dX2_copyFrom_75 ?_
  refine lv_aload_n hx hb dX2_copyFrom_78 rfl (lv_at hl 0 rfl) ?_
  refine va_get (D := D) (ci := 2) (v := .ref (q 6)) (C := RX2) (T := TX2) (N := 13) hx hb hts in_X2_copyFrom_RX2 hown hK.1 hP 0 rfl rfl 7 (by decide) (hts (.fieldLink RX2 34 "NineDancers$Ring" "likings" "[I") (by decide +kernel)) (fun _ h9 => h9) rfl dX2_copyFrom_79 ?_
  refine ck_vD (wr := [(r, .inr (2, fR q S_7)), (q 0, .inl (Y.1, 3, .inl (S_7 0))), (q 1, .inl (Y.1, 9, .inl (S_7 1))), (q 2, .inl (Y.1, 9, .inl (S_7 2))), (q 3, .inl (Y.1, 9, .inl (S_7 3))), (q 4, .inl (Y.1, 9, .inl (S_7 4))), (q 5, .inl (Y.1, 9, .inl (S_7 5))), (q 7, .inl (Y.1, 81, .inl (S_7 7))), (q 8, .inl (Y.1, 81, .inl (S_7 8))), (q 9, .inl (Y.1, 9, .inl (S_7 9))), (r2, .inr (2, fR q2 Z)), (q2 0, .inl (Y.1, 3, .inl (Z 0))), (q2 1, .inl (Y.1, 9, .inl (Z 1))), (q2 2, .inl (Y.1, 9, .inl (Z 2))), (q2 3, .inl (Y.1, 9, .inl (Z 3))), (q2 4, .inl (Y.1, 9, .inl (Z 4))), (q2 5, .inl (Y.1, 9, .inl (Z 5))), (q2 7, .inl (Y.1, 81, .inl (Z 7))), (q2 8, .inl (Y.1, 81, .inl (Z 8))), (q2 9, .inl (Y.1, 9, .inl (Z 9)))]) (ws' := wR Y r q (T_X2_copyFrom_8 Z S_7) ++ wR Y r2 q2 Z) (va_runS (As := [.ref (q2 6), .ref (q 6)]) (rest := []) ⟨hx, hb, hml, hown, hts⟩ (c_X2_copyRow l D Y H.size 81 (Z 6) (S_7 6) (q2 6) (q 6) (by decide)) (va_cwS 2 hts gX2_copyFrom_X2_copyRow rfl rfl rfl (by decide +kernel) ⟨Nat.le_of_ble_eq_true rfl, Nat.le_of_ble_eq_true rfl⟩) (pst_S hK hP hD [18, 7] rfl (by decide)) rfl rfl hl.1 rfl (lv_room (Nat.le_of_ble_eq_true rfl)) dX2_copyFrom_82 ⟨Nat.zero_le _, Nat.zero_le _⟩) hP hD hS hA [18, 7] [0, 1, 2, 3, 4, 5, 6, 8, 9, 10, 11, 12, 13, 14, 15, 16, 17, 19, 20, 21] [0, 1, 2, 3, 4, 5, 6, 21, 7, 8, 9, 10, 11, 12, 13, 14, 15, 16, 20, 17, 18, 19] rfl rfl (by decide) (by decide) rfl (by decide) (fun H locs hP hD hS => ?_)
  obtain ⟨S_8, eS_8⟩ : ∃ z9, T_X2_copyFrom_8 Z S_7 = z9 := ⟨_, rfl⟩
  rw [eS_8] at hP hD
  refine lv_aload_n hx hb dX2_copyFrom_85 rfl (lv_at hl 1 rfl) ?_
  refine va_get (D := D) (ci := 2) (v := .ref (q2 7)) (C := RX2) (T := TX2) (N := 13) hx hb hts in_X2_copyFrom_RX2 hown hK.1 hP 11 rfl rfl 8 (by decide) (hts (.fieldLink RX2 37 "NineDancers$Ring" "dances" "[I") (by decide +kernel)) (fun _ h9 => h9) rfl dX2_copyFrom_86 ?_
  refine lv_aload_n hx hb dX2_copyFrom_89 rfl (lv_at hl 0 rfl) ?_
  refine va_get (D := D) (ci := 2) (v := .ref (q 7)) (C := RX2) (T := TX2) (N := 13) hx hb hts in_X2_copyFrom_RX2 hown hK.1 hP 0 rfl rfl 8 (by decide) (hts (.fieldLink RX2 37 "NineDancers$Ring" "dances" "[I") (by decide +kernel)) (fun _ h9 => h9) rfl dX2_copyFrom_90 ?_
  refine ck_vD (wr := [(r, .inr (2, fR q S_8)), (q 0, .inl (Y.1, 3, .inl (S_8 0))), (q 1, .inl (Y.1, 9, .inl (S_8 1))), (q 2, .inl (Y.1, 9, .inl (S_8 2))), (q 3, .inl (Y.1, 9, .inl (S_8 3))), (q 4, .inl (Y.1, 9, .inl (S_8 4))), (q 5, .inl (Y.1, 9, .inl (S_8 5))), (q 6, .inl (Y.1, 81, .inl (S_8 6))), (q 8, .inl (Y.1, 81, .inl (S_8 8))), (q 9, .inl (Y.1, 9, .inl (S_8 9))), (r2, .inr (2, fR q2 Z)), (q2 0, .inl (Y.1, 3, .inl (Z 0))), (q2 1, .inl (Y.1, 9, .inl (Z 1))), (q2 2, .inl (Y.1, 9, .inl (Z 2))), (q2 3, .inl (Y.1, 9, .inl (Z 3))), (q2 4, .inl (Y.1, 9, .inl (Z 4))), (q2 5, .inl (Y.1, 9, .inl (Z 5))), (q2 6, .inl (Y.1, 81, .inl (Z 6))), (q2 8, .inl (Y.1, 81, .inl (Z 8))), (q2 9, .inl (Y.1, 9, .inl (Z 9)))]) (ws' := wR Y r q (T_X2_copyFrom_9 Z S_8) ++ wR Y r2 q2 Z) (va_runS (As := [.ref (q2 7), .ref (q 7)]) (rest := []) ⟨hx, hb, hml, hown, hts⟩ (c_X2_copyRow l D Y H.size 81 (Z 7) (S_8 7) (q2 7) (q 7) (by decide)) (va_cwS 2 hts gX2_copyFrom_X2_copyRow rfl rfl rfl (by decide +kernel) ⟨Nat.le_of_ble_eq_true rfl, Nat.le_of_ble_eq_true rfl⟩) (pst_S hK hP hD [19, 8] rfl (by decide)) rfl rfl hl.1 rfl (lv_room (Nat.le_of_ble_eq_true rfl)) dX2_copyFrom_93 ⟨Nat.zero_le _, Nat.zero_le _⟩) hP hD hS hA [19, 8] [0, 1, 2, 3, 4, 5, 6, 7, 9, 10, 11, 12, 13, 14, 15, 16, 17, 18, 20, 21] [0, 1, 2, 3, 4, 5, 6, 7, 21, 8, 9, 10, 11, 12, 13, 14, 15, 16, 17, 20, 18, 19] rfl rfl (by decide) (by decide) rfl (by decide) (fun H locs hP hD hS => ?_)
  obtain ⟨S_9, eS_9⟩ : ∃ z9, T_X2_copyFrom_9 Z S_8 = z9 := ⟨_, rfl⟩
  rw [eS_9] at hP hD
  refine lv_aload_n hx hb dX2_copyFrom_96 rfl (lv_at hl 1 rfl) ?_
  refine va_get (D := D) (ci := 2) (v := .ref (q2 8)) (C := RX2) (T := TX2) (N := 13) hx hb hts in_X2_copyFrom_RX2 hown hK.1 hP 11 rfl rfl 9 (by decide) (hts (.fieldLink RX2 40 "NineDancers$Ring" "lastDances" "[I") (by decide +kernel)) (fun _ h9 => h9) rfl dX2_copyFrom_97 ?_
  refine lv_aload_n hx hb dX2_copyFrom_100 rfl (lv_at hl 0 rfl) ?_
  refine va_get (D := D) (ci := 2) (v := .ref (q 8)) (C := RX2) (T := TX2) (N := 13) hx hb hts in_X2_copyFrom_RX2 hown hK.1 hP 0 rfl rfl 9 (by decide) (hts (.fieldLink RX2 40 "NineDancers$Ring" "lastDances" "[I") (by decide +kernel)) (fun _ h9 => h9) rfl dX2_copyFrom_101 ?_
  refine ck_vD (wr := [(r, .inr (2, fR q S_9)), (q 0, .inl (Y.1, 3, .inl (S_9 0))), (q 1, .inl (Y.1, 9, .inl (S_9 1))), (q 2, .inl (Y.1, 9, .inl (S_9 2))), (q 3, .inl (Y.1, 9, .inl (S_9 3))), (q 4, .inl (Y.1, 9, .inl (S_9 4))), (q 5, .inl (Y.1, 9, .inl (S_9 5))), (q 6, .inl (Y.1, 81, .inl (S_9 6))), (q 7, .inl (Y.1, 81, .inl (S_9 7))), (q 9, .inl (Y.1, 9, .inl (S_9 9))), (r2, .inr (2, fR q2 Z)), (q2 0, .inl (Y.1, 3, .inl (Z 0))), (q2 1, .inl (Y.1, 9, .inl (Z 1))), (q2 2, .inl (Y.1, 9, .inl (Z 2))), (q2 3, .inl (Y.1, 9, .inl (Z 3))), (q2 4, .inl (Y.1, 9, .inl (Z 4))), (q2 5, .inl (Y.1, 9, .inl (Z 5))), (q2 6, .inl (Y.1, 81, .inl (Z 6))), (q2 7, .inl (Y.1, 81, .inl (Z 7))), (q2 9, .inl (Y.1, 9, .inl (Z 9)))]) (ws' := wR Y r q (T_X2_copyFrom_10 Z S_9) ++ wR Y r2 q2 Z) (va_runS (As := [.ref (q2 8), .ref (q 8)]) (rest := []) ⟨hx, hb, hml, hown, hts⟩ (c_X2_copyRow l D Y H.size 81 (Z 8) (S_9 8) (q2 8) (q 8) (by decide)) (va_cwS 2 hts gX2_copyFrom_X2_copyRow rfl rfl rfl (by decide +kernel) ⟨Nat.le_of_ble_eq_true rfl, Nat.le_of_ble_eq_true rfl⟩) (pst_S hK hP hD [20, 9] rfl (by decide)) rfl rfl hl.1 rfl (lv_room (Nat.le_of_ble_eq_true rfl)) dX2_copyFrom_104 ⟨Nat.zero_le _, Nat.zero_le _⟩) hP hD hS hA [20, 9] [0, 1, 2, 3, 4, 5, 6, 7, 8, 10, 11, 12, 13, 14, 15, 16, 17, 18, 19, 21] [0, 1, 2, 3, 4, 5, 6, 7, 8, 21, 9, 10, 11, 12, 13, 14, 15, 16, 17, 18, 20, 19] rfl rfl (by decide) (by decide) rfl (by decide) (fun H locs hP hD hS => ?_)
  obtain ⟨S_10, eS_10⟩ : ∃ z9, T_X2_copyFrom_10 Z S_9 = z9 := ⟨_, rfl⟩
  rw [eS_10] at hP hD
  refine lv_aload_n hx hb dX2_copyFrom_107 rfl (lv_at hl 1 rfl) ?_
  refine va_get (D := D) (ci := 2) (v := .ref (q2 9)) (C := RX2) (T := TX2) (N := 13) hx hb hts in_X2_copyFrom_RX2 hown hK.1 hP 11 rfl rfl 10 (by decide) (hts (.fieldLink RX2 43 "NineDancers$Ring" "timesTold" "[I") (by decide +kernel)) (fun _ h9 => h9) rfl dX2_copyFrom_108 ?_
  refine lv_aload_n hx hb dX2_copyFrom_111 rfl (lv_at hl 0 rfl) ?_
  refine va_get (D := D) (ci := 2) (v := .ref (q 9)) (C := RX2) (T := TX2) (N := 13) hx hb hts in_X2_copyFrom_RX2 hown hK.1 hP 0 rfl rfl 10 (by decide) (hts (.fieldLink RX2 43 "NineDancers$Ring" "timesTold" "[I") (by decide +kernel)) (fun _ h9 => h9) rfl dX2_copyFrom_112 ?_
  refine ck_vD (wr := [(r, .inr (2, fR q S_10)), (q 0, .inl (Y.1, 3, .inl (S_10 0))), (q 1, .inl (Y.1, 9, .inl (S_10 1))), (q 2, .inl (Y.1, 9, .inl (S_10 2))), (q 3, .inl (Y.1, 9, .inl (S_10 3))), (q 4, .inl (Y.1, 9, .inl (S_10 4))), (q 5, .inl (Y.1, 9, .inl (S_10 5))), (q 6, .inl (Y.1, 81, .inl (S_10 6))), (q 7, .inl (Y.1, 81, .inl (S_10 7))), (q 8, .inl (Y.1, 81, .inl (S_10 8))), (r2, .inr (2, fR q2 Z)), (q2 0, .inl (Y.1, 3, .inl (Z 0))), (q2 1, .inl (Y.1, 9, .inl (Z 1))), (q2 2, .inl (Y.1, 9, .inl (Z 2))), (q2 3, .inl (Y.1, 9, .inl (Z 3))), (q2 4, .inl (Y.1, 9, .inl (Z 4))), (q2 5, .inl (Y.1, 9, .inl (Z 5))), (q2 6, .inl (Y.1, 81, .inl (Z 6))), (q2 7, .inl (Y.1, 81, .inl (Z 7))), (q2 8, .inl (Y.1, 81, .inl (Z 8)))]) (ws' := wR Y r q (T_X2_copyFrom_11 Z S_10) ++ wR Y r2 q2 Z) (va_runS (As := [.ref (q2 9), .ref (q 9)]) (rest := []) ⟨hx, hb, hml, hown, hts⟩ (c_X2_copyRow l D Y H.size 9 (Z 9) (S_10 9) (q2 9) (q 9) (by decide)) (va_cwS 2 hts gX2_copyFrom_X2_copyRow rfl rfl rfl (by decide +kernel) ⟨Nat.le_of_ble_eq_true rfl, Nat.le_of_ble_eq_true rfl⟩) (pst_S hK hP hD [21, 10] rfl (by decide)) rfl rfl hl.1 rfl (lv_room (Nat.le_of_ble_eq_true rfl)) dX2_copyFrom_115 ⟨Nat.zero_le _, Nat.zero_le _⟩) hP hD hS hA [21, 10] [0, 1, 2, 3, 4, 5, 6, 7, 8, 9, 11, 12, 13, 14, 15, 16, 17, 18, 19, 20] [0, 1, 2, 3, 4, 5, 6, 7, 8, 9, 21, 10, 11, 12, 13, 14, 15, 16, 17, 18, 19, 20] rfl rfl (by decide) (by decide) rfl (by decide) (fun H locs hP hD hS => ?_)
  obtain ⟨S_11, eS_11⟩ : ∃ z9, T_X2_copyFrom_11 Z S_10 = z9 := ⟨_, rfl⟩
  rw [eS_11] at hP hD
  refine lv_aload_n hx hb dX2_copyFrom_118 rfl (lv_at hl 0 rfl) ?_
  refine lv_aload_n hx hb dX2_copyFrom_119 rfl (lv_at hl 1 rfl) ?_
  refine va_get (D := D) (ci := 2) (v := .int (Z 10 1)) (C := RX2) (T := TX2) (N := 13) hx hb hts in_X2_copyFrom_RX2 hown hK.1 hP 11 rfl rfl 11 (by decide) (hts (.fieldLink RX2 46 "NineDancers$Ring" "rounds" "I") (by decide +kernel)) (fun _ h9 => h9) rfl dX2_copyFrom_120 ?_
  refine va_put (D := D) (ci := 2) (v := .int (Z 10 1)) (ty := .int) (C := RX2) (T := TX2) (N := 13) hx hb hts in_X2_copyFrom_RX2 tyX2 tyX2_ok nmX2 hown hK.1 hP hD hS 0 rfl rfl 11 (by decide) (hts (.fieldLink RX2 46 "NineDancers$Ring" "rounds" "I") (by decide +kernel)) (fun _ h9 => h9) rfl (by decide +kernel) rfl rfl (Nat.le_of_ble_eq_true rfl) dX2_copyFrom_123 (fun H locs hP hD hS => ?_)
  have hP : va_P D vwCl (wR Y r q (T_X2_copyFrom_12 Z S_11) ++ wR Y r2 q2 Z) H := hP
  have hD : va_D A (wR Y r q (T_X2_copyFrom_12 Z S_11) ++ wR Y r2 q2 Z) := hD
  obtain ⟨S_12, eS_12⟩ : ∃ z9, T_X2_copyFrom_12 Z S_11 = z9 := ⟨_, rfl⟩
  rw [eS_12] at hP hD
  refine lv_aload_n hx hb dX2_copyFrom_126 rfl (lv_at hl 0 rfl) ?_
  refine lv_aload_n hx hb dX2_copyFrom_127 rfl (lv_at hl 1 rfl) ?_
  refine va_get (D := D) (ci := 2) (v := .int (Z 10 2)) (C := RX2) (T := TX2) (N := 13) hx hb hts in_X2_copyFrom_RX2 hown hK.1 hP 11 rfl rfl 12 (by decide) (hts (.fieldLink RX2 50 "NineDancers$Ring" "lastNumber" "I") (by decide +kernel)) (fun _ h9 => h9) rfl dX2_copyFrom_128 ?_
  refine va_put (D := D) (ci := 2) (v := .int (Z 10 2)) (ty := .int) (C := RX2) (T := TX2) (N := 13) hx hb hts in_X2_copyFrom_RX2 tyX2 tyX2_ok nmX2 hown hK.1 hP hD hS 0 rfl rfl 12 (by decide) (hts (.fieldLink RX2 50 "NineDancers$Ring" "lastNumber" "I") (by decide +kernel)) (fun _ h9 => h9) rfl (by decide +kernel) rfl rfl (Nat.le_of_ble_eq_true rfl) dX2_copyFrom_131 (fun H locs hP hD hS => ?_)
  have hP : va_P D vwCl (wR Y r q (T_X2_copyFrom_13 Z S_12) ++ wR Y r2 q2 Z) H := hP
  have hD : va_D A (wR Y r q (T_X2_copyFrom_13 Z S_12) ++ wR Y r2 q2 Z) := hD
  obtain ⟨S_13, eS_13⟩ : ∃ z9, T_X2_copyFrom_13 Z S_12 = z9 := ⟨_, rfl⟩
  rw [eS_13] at hP hD
  subst eS_13
  subst eS_12
  subst eS_11
  subst eS_10
  subst eS_9
  subst eS_8
  subst eS_7
  subst eS_6
  subst eS_5
  subst eS_4
  subst eS_3
  subst eS_2
  subst eS_1
  have e9 : D_X2_copyFrom S Z = (T_X2_copyFrom_13 Z (T_X2_copyFrom_12 Z (T_X2_copyFrom_11 Z (T_X2_copyFrom_10 Z (T_X2_copyFrom_9 Z (T_X2_copyFrom_8 Z (T_X2_copyFrom_7 Z (T_X2_copyFrom_6 Z (T_X2_copyFrom_5 Z (T_X2_copyFrom_4 Z (T_X2_copyFrom_3 Z (T_X2_copyFrom_2 Z (T_X2_copyFrom_1 S Z))))))))))))) := by rw [D_X2_copyFrom]
  exact ret_v hx hb hr hlk hP hD hS dX2_copyFrom_134 ⟨Nat.zero_le _, Nat.zero_le _⟩ (by rw [e9])
def L_X3_sumOf_10 (n : Nat) (f : Nat → Int32) : Nat → (Int32) → (Int32) → (Int32)
  | 0, i, u => u
  | n_10 + 1, i, u => if (nI n) ≤ i then u else (L_X3_sumOf_10 n f n_10 (i + 1) (u + (f i.toNatClampNeg)))
def D_X3_sumOf (n : Nat) (f : Nat → Int32)  : (Int32) := (L_X3_sumOf_10 n f (n + 1) 0 0)
set_option maxHeartbeats 4000000 in
set_option maxRecDepth 100000 in
theorem c_X3_sumOf (l : Launch) (D : va_G) (Y : YY) (sz : Nat) (n : Nat) (f : Nat → Int32) (a : Nat) (hn : n < 2 ^ 31) : Met l yX3_sumOf wsX3_sumOf ({ frames := 0, cells := 0, slots := 0, locals := 0 } : Room) (va_Pc [.ref a] (Pst D Y sz (wI Y a n f))) ((fun A : Nat → Prop => Qsi D (fun r9 w9 => r9 = D_X3_sumOf n f ∧ w9 = wI Y a n f) A) (va_A (wI Y a n f) sz)) 0 0 (va_A (wI Y a n f) sz) := by
  refine ct_in (cc := cX3_sumOf) (maxL := 6) (ret := (some .int)) (Qc := fun A : Nat → Prop => Qsi D (fun r9 w9 => r9 = D_X3_sumOf n f ∧ w9 = wI Y a n f) A) (by decide +kernel) rfl (Nat.le_of_ble_eq_true rfl) ?_
  intro p e s m below meth c A ls hx hb hr hts hown hml hlk hin hsz hA hP hD hK hS hl
  have hown : s.vm.findClass RX3 = some m.cls := hown
  have hl : lv_has ls 6 [(0, .ref a)] := hl
  show W p l e ({ frames := 0, cells := 0, slots := 0, locals := 0 } : Room) s m ([.ref a] : List Value).toArray below meth c s.heap [] 0 0 (MQ below (Qsi D (fun r9 w9 => r9 = D_X3_sumOf n f ∧ w9 = wI Y a n f) A) ([.ref a] : List Value).toArray s 0 0 A) (F0 m 0 ls [])
  refine lv_iconst (v := 0) hx hb dX3_sumOf_0 (by decide) ?_
  refine lv_istore_n (lv' := [(1, .int 0), (0, .ref a)]) hx hb dX3_sumOf_1 rfl hl (by decide) rfl (fun ls hl => ?_)
  refine lv_aload_n hx hb dX3_sumOf_2 rfl (lv_at hl 1 rfl) ?_
  refine lv_astore_n (lv' := [(2, .ref a), (1, .int 0), (0, .ref a)]) hx hb dX3_sumOf_3 rfl hl (by decide) rfl (fun ls hl => ?_)
  refine lv_aload_n hx hb dX3_sumOf_4 rfl (lv_at hl 0 rfl) ?_
  refine va_alen (D := D) hx hb hK.1 hP 0 0 rfl rfl (v := nI n) rfl dX3_sumOf_5 ?_
  refine lv_istore_n (lv' := [(3, .int (nI n)), (2, .ref a), (1, .int 0), (0, .ref a)]) hx hb dX3_sumOf_6 rfl hl (by decide) rfl (fun ls hl => ?_)
  refine lv_iconst (v := 0) hx hb dX3_sumOf_7 (by decide) ?_
  refine lv_istore (lv' := [(4, .int 0), (3, .int (nI n)), (2, .ref a), (1, .int 0), (0, .ref a)]) hx hb dX3_sumOf_8 hl (by decide) rfl (fun ls hl => ?_)
  have loop_10 : ∀ (n_10 k_10 : Nat) (i : Int32) (u : Int32) (H : Heap) (locs : List Loc) (ls : Array Slot), n + 1 ≤ k_10 + n_10 → k_10 ≤ n → i = nI k_10 → va_P D vwCl (wI Y a n f) H → va_D A (wI Y a n f) → va_S A s.heap H locs → lv_has ls 6 [(4, .int i), (3, .int (nI n)), (2, .ref a), (1, .int u), (0, .ref a)] → L_X3_sumOf_10 n f n_10 i u = L_X3_sumOf_10 n f (n + 1) 0 0 → W p l e ({ frames := 0, cells := 0, slots := 0, locals := 0 } : Room) s m ([.ref a] : List Value).toArray below meth c H locs 0 0 (MQ below (Qsi D (fun r9 w9 => r9 = D_X3_sumOf n f ∧ w9 = wI Y a n f) A) ([.ref a] : List Value).toArray s 0 0 A) (F0 m 10 ls []) := by
    intro n_10
    induction n_10 with
    | zero => intro k_10 i u H locs ls hkf hkN_10 ex_10 hP hD hS hl hR_10; exact absurd hkf (by omega)
    | succ n_10 ih_10 =>
      intro k_10 i u H locs ls hkf hkN_10 ex_10 hP hD hS hl hR_10
      refine lv_iload hx hb dX3_sumOf_10 (lv_at hl 0 rfl) ?_
      refine lv_iload_n hx hb dX3_sumOf_12 rfl (lv_at hl 1 rfl) ?_
      refine lv_icmp_ge (tgt := 33) hx hb dX3_sumOf_13 (by decide) (fun c_1 => ?_) (fun c_1 => ?_)
      · have e8 : L_X3_sumOf_10 n f (n_10 + 1) i u = u := by rw [L_X3_sumOf_10, if_pos c_1]
        have e8 := hR_10.symm.trans e8
        have eu : L_X3_sumOf_10 n f (n + 1) 0 0 = u := by rw [e8]
        clear e8 hR_10 ih_10
        refine lv_iload_n hx hb dX3_sumOf_33 rfl (lv_at hl 3 rfl) ?_
        subst eu
        have e9 : D_X3_sumOf n f = (L_X3_sumOf_10 n f (n + 1) 0 0) := by rw [D_X3_sumOf]
        exact ret_i hx hb hr hlk hP hD hS dX3_sumOf_34 ⟨Nat.zero_le _, Nat.zero_le _⟩ ⟨e9.symm, rfl⟩
      · have hk_10 := my_lt ex_10 (show (nI n : Int32) = nI n from rfl) (by omega) hkN_10 c_1
        refine lv_aload_n hx hb dX3_sumOf_16 rfl (lv_at hl 2 rfl) ?_
        refine lv_iload hx hb dX3_sumOf_17 (lv_at hl 0 rfl) ?_
        refine va_iald (D := D) hx hb hK.1 hP 0 0 rfl rfl (by rw [ex_10]; exact vp_in_nI hk_10 (by omega)) dX3_sumOf_19 ?_
        refine lv_istore (lv' := [(5, .int (f i.toNatClampNeg)), (4, .int i), (3, .int (nI n)), (2, .ref a), (1, .int u), (0, .ref a)]) hx hb dX3_sumOf_20 hl (by decide) rfl (fun ls hl => ?_)
        refine lv_iload_n hx hb dX3_sumOf_22 rfl (lv_at hl 4 rfl) ?_
        refine lv_iload hx hb dX3_sumOf_23 (lv_at hl 0 rfl) ?_
        refine lv_iadd hx hb dX3_sumOf_25 ?_
        refine lv_istore_n (lv' := [(1, .int (u + (f i.toNatClampNeg))), (5, .int (f i.toNatClampNeg)), (4, .int i), (3, .int (nI n)), (2, .ref a), (0, .ref a)]) hx hb dX3_sumOf_26 rfl hl (by decide) rfl (fun ls hl => ?_)
        refine lv_iinc (v := i + 1) (lv' := [(4, .int (i + 1)), (1, .int (u + (f i.toNatClampNeg))), (5, .int (f i.toNatClampNeg)), (3, .int (nI n)), (2, .ref a), (0, .ref a)]) hx hb dX3_sumOf_27 hl (k := 2) rfl rfl (by decide) rfl (fun ls hl => ?_)
        refine lv_goto (tgt := 10) hx hb dX3_sumOf_30 (by decide) ?_
        exact ih_10 (k_10 + 1) (i + 1) (u + (f i.toNatClampNeg)) _ _ _ (by omega) (by omega) (by rw [ex_10]; exact nI_1 k_10)  hP hD hS (lv_sub hl [0, 3, 4, 1, 5] rfl) (by rw [L_X3_sumOf_10, if_neg c_1] at hR_10; exact hR_10)
  exact loop_10 (n + 1) 0 0 0 _ _ _ (by omega) (Nat.zero_le _) nI_0.symm  hP hD hS (lv_sub hl [0, 1, 2, 3, 4] rfl) rfl
def V_X3_charactersIn_1 (lf : Int64) : Int64 := (lf.toUInt64 >>> ((8 : Int32).toInt64.toUInt64 &&& Int64.toUInt64 63)).toInt64
def L_X3_charactersIn_5 (ch : Int64) : Nat → (Int32) → (Int64) → (Int32)
  | 0, i, lf => 0
  | n_5 + 1, i, lf => if (lg_cmp lf 0) = 0 then i else (if 8 ≤ i then i else (if (lg_cmp (lf &&& 255) 33) < 0 then 0 else (if (lg_cmp (lf &&& 255) 126) ≤ 0 then (L_X3_charactersIn_5 ch n_5 (i + 1) (V_X3_charactersIn_1 lf)) else 0)))
def D_X3_charactersIn  (ch : Int64) : (Int32) := L_X3_charactersIn_5 ch 9 0 ch
set_option maxHeartbeats 4000000 in
set_option maxRecDepth 100000 in
theorem c_X3_charactersIn (l : Launch) (D : va_G) (Y : YY) (sz : Nat) (ch : Int64) : Met l yX3_charactersIn wsX3_charactersIn ({ frames := 0, cells := 0, slots := 0, locals := 0 } : Room) (va_Pc [.long ch] (Pst D Y sz (([] : va_W)))) ((fun A : Nat → Prop => Qsi D (fun r9 w9 => r9 = D_X3_charactersIn ch ∧ w9 = ([] : va_W)) A) (va_A (([] : va_W)) sz)) 0 0 (va_A (([] : va_W)) sz) := by
  refine ct_in (cc := cX3_charactersIn) (maxL := 7) (ret := (some .int)) (Qc := fun A : Nat → Prop => Qsi D (fun r9 w9 => r9 = D_X3_charactersIn ch ∧ w9 = ([] : va_W)) A) (by decide +kernel) rfl (Nat.le_of_ble_eq_true rfl) ?_
  intro p e s m below meth c A ls hx hb hr hts hown hml hlk hin hsz hA hP hD hK hS hl
  have hown : s.vm.findClass RX3 = some m.cls := hown
  have hl : lv_has ls 7 [(0, .long ch)] := hl
  show W p l e ({ frames := 0, cells := 0, slots := 0, locals := 0 } : Room) s m ([.long ch] : List Value).toArray below meth c s.heap [] 0 0 (MQ below (Qsi D (fun r9 w9 => r9 = D_X3_charactersIn ch ∧ w9 = ([] : va_W)) A) ([.long ch] : List Value).toArray s 0 0 A) (F0 m 0 ls [])
  refine lv_lload_n hx hb dX3_charactersIn_0 rfl (lv_at hl 0 rfl) ?_
  refine lv_lstore_n (lv' := [(2, .long ch), (0, .long ch)]) hx hb dX3_charactersIn_1 rfl hl (by decide) rfl (fun ls hl => ?_)
  refine lv_iconst (v := 0) hx hb dX3_charactersIn_2 (by decide) ?_
  refine lv_istore (lv' := [(4, .int 0), (2, .long ch), (0, .long ch)]) hx hb dX3_charactersIn_3 hl (by decide) rfl (fun ls hl => ?_)
  have loop_5 : ∀ (n_5 k_5 : Nat) (i : Int32) (lf : Int64) (H : Heap) (locs : List Loc) (ls : Array Slot), 9 ≤ k_5 + n_5 → k_5 ≤ 8 → i = nI k_5 → va_P D vwCl (([] : va_W)) H → va_D A (([] : va_W)) → va_S A s.heap H locs → lv_has ls 7 [(4, .int i), (2, .long lf), (0, .long ch)] → L_X3_charactersIn_5 ch n_5 i lf = D_X3_charactersIn ch → W p l e ({ frames := 0, cells := 0, slots := 0, locals := 0 } : Room) s m ([.long ch] : List Value).toArray below meth c H locs 0 0 (MQ below (Qsi D (fun r9 w9 => r9 = D_X3_charactersIn ch ∧ w9 = ([] : va_W)) A) ([.long ch] : List Value).toArray s 0 0 A) (F0 m 5 ls []) := by
    intro n_5
    induction n_5 with
    | zero => intro k_5 i lf H locs ls hkf hkN_5 ex_5 hP hD hS hl hR_5; exact absurd hkf (by omega)
    | succ n_5 ih_5 =>
      intro k_5 i lf H locs ls hkf hkN_5 ex_5 hP hD hS hl hR_5
      refine lv_lload_n hx hb dX3_charactersIn_5 rfl (lv_at hl 1 rfl) ?_
      refine lv_lconst (v := 0) hx hb dX3_charactersIn_6 (by decide) ?_
      refine W.lcmp hx hb dX3_charactersIn_7 ?_
      refine lv_if_eq (tgt := 56) hx hb dX3_charactersIn_8 (by decide) (fun c_1 => ?_) (fun c_1 => ?_)
      · refine lv_iload hx hb dX3_charactersIn_56 (lv_at hl 0 rfl) ?_
        have e9 : L_X3_charactersIn_5 ch (n_5 + 1) i lf = i := by rw [L_X3_charactersIn_5, if_pos c_1]
        have e9 := hR_5.symm.trans e9
        exact ret_i hx hb hr hlk hP hD hS dX3_charactersIn_58 ⟨Nat.zero_le _, Nat.zero_le _⟩ ⟨e9.symm, rfl⟩
      · refine lv_iload hx hb dX3_charactersIn_11 (lv_at hl 0 rfl) ?_
        refine lv_bipush (v := 8) hx hb dX3_charactersIn_13 (by decide) ?_
        refine lv_icmp_ge (tgt := 56) hx hb dX3_charactersIn_15 (by decide) (fun c_2 => ?_) (fun c_2 => ?_)
        · refine lv_iload hx hb dX3_charactersIn_56 (lv_at hl 0 rfl) ?_
          have e9 : L_X3_charactersIn_5 ch (n_5 + 1) i lf = i := by rw [L_X3_charactersIn_5, if_neg c_1, if_pos c_2]
          have e9 := hR_5.symm.trans e9
          exact ret_i hx hb hr hlk hP hD hS dX3_charactersIn_58 ⟨Nat.zero_le _, Nat.zero_le _⟩ ⟨e9.symm, rfl⟩
        · have hk_5 := my_lt ex_5 (show (8 : Int32) = nI 8 from rfl) (by decide) hkN_5 c_2
          refine lv_lload_n hx hb dX3_charactersIn_18 rfl (lv_at hl 1 rfl) ?_
          refine lv_ldc2 (v := 255) hx hb hown (hts (.constantLong RX3 178 (255)) (by decide +kernel)) dX3_charactersIn_19 ?_
          refine lv_land hx hb dX3_charactersIn_22 ?_
          refine lv_lstore (lv' := [(5, .long (lf &&& 255)), (4, .int i), (2, .long lf), (0, .long ch)]) hx hb dX3_charactersIn_23 hl (by decide) rfl (fun ls hl => ?_)
          refine lv_lload hx hb dX3_charactersIn_25 (lv_at hl 0 rfl) ?_
          refine lv_ldc2 (v := 33) hx hb hown (hts (.constantLong RX3 180 (33)) (by decide +kernel)) dX3_charactersIn_27 ?_
          refine W.lcmp hx hb dX3_charactersIn_30 ?_
          refine lv_if_lt (tgt := 43) hx hb dX3_charactersIn_31 (by decide) (fun c_3 => ?_) (fun c_3 => ?_)
          · refine lv_iconst (v := 0) hx hb dX3_charactersIn_43 (by decide) ?_
            have e9 : L_X3_charactersIn_5 ch (n_5 + 1) i lf = 0 := by rw [L_X3_charactersIn_5, if_neg c_1, if_neg c_2, if_pos c_3]
            have e9 := hR_5.symm.trans e9
            exact ret_i hx hb hr hlk hP hD hS dX3_charactersIn_44 ⟨Nat.zero_le _, Nat.zero_le _⟩ ⟨e9.symm, rfl⟩
          · refine lv_lload hx hb dX3_charactersIn_34 (lv_at hl 0 rfl) ?_
            refine lv_ldc2 (v := 126) hx hb hown (hts (.constantLong RX3 182 (126)) (by decide +kernel)) dX3_charactersIn_36 ?_
            refine W.lcmp hx hb dX3_charactersIn_39 ?_
            refine lv_if_le (tgt := 45) hx hb dX3_charactersIn_40 (by decide) (fun c_4 => ?_) (fun c_4 => ?_)
            · refine lv_lload_n hx hb dX3_charactersIn_45 rfl (lv_at hl 2 rfl) ?_
              refine lv_bipush (v := 8) hx hb dX3_charactersIn_46 (by decide) ?_
              refine lv_lushr (v := (lf.toUInt64 >>> ((8 : Int32).toInt64.toUInt64 &&& Int64.toUInt64 63)).toInt64) hx hb dX3_charactersIn_48 rfl ?_
              refine lv_lstore_n (lv' := [(2, .long (V_X3_charactersIn_1 lf)), (5, .long (lf &&& 255)), (4, .int i), (0, .long ch)]) hx hb dX3_charactersIn_49 rfl hl (by decide) rfl (fun ls hl => ?_)
              refine lv_iinc (v := i + 1) (lv' := [(4, .int (i + 1)), (2, .long (V_X3_charactersIn_1 lf)), (5, .long (lf &&& 255)), (0, .long ch)]) hx hb dX3_charactersIn_50 hl (k := 2) rfl rfl (by decide) rfl (fun ls hl => ?_)
              refine lv_goto (tgt := 5) hx hb dX3_charactersIn_53 (by decide) ?_
              exact ih_5 (k_5 + 1) (i + 1) (V_X3_charactersIn_1 lf) _ _ _ (by omega) (by omega) (by rw [ex_5]; exact nI_1 k_5)  hP hD hS (lv_sub hl [0, 1, 3] rfl) (by rw [L_X3_charactersIn_5, if_neg c_1, if_neg c_2, if_neg c_3, if_pos c_4] at hR_5; exact hR_5)
            · refine lv_iconst (v := 0) hx hb dX3_charactersIn_43 (by decide) ?_
              have e9 : L_X3_charactersIn_5 ch (n_5 + 1) i lf = 0 := by rw [L_X3_charactersIn_5, if_neg c_1, if_neg c_2, if_neg c_3, if_neg c_4]
              have e9 := hR_5.symm.trans e9
              exact ret_i hx hb hr hlk hP hD hS dX3_charactersIn_44 ⟨Nat.zero_le _, Nat.zero_le _⟩ ⟨e9.symm, rfl⟩
  exact loop_5 9 0 0 ch _ _ _ (by omega) (Nat.zero_le _) nI_0.symm  hP hD hS (lv_sub hl [0, 1, 2] rfl) (by rw [D_X3_charactersIn])

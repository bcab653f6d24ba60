theorem fs_set {g v : Int32} (h : ¬ D_X4_isSetting g v = 0) : vp_in g 312 := by
  unfold D_X4_isSetting at h
  by_cases c : D_X4_in g.toInt64 0 2 = 0
  · rw [if_pos c] at h
    exact absurd rfl h
  · exact my_wid (f4_in c (by decide) : vp_in g 3) (by decide) (by decide)
def T_X4_changes_2 (i : Int32) (M1 : Nat → Nat → Int32) : Nat → Nat → Int32 := s2 M1 2 ((312 * (M1 9 0)) + i).toNatClampNeg (M1 0 i.toNatClampNeg)
def L_X4_changes_52 (M : Nat → Nat → Int32) : Nat → (Int32) → (Nat → Nat → Int32) → (Nat → Nat → Int32)
  | 0, i, M1 => M1
  | n_52 + 1, i, M1 => if 312 ≤ i then M1 else (L_X4_changes_52 M n_52 (i + 1) (T_X4_changes_2 i M1))
def T_X4_changes_1 (M1 : Nat → Nat → Int32) : Nat → Nat → Int32 := s2 M1 9 0 ((M1 9 0) + 1)
def D_X4_changes (M : Nat → Nat → Int32)  : (Nat → Nat → Int32) := (T_X4_changes_1 (L_X4_changes_52 M 313 0 M))
set_option maxRecDepth 100000 in
theorem in_X4_changes_RX4 : ∀ w ∈ u_ws RX4 TX4 13, w ∈ wsX4_changes := by decide +kernel
set_option maxHeartbeats 4000000 in
set_option maxRecDepth 100000 in
theorem c_X4_changes (l : Launch) (D : va_G) (Y : YY) (sz : Nat) (q : Nat → Nat) (M : Nat → Nat → Int32) (mo : Nat) (h0 : M 9 0 = 0) : Met l yX4_changes wsX4_changes ({ frames := 0, cells := 0, slots := 0, locals := 0 } : Room) (va_Pc [.ref mo] (Pst D Y sz (wM Y mo q M))) ((fun A : Nat → Prop => Qsv D (fun w9 => w9 = wM Y mo q (D_X4_changes M)) A) (va_A (wM Y mo q M) sz)) 0 0 (va_A (wM Y mo q M) sz) := by
  refine ct_in (cc := cX4_changes) (maxL := 2) (ret := none) (Qc := fun A : Nat → Prop => Qsv D (fun w9 => w9 = wM Y mo q (D_X4_changes M)) A) (by decide +kernel) rfl (Nat.le_of_ble_eq_true rfl) ?_
  intro p e s m below meth c A ls hx hb hr hts hown hml hlk hin hsz hA hP hD hK hS hl
  have hown : s.vm.findClass RX4 = some m.cls := hown
  have hl : lv_has ls 2 [(0, .ref mo)] := hl
  show W p l e ({ frames := 0, cells := 0, slots := 0, locals := 0 } : Room) s m ([.ref mo] : List Value).toArray below meth c s.heap [] 0 0 (MQ below (Qsv D (fun w9 => w9 = wM Y mo q (D_X4_changes M)) A) ([.ref mo] : List Value).toArray s 0 0 A) (F0 m 0 ls [])
  refine lv_aload_n hx hb dX4_changes_0 rfl (lv_at hl 0 rfl) ?_
  refine va_get (D := D) (ci := 4) (v := .int (M 9 0)) (C := RX4) (T := TX4) (N := 13) hx hb hts in_X4_changes_RX4 hown hK.1 hP 0 rfl rfl 3 (by decide) (hts (.fieldLink RX4 38 "NineDancersModel" "historyLong" "I") (by decide +kernel)) (fun _ h9 => h9) rfl dX4_changes_1 ?_
  refine lv_bipush (v := 6) hx hb dX4_changes_4 (by decide) ?_
  refine lv_icmp_ne (tgt := 50) hx hb dX4_changes_6 (by decide) (fun c_1 => ?_) (fun c_1 => ?_)
  · refine lv_iconst (v := 0) hx hb dX4_changes_50 (by decide) ?_
    refine lv_istore_n (lv' := [(1, .int 0), (0, .ref mo)]) hx hb dX4_changes_51 rfl hl (by decide) rfl (fun ls hl => ?_)
    have loop_52 : ∀ (n_52 k_52 : Nat) (i : Int32) (M1 : Nat → Nat → Int32) (H : Heap) (locs : List Loc) (ls : Array Slot), 313 ≤ k_52 + n_52 → k_52 ≤ 312 → i = nI k_52 → (M1 9 0 = 0) → va_P D vwCl (wM Y mo q M1) H → va_D A (wM Y mo q M1) → va_S A s.heap H locs → lv_has ls 2 [(1, .int i), (0, .ref mo)] → L_X4_changes_52 M n_52 i M1 = L_X4_changes_52 M 313 0 M → W p l e ({ frames := 0, cells := 0, slots := 0, locals := 0 } : Room) s m ([.ref mo] : List Value).toArray below meth c H locs 0 0 (MQ below (Qsv D (fun w9 => w9 = wM Y mo q (D_X4_changes M)) A) ([.ref mo] : List Value).toArray s 0 0 A) (F0 m 52 ls []) := by
      intro n_52
      induction n_52 with
      | zero => intro k_52 i M1 H locs ls hkf hkN_52 ex_52 hM hP hD hS hl hR_52; exact absurd hkf (by omega)
      | succ n_52 ih_52 =>
        intro k_52 i M1 H locs ls hkf hkN_52 ex_52 hM hP hD hS hl hR_52
        refine lv_iload_n hx hb dX4_changes_52 rfl (lv_at hl 0 rfl) ?_
        refine lv_sipush (v := 312) hx hb dX4_changes_53 (by decide) ?_
        refine lv_icmp_ge (tgt := 86) hx hb dX4_changes_56 (by decide) (fun c_2 => ?_) (fun c_2 => ?_)
        · have e8 : L_X4_changes_52 M (n_52 + 1) i M1 = M1 := by rw [L_X4_changes_52, if_pos c_2]
          have e8 := hR_52.symm.trans e8
          have eM1 : L_X4_changes_52 M 313 0 M = M1 := by rw [e8]
          clear e8 hR_52 ih_52
          refine lv_aload_n hx hb dX4_changes_86 rfl (lv_at hl 1 rfl) ?_
          refine lv_dup hx hb dX4_changes_87 rfl ?_
          refine va_get (D := D) (ci := 4) (v := .int (M1 9 0)) (C := RX4) (T := TX4) (N := 13) hx hb hts in_X4_changes_RX4 hown hK.1 hP 0 rfl rfl 3 (by decide) (hts (.fieldLink RX4 38 "NineDancersModel" "historyLong" "I") (by decide +kernel)) (fun _ h9 => h9) rfl dX4_changes_88 ?_
          refine lv_iconst (v := 1) hx hb dX4_changes_91 (by decide) ?_
          refine lv_iadd hx hb dX4_changes_92 ?_
          refine va_put (D := D) (ci := 4) (v := .int ((M1 9 0) + 1)) (ty := .int) (C := RX4) (T := TX4) (N := 13) hx hb hts in_X4_changes_RX4 tyX4 tyX4_ok nmX4 hown hK.1 hP hD hS 0 rfl rfl 3 (by decide) (hts (.fieldLink RX4 38 "NineDancersModel" "historyLong" "I") (by decide +kernel)) (fun _ h9 => h9) rfl (by decide +kernel) rfl rfl (Nat.le_of_ble_eq_true rfl) dX4_changes_93 (fun H locs hP hD hS => ?_)
          have hP : va_P D vwCl (wM Y mo q (T_X4_changes_1 M1)) H := hP
          have hD : va_D A (wM Y mo q (T_X4_changes_1 M1)) := hD
          obtain ⟨S_1, eS_1⟩ : ∃ z9, T_X4_changes_1 M1 = z9 := ⟨_, rfl⟩
          rw [eS_1] at hP hD
          subst eS_1
          subst eM1
          have e9 : D_X4_changes M = (T_X4_changes_1 (L_X4_changes_52 M 313 0 M)) := by rw [D_X4_changes]
          exact ret_v hx hb hr hlk hP hD hS dX4_changes_96 ⟨Nat.zero_le _, Nat.zero_le _⟩ (by rw [e9])
        · have hk_52 := my_lt ex_52 (show (312 : Int32) = nI 312 from rfl) (by decide) hkN_52 c_2
          refine lv_aload_n hx hb dX4_changes_59 rfl (lv_at hl 1 rfl) ?_
          refine va_get (D := D) (ci := 4) (v := .ref (q 2)) (C := RX4) (T := TX4) (N := 13) hx hb hts in_X4_changes_RX4 hown hK.1 hP 0 rfl rfl 2 (by decide) (hts (.fieldLink RX4 16 "NineDancersModel" "history" "[I") (by decide +kernel)) (fun _ h9 => h9) rfl dX4_changes_60 ?_
          refine lv_sipush (v := 312) hx hb dX4_changes_63 (by decide) ?_
          refine lv_aload_n hx hb dX4_changes_66 rfl (lv_at hl 1 rfl) ?_
          refine va_get (D := D) (ci := 4) (v := .int (M1 9 0)) (C := RX4) (T := TX4) (N := 13) hx hb hts in_X4_changes_RX4 hown hK.1 hP 0 rfl rfl 3 (by decide) (hts (.fieldLink RX4 38 "NineDancersModel" "historyLong" "I") (by decide +kernel)) (fun _ h9 => h9) rfl dX4_changes_67 ?_
          refine lv_imul hx hb dX4_changes_70 ?_
          refine lv_iload_n hx hb dX4_changes_71 rfl (lv_at hl 0 rfl) ?_
          refine lv_iadd hx hb dX4_changes_72 ?_
          refine lv_aload_n hx hb dX4_changes_73 rfl (lv_at hl 1 rfl) ?_
          refine va_get (D := D) (ci := 4) (v := .ref (q 0)) (C := RX4) (T := TX4) (N := 13) hx hb hts in_X4_changes_RX4 hown hK.1 hP 0 rfl rfl 0 (by decide) (hts (.fieldLink RX4 7 "NineDancersModel" "all" "[I") (by decide +kernel)) (fun _ h9 => h9) rfl dX4_changes_74 ?_
          refine lv_iload_n hx hb dX4_changes_77 rfl (lv_at hl 0 rfl) ?_
          refine va_iald (D := D) hx hb hK.1 hP 1 0 rfl rfl (by rw [ex_52]; exact vp_in_nI hk_52 (by decide)) dX4_changes_78 ?_
          refine va_iast (D := D) hx hb hK.1 hP hD hS 3 0 rfl rfl (by rw [hM]; exact my_off 0 (n := 312) (by rw [ex_52]; exact vp_in_nI hk_52 (by decide)) (by decide) (by decide)) dX4_changes_79 (fun H locs hP hD hS => ?_)
          have hP : va_P D vwCl (wM Y mo q (T_X4_changes_2 i M1)) H := hP
          have hD : va_D A (wM Y mo q (T_X4_changes_2 i M1)) := hD
          obtain ⟨S_2, eS_2⟩ : ∃ z9, T_X4_changes_2 i M1 = z9 := ⟨_, rfl⟩
          rw [eS_2] at hP hD
          refine lv_iinc (v := i + 1) (lv' := [(1, .int (i + 1)), (0, .ref mo)]) hx hb dX4_changes_80 hl (k := 0) rfl rfl (by decide) rfl (fun ls hl => ?_)
          refine lv_goto (tgt := 52) hx hb dX4_changes_83 (by decide) ?_
          subst eS_2
          exact ih_52 (k_52 + 1) (i + 1) (T_X4_changes_2 i M1) _ _ _ (by omega) (by omega) (by rw [ex_52]; exact nI_1 k_52) hM hP hD hS (lv_sub hl [0, 1] rfl) (by rw [L_X4_changes_52, if_neg c_2] at hR_52; exact hR_52)
    exact loop_52 313 0 0 M _ _ _ (by omega) (Nat.zero_le _) nI_0.symm h0 hP hD hS (lv_sub hl [0, 1] rfl) rfl
  · exact absurd c_1 (by rw [h0]; decide)
def T_X4_keeps_1 (i : Int32) (M1 : Nat → Nat → Int32) : Nat → Nat → Int32 := s2 M1 1 i.toNatClampNeg (M1 0 i.toNatClampNeg)
def L_X4_keeps_2 (M : Nat → Nat → Int32) : Nat → (Int32) → (Nat → Nat → Int32) → (Nat → Nat → Int32)
  | 0, i, M1 => M1
  | n_2 + 1, i, M1 => if 312 ≤ i then M1 else (L_X4_keeps_2 M n_2 (i + 1) (T_X4_keeps_1 i M1))
def D_X4_keeps (M : Nat → Nat → Int32)  : (Nat → Nat → Int32) := (L_X4_keeps_2 M 313 0 M)
set_option maxRecDepth 100000 in
theorem in_X4_keeps_RX4 : ∀ w ∈ u_ws RX4 TX4 13, w ∈ wsX4_keeps := by decide +kernel
set_option maxHeartbeats 4000000 in
set_option maxRecDepth 100000 in
theorem c_X4_keeps (l : Launch) (D : va_G) (Y : YY) (sz : Nat) (q : Nat → Nat) (M : Nat → Nat → Int32) (mo : Nat) : Met l yX4_keeps wsX4_keeps ({ frames := 0, cells := 0, slots := 0, locals := 0 } : Room) (va_Pc [.ref mo] (Pst D Y sz (wM Y mo q M))) ((fun A : Nat → Prop => Qsv D (fun w9 => w9 = wM Y mo q (D_X4_keeps M)) A) (va_A (wM Y mo q M) sz)) 0 0 (va_A (wM Y mo q M) sz) := by
  refine ct_in (cc := cX4_keeps) (maxL := 2) (ret := none) (Qc := fun A : Nat → Prop => Qsv D (fun w9 => w9 = wM Y mo q (D_X4_keeps M)) A) (by decide +kernel) rfl (Nat.le_of_ble_eq_true rfl) ?_
  intro p e s m below meth c A ls hx hb hr hts hown hml hlk hin hsz hA hP hD hK hS hl
  have hown : s.vm.findClass RX4 = some m.cls := hown
  have hl : lv_has ls 2 [(0, .ref mo)] := hl
  show W p l e ({ frames := 0, cells := 0, slots := 0, locals := 0 } : Room) s m ([.ref mo] : List Value).toArray below meth c s.heap [] 0 0 (MQ below (Qsv D (fun w9 => w9 = wM Y mo q (D_X4_keeps M)) A) ([.ref mo] : List Value).toArray s 0 0 A) (F0 m 0 ls [])
  refine lv_iconst (v := 0) hx hb dX4_keeps_0 (by decide) ?_
  refine lv_istore_n (lv' := [(1, .int 0), (0, .ref mo)]) hx hb dX4_keeps_1 rfl hl (by decide) rfl (fun ls hl => ?_)
  have loop_2 : ∀ (n_2 k_2 : Nat) (i : Int32) (M1 : Nat → Nat → Int32) (H : Heap) (locs : List Loc) (ls : Array Slot), 313 ≤ k_2 + n_2 → k_2 ≤ 312 → i = nI k_2 → va_P D vwCl (wM Y mo q M1) H → va_D A (wM Y mo q M1) → va_S A s.heap H locs → lv_has ls 2 [(1, .int i), (0, .ref mo)] → L_X4_keeps_2 M n_2 i M1 = L_X4_keeps_2 M 313 0 M → W p l e ({ frames := 0, cells := 0, slots := 0, locals := 0 } : Room) s m ([.ref mo] : List Value).toArray below meth c H locs 0 0 (MQ below (Qsv D (fun w9 => w9 = wM Y mo q (D_X4_keeps M)) A) ([.ref mo] : List Value).toArray s 0 0 A) (F0 m 2 ls []) := by
    intro n_2
    induction n_2 with
    | zero => intro k_2 i M1 H locs ls hkf hkN_2 ex_2 hP hD hS hl hR_2; exact absurd hkf (by omega)
    | succ n_2 ih_2 =>
      intro k_2 i M1 H locs ls hkf hkN_2 ex_2 hP hD hS hl hR_2
      refine lv_iload_n hx hb dX4_keeps_2 rfl (lv_at hl 0 rfl) ?_
      refine lv_sipush (v := 312) hx hb dX4_keeps_3 (by decide) ?_
      refine lv_icmp_ge (tgt := 27) hx hb dX4_keeps_6 (by decide) (fun c_1 => ?_) (fun c_1 => ?_)
      · have e8 : L_X4_keeps_2 M (n_2 + 1) i M1 = M1 := by rw [L_X4_keeps_2, if_pos c_1]
        have e8 := hR_2.symm.trans e8
        have eM1 : L_X4_keeps_2 M 313 0 M = M1 := by rw [e8]
        clear e8 hR_2 ih_2
        subst eM1
        have e9 : D_X4_keeps M = (L_X4_keeps_2 M 313 0 M) := by rw [D_X4_keeps]
        exact ret_v hx hb hr hlk hP hD hS dX4_keeps_27 ⟨Nat.zero_le _, Nat.zero_le _⟩ (by rw [e9])
      · have hk_2 := my_lt ex_2 (show (312 : Int32) = nI 312 from rfl) (by decide) hkN_2 c_1
        refine lv_aload_n hx hb dX4_keeps_9 rfl (lv_at hl 1 rfl) ?_
        refine va_get (D := D) (ci := 4) (v := .ref (q 1)) (C := RX4) (T := TX4) (N := 13) hx hb hts in_X4_keeps_RX4 hown hK.1 hP 0 rfl rfl 1 (by decide) (hts (.fieldLink RX4 13 "NineDancersModel" "kept" "[I") (by decide +kernel)) (fun _ h9 => h9) rfl dX4_keeps_10 ?_
        refine lv_iload_n hx hb dX4_keeps_13 rfl (lv_at hl 0 rfl) ?_
        refine lv_aload_n hx hb dX4_keeps_14 rfl (lv_at hl 1 rfl) ?_
        refine va_get (D := D) (ci := 4) (v := .ref (q 0)) (C := RX4) (T := TX4) (N := 13) hx hb hts in_X4_keeps_RX4 hown hK.1 hP 0 rfl rfl 0 (by decide) (hts (.fieldLink RX4 7 "NineDancersModel" "all" "[I") (by decide +kernel)) (fun _ h9 => h9) rfl dX4_keeps_15 ?_
        refine lv_iload_n hx hb dX4_keeps_18 rfl (lv_at hl 0 rfl) ?_
        refine va_iald (D := D) hx hb hK.1 hP 1 0 rfl rfl (by rw [ex_2]; exact vp_in_nI hk_2 (by decide)) dX4_keeps_19 ?_
        refine va_iast (D := D) hx hb hK.1 hP hD hS 2 0 rfl rfl (by rw [ex_2]; exact vp_in_nI hk_2 (by decide)) dX4_keeps_20 (fun H locs hP hD hS => ?_)
        have hP : va_P D vwCl (wM Y mo q (T_X4_keeps_1 i M1)) H := hP
        have hD : va_D A (wM Y mo q (T_X4_keeps_1 i M1)) := hD
        obtain ⟨S_1, eS_1⟩ : ∃ z9, T_X4_keeps_1 i M1 = z9 := ⟨_, rfl⟩
        rw [eS_1] at hP hD
        refine lv_iinc (v := i + 1) (lv' := [(1, .int (i + 1)), (0, .ref mo)]) hx hb dX4_keeps_21 hl (k := 0) rfl rfl (by decide) rfl (fun ls hl => ?_)
        refine lv_goto (tgt := 2) hx hb dX4_keeps_24 (by decide) ?_
        subst eS_1
        exact ih_2 (k_2 + 1) (i + 1) (T_X4_keeps_1 i M1) _ _ _ (by omega) (by omega) (by rw [ex_2]; exact nI_1 k_2)  hP hD hS (lv_sub hl [0, 1] rfl) (by rw [L_X4_keeps_2, if_neg c_1] at hR_2; exact hR_2)
  exact loop_2 313 0 0 M _ _ _ (by omega) (Nat.zero_le _) nI_0.symm  hP hD hS (lv_sub hl [0, 1] rfl) rfl
def T_X4_comesBack_1 (i : Int32) (M1 : Nat → Nat → Int32) : Nat → Nat → Int32 := s2 M1 0 i.toNatClampNeg (M1 1 i.toNatClampNeg)
def L_X4_comesBack_2 (M : Nat → Nat → Int32) : Nat → (Int32) → (Nat → Nat → Int32) → (Nat → Nat → Int32)
  | 0, i, M1 => M1
  | n_2 + 1, i, M1 => if 312 ≤ i then M1 else (L_X4_comesBack_2 M n_2 (i + 1) (T_X4_comesBack_1 i M1))
def D_X4_comesBack (M : Nat → Nat → Int32)  : (Nat → Nat → Int32) := (L_X4_comesBack_2 M 313 0 M)
set_option maxRecDepth 100000 in
theorem in_X4_comesBack_RX4 : ∀ w ∈ u_ws RX4 TX4 13, w ∈ wsX4_comesBack := by decide +kernel
set_option maxHeartbeats 4000000 in
set_option maxRecDepth 100000 in
theorem c_X4_comesBack (l : Launch) (D : va_G) (Y : YY) (sz : Nat) (q : Nat → Nat) (M : Nat → Nat → Int32) (mo : Nat) : Met l yX4_comesBack wsX4_comesBack ({ frames := 0, cells := 0, slots := 0, locals := 0 } : Room) (va_Pc [.ref mo] (Pst D Y sz (wM Y mo q M))) ((fun A : Nat → Prop => Qsv D (fun w9 => w9 = wM Y mo q (D_X4_comesBack M)) A) (va_A (wM Y mo q M) sz)) 0 0 (va_A (wM Y mo q M) sz) := by
  refine ct_in (cc := cX4_comesBack) (maxL := 2) (ret := none) (Qc := fun A : Nat → Prop => Qsv D (fun w9 => w9 = wM Y mo q (D_X4_comesBack M)) A) (by decide +kernel) rfl (Nat.le_of_ble_eq_true rfl) ?_
  intro p e s m below meth c A ls hx hb hr hts hown hml hlk hin hsz hA hP hD hK hS hl
  have hown : s.vm.findClass RX4 = some m.cls := hown
  have hl : lv_has ls 2 [(0, .ref mo)] := hl
  show W p l e ({ frames := 0, cells := 0, slots := 0, locals := 0 } : Room) s m ([.ref mo] : List Value).toArray below meth c s.heap [] 0 0 (MQ below (Qsv D (fun w9 => w9 = wM Y mo q (D_X4_comesBack M)) A) ([.ref mo] : List Value).toArray s 0 0 A) (F0 m 0 ls [])
  refine lv_iconst (v := 0) hx hb dX4_comesBack_0 (by decide) ?_
  refine lv_istore_n (lv' := [(1, .int 0), (0, .ref mo)]) hx hb dX4_comesBack_1 rfl hl (by decide) rfl (fun ls hl => ?_)
  have loop_2 : ∀ (n_2 k_2 : Nat) (i : Int32) (M1 : Nat → Nat → Int32) (H : Heap) (locs : List Loc) (ls : Array Slot), 313 ≤ k_2 + n_2 → k_2 ≤ 312 → i = nI k_2 → va_P D vwCl (wM Y mo q M1) H → va_D A (wM Y mo q M1) → va_S A s.heap H locs → lv_has ls 2 [(1, .int i), (0, .ref mo)] → L_X4_comesBack_2 M n_2 i M1 = L_X4_comesBack_2 M 313 0 M → W p l e ({ frames := 0, cells := 0, slots := 0, locals := 0 } : Room) s m ([.ref mo] : List Value).toArray below meth c H locs 0 0 (MQ below (Qsv D (fun w9 => w9 = wM Y mo q (D_X4_comesBack M)) A) ([.ref mo] : List Value).toArray s 0 0 A) (F0 m 2 ls []) := by
    intro n_2
    induction n_2 with
    | zero => intro k_2 i M1 H locs ls hkf hkN_2 ex_2 hP hD hS hl hR_2; exact absurd hkf (by omega)
    | succ n_2 ih_2 =>
      intro k_2 i M1 H locs ls hkf hkN_2 ex_2 hP hD hS hl hR_2
      refine lv_iload_n hx hb dX4_comesBack_2 rfl (lv_at hl 0 rfl) ?_
      refine lv_sipush (v := 312) hx hb dX4_comesBack_3 (by decide) ?_
      refine lv_icmp_ge (tgt := 27) hx hb dX4_comesBack_6 (by decide) (fun c_1 => ?_) (fun c_1 => ?_)
      · have e8 : L_X4_comesBack_2 M (n_2 + 1) i M1 = M1 := by rw [L_X4_comesBack_2, if_pos c_1]
        have e8 := hR_2.symm.trans e8
        have eM1 : L_X4_comesBack_2 M 313 0 M = M1 := by rw [e8]
        clear e8 hR_2 ih_2
        subst eM1
        have e9 : D_X4_comesBack M = (L_X4_comesBack_2 M 313 0 M) := by rw [D_X4_comesBack]
        exact ret_v hx hb hr hlk hP hD hS dX4_comesBack_27 ⟨Nat.zero_le _, Nat.zero_le _⟩ (by rw [e9])
      · have hk_2 := my_lt ex_2 (show (312 : Int32) = nI 312 from rfl) (by decide) hkN_2 c_1
        refine lv_aload_n hx hb dX4_comesBack_9 rfl (lv_at hl 1 rfl) ?_
        refine va_get (D := D) (ci := 4) (v := .ref (q 0)) (C := RX4) (T := TX4) (N := 13) hx hb hts in_X4_comesBack_RX4 hown hK.1 hP 0 rfl rfl 0 (by decide) (hts (.fieldLink RX4 7 "NineDancersModel" "all" "[I") (by decide +kernel)) (fun _ h9 => h9) rfl dX4_comesBack_10 ?_
        refine lv_iload_n hx hb dX4_comesBack_13 rfl (lv_at hl 0 rfl) ?_
        refine lv_aload_n hx hb dX4_comesBack_14 rfl (lv_at hl 1 rfl) ?_
        refine va_get (D := D) (ci := 4) (v := .ref (q 1)) (C := RX4) (T := TX4) (N := 13) hx hb hts in_X4_comesBack_RX4 hown hK.1 hP 0 rfl rfl 1 (by decide) (hts (.fieldLink RX4 13 "NineDancersModel" "kept" "[I") (by decide +kernel)) (fun _ h9 => h9) rfl dX4_comesBack_15 ?_
        refine lv_iload_n hx hb dX4_comesBack_18 rfl (lv_at hl 0 rfl) ?_
        refine va_iald (D := D) hx hb hK.1 hP 2 0 rfl rfl (by rw [ex_2]; exact vp_in_nI hk_2 (by decide)) dX4_comesBack_19 ?_
        refine va_iast (D := D) hx hb hK.1 hP hD hS 1 0 rfl rfl (by rw [ex_2]; exact vp_in_nI hk_2 (by decide)) dX4_comesBack_20 (fun H locs hP hD hS => ?_)
        have hP : va_P D vwCl (wM Y mo q (T_X4_comesBack_1 i M1)) H := hP
        have hD : va_D A (wM Y mo q (T_X4_comesBack_1 i M1)) := hD
        obtain ⟨S_1, eS_1⟩ : ∃ z9, T_X4_comesBack_1 i M1 = z9 := ⟨_, rfl⟩
        rw [eS_1] at hP hD
        refine lv_iinc (v := i + 1) (lv' := [(1, .int (i + 1)), (0, .ref mo)]) hx hb dX4_comesBack_21 hl (k := 0) rfl rfl (by decide) rfl (fun ls hl => ?_)
        refine lv_goto (tgt := 2) hx hb dX4_comesBack_24 (by decide) ?_
        subst eS_1
        exact ih_2 (k_2 + 1) (i + 1) (T_X4_comesBack_1 i M1) _ _ _ (by omega) (by omega) (by rw [ex_2]; exact nI_1 k_2)  hP hD hS (lv_sub hl [0, 1] rfl) (by rw [L_X4_comesBack_2, if_neg c_1] at hR_2; exact hR_2)
  exact loop_2 313 0 0 M _ _ _ (by omega) (Nat.zero_le _) nI_0.symm  hP hD hS (lv_sub hl [0, 1] rfl) rfl
def T_X4_set_1 (g : Int32) (v : Int32) (S_1 : Nat → Nat → Int32) : Nat → Nat → Int32 := s2 S_1 0 g.toNatClampNeg v
def D_X4_set (M : Nat → Nat → Int32) (g : Int32) (v : Int32) : (Int32) × (Nat → Nat → Int32) := if (D_X4_isSetting g v) = 0 then ((-1000002), M) else ((D_X4_changes M) 0 g.toNatClampNeg, (T_X4_set_1 g v (D_X4_changes M)))
set_option maxRecDepth 100000 in
theorem in_X4_set_RX4 : ∀ w ∈ u_ws RX4 TX4 13, w ∈ wsX4_set := by decide +kernel
set_option maxHeartbeats 4000000 in
set_option maxRecDepth 100000 in
theorem c_X4_set (l : Launch) (D : va_G) (Y : YY) (sz : Nat) (q : Nat → Nat) (M : Nat → Nat → Int32) (mo : Nat) (g : Int32) (v : Int32) (h0 : M 9 0 = 0) : Met l yX4_set wsX4_set ({ frames := 2, cells := 0, slots := 0, locals := 46 } : Room) (va_Pc [.ref mo, .int g, .int v] (Pst D Y sz (wM Y mo q M))) ((fun A : Nat → Prop => Qsi D (fun r9 w9 => r9 = (D_X4_set M g v).1 ∧ w9 = wM Y mo q ((D_X4_set M g v).2)) A) (va_A (wM Y mo q M) sz)) 0 0 (va_A (wM Y mo q M) sz) := by
  refine ct_in (cc := cX4_set) (maxL := 4) (ret := (some .int)) (Qc := fun A : Nat → Prop => Qsi D (fun r9 w9 => r9 = (D_X4_set M g v).1 ∧ w9 = wM Y mo q ((D_X4_set M g v).2)) A) (by decide +kernel) rfl (Nat.le_of_ble_eq_true rfl) ?_
  intro p e s m below meth c A ls hx hb hr hts hown hml hlk hin hsz hA hP hD hK hS hl
  have hown : s.vm.findClass RX4 = some m.cls := hown
  have hl : lv_has ls 4 [(0, .ref mo), (1, .int g), (2, .int v)] := hl
  show W p l e ({ frames := 2, cells := 0, slots := 0, locals := 46 } : Room) s m ([.ref mo, .int g, .int v] : List Value).toArray below meth c s.heap [] 0 0 (MQ below (Qsi D (fun r9 w9 => r9 = (D_X4_set M g v).1 ∧ w9 = wM Y mo q ((D_X4_set M g v).2)) A) ([.ref mo, .int g, .int v] : List Value).toArray s 0 0 A) (F0 m 0 ls [])
  refine lv_iload_n hx hb dX4_set_0 rfl (lv_at hl 1 rfl) ?_
  refine lv_iload_n hx hb dX4_set_1 rfl (lv_at hl 2 rfl) ?_
  refine ck_iD (wr := wM Y mo q M) (ws' := wM Y mo q M) (va_runS (As := [.int g, .int v]) (rest := []) ⟨hx, hb, hml, hown, hts⟩ (c_X4_isSetting l D Y s.heap.size g v) (va_cwS 2 hts gX4_set_X4_isSetting rfl rfl rfl (by decide +kernel) ⟨Nat.le_of_ble_eq_true rfl, Nat.le_of_ble_eq_true rfl⟩) (pst_S hK hP hD [] rfl (by decide)) rfl rfl hl.1 rfl (lv_room (Nat.le_of_ble_eq_true rfl)) dX4_set_2 ⟨Nat.zero_le _, Nat.zero_le _⟩) hP hD hS hA [] [0, 1, 2, 3, 4, 5, 6, 7, 8, 9] [0, 1, 2, 3, 4, 5, 6, 7, 8, 9] rfl rfl (by decide) (by decide) rfl (by decide) (fun H locs hP hD hS => ?_)
  refine lv_if_ne (tgt := 11) hx hb dX4_set_5 (by decide) (fun c_1 => ?_) (fun c_1 => ?_)
  · refine lv_aload_n hx hb dX4_set_11 rfl (lv_at hl 0 rfl) ?_
    refine ck_vD (wr := ([] : va_W)) (ws' := wM Y mo q (D_X4_changes M)) (va_runV (As := []) (rest := []) ⟨hx, hb, hml, hown, hts⟩ (c_X4_changes l D Y H.size q M mo h0) (cwV 0 hts gX4_set_X4_changes rfl rfl rfl (by decide +kernel) ⟨Nat.le_of_ble_eq_true rfl, Nat.le_of_ble_eq_true rfl⟩) (pst_V hK hP hD [0, 1, 2, 3, 4, 5, 6, 7, 8, 9] rfl (by decide) (q0 := 0) rfl rfl) rfl rfl hl.1 rfl (lv_room (Nat.le_of_ble_eq_true rfl)) dX4_set_12 ⟨Nat.zero_le _, Nat.zero_le _⟩) hP hD hS hA [0, 1, 2, 3, 4, 5, 6, 7, 8, 9] [] [0, 1, 2, 3, 4, 5, 6, 7, 8, 9] rfl rfl (by decide) (by decide) rfl (by decide) (fun H locs hP hD hS => ?_)
    obtain ⟨S_1, eS_1⟩ : ∃ z9, (D_X4_changes M) = z9 := ⟨_, rfl⟩
    rw [eS_1] at hP hD
    refine lv_aload_n hx hb dX4_set_15 rfl (lv_at hl 0 rfl) ?_
    refine va_get (D := D) (ci := 4) (v := .ref (q 0)) (C := RX4) (T := TX4) (N := 13) hx hb hts in_X4_set_RX4 hown hK.1 hP 0 rfl rfl 0 (by decide) (hts (.fieldLink RX4 7 "NineDancersModel" "all" "[I") (by decide +kernel)) (fun _ h9 => h9) rfl dX4_set_16 ?_
    refine lv_iload_n hx hb dX4_set_19 rfl (lv_at hl 1 rfl) ?_
    refine va_iald (D := D) hx hb hK.1 hP 1 0 rfl rfl (fs_set c_1) dX4_set_20 ?_
    refine lv_istore_n (lv' := [(3, .int (S_1 0 g.toNatClampNeg)), (0, .ref mo), (1, .int g), (2, .int v)]) hx hb dX4_set_21 rfl hl (by decide) rfl (fun ls hl => ?_)
    refine lv_aload_n hx hb dX4_set_22 rfl (lv_at hl 1 rfl) ?_
    refine va_get (D := D) (ci := 4) (v := .ref (q 0)) (C := RX4) (T := TX4) (N := 13) hx hb hts in_X4_set_RX4 hown hK.1 hP 0 rfl rfl 0 (by decide) (hts (.fieldLink RX4 7 "NineDancersModel" "all" "[I") (by decide +kernel)) (fun _ h9 => h9) rfl dX4_set_23 ?_
    refine lv_iload_n hx hb dX4_set_26 rfl (lv_at hl 2 rfl) ?_
    refine lv_iload_n hx hb dX4_set_27 rfl (lv_at hl 3 rfl) ?_
    refine va_iast (D := D) hx hb hK.1 hP hD hS 1 0 rfl rfl (fs_set c_1) dX4_set_28 (fun H locs hP hD hS => ?_)
    have hP : va_P D vwCl (wM Y mo q (T_X4_set_1 g v S_1)) H := hP
    have hD : va_D A (wM Y mo q (T_X4_set_1 g v S_1)) := hD
    obtain ⟨S_2, eS_2⟩ : ∃ z9, T_X4_set_1 g v S_1 = z9 := ⟨_, rfl⟩
    rw [eS_2] at hP hD
    refine lv_iload_n hx hb dX4_set_29 rfl (lv_at hl 0 rfl) ?_
    subst eS_2
    subst eS_1
    have e9 : D_X4_set M g v = ((D_X4_changes M) 0 g.toNatClampNeg, (T_X4_set_1 g v (D_X4_changes M))) := by rw [D_X4_set, if_neg c_1]
    exact ret_i hx hb hr hlk hP hD hS dX4_set_30 ⟨Nat.zero_le _, Nat.zero_le _⟩ ⟨by rw [e9], by rw [e9]⟩
  · refine lv_ldc (v := (-1000002)) hx hb hown (hts (.constant RX4 91 (-1000002)) (by decide +kernel)) dX4_set_8 ?_
    have e9 : D_X4_set M g v = ((-1000002), M) := by rw [D_X4_set, if_pos c_1]
    exact ret_i hx hb hr hlk hP hD hS dX4_set_10 ⟨Nat.zero_le _, Nat.zero_le _⟩ ⟨by rw [e9], by rw [e9]⟩
def T_X4_like_1 (a : Int32) (b : Int32) (v : Int32) (S_1 : Nat → Nat → Int32) : Nat → Nat → Int32 := s2 S_1 0 (69 + (D_X4_pairAt a b)).toNatClampNeg v
def T_X4_like_2 (a : Int32) (b : Int32) (v : Int32) (S_2 : Nat → Nat → Int32) : Nat → Nat → Int32 := s2 S_2 0 (69 + (D_X4_pairAt b a)).toNatClampNeg v
def D_X4_like (M : Nat → Nat → Int32) (a : Int32) (b : Int32) (v : Int32) : (Int32) × (Nat → Nat → Int32) := if (D_X4_isVillager a) = 0 then ((-1000001), M) else (if (D_X4_isVillager b) = 0 then ((-1000001), M) else (if a = b then ((-1000002), M) else (if (D_X4_in v.toInt64 (-9) 9) = 0 then ((-1000002), M) else ((D_X4_changes M) 0 (69 + (D_X4_pairAt a b)).toNatClampNeg, (T_X4_like_2 a b v (T_X4_like_1 a b v (D_X4_changes M)))))))
set_option maxRecDepth 100000 in
theorem in_X4_like_RX4 : ∀ w ∈ u_ws RX4 TX4 13, w ∈ wsX4_like := by decide +kernel
set_option maxHeartbeats 4000000 in
set_option maxRecDepth 100000 in
theorem c_X4_like (l : Launch) (D : va_G) (Y : YY) (sz : Nat) (q : Nat → Nat) (M : Nat → Nat → Int32) (mo : Nat) (a : Int32) (b : Int32) (v : Int32) (h0 : M 9 0 = 0) : Met l yX4_like wsX4_like ({ frames := 2, cells := 0, slots := 0, locals := 45 } : Room) (va_Pc [.ref mo, .int a, .int b, .int v] (Pst D Y sz (wM Y mo q M))) ((fun A : Nat → Prop => Qsi D (fun r9 w9 => r9 = (D_X4_like M a b v).1 ∧ w9 = wM Y mo q ((D_X4_like M a b v).2)) A) (va_A (wM Y mo q M) sz)) 0 0 (va_A (wM Y mo q M) sz) := by
  refine ct_in (cc := cX4_like) (maxL := 5) (ret := (some .int)) (Qc := fun A : Nat → Prop => Qsi D (fun r9 w9 => r9 = (D_X4_like M a b v).1 ∧ w9 = wM Y mo q ((D_X4_like M a b v).2)) A) (by decide +kernel) rfl (Nat.le_of_ble_eq_true rfl) ?_
  intro p e s m below meth c A ls hx hb hr hts hown hml hlk hin hsz hA hP hD hK hS hl
  have hown : s.vm.findClass RX4 = some m.cls := hown
  have hl : lv_has ls 5 [(0, .ref mo), (1, .int a), (2, .int b), (3, .int v)] := hl
  show W p l e ({ frames := 2, cells := 0, slots := 0, locals := 45 } : Room) s m ([.ref mo, .int a, .int b, .int v] : List Value).toArray below meth c s.heap [] 0 0 (MQ below (Qsi D (fun r9 w9 => r9 = (D_X4_like M a b v).1 ∧ w9 = wM Y mo q ((D_X4_like M a b v).2)) A) ([.ref mo, .int a, .int b, .int v] : List Value).toArray s 0 0 A) (F0 m 0 ls [])
  refine lv_iload_n hx hb dX4_like_0 rfl (lv_at hl 1 rfl) ?_
  refine ck_iD (wr := wM Y mo q M) (ws' := wM Y mo q M) (va_runS (As := [.int a]) (rest := []) ⟨hx, hb, hml, hown, hts⟩ (c_X4_isVillager l D Y s.heap.size a) (va_cwS 1 hts gX4_like_X4_isVillager rfl rfl rfl (by decide +kernel) ⟨Nat.le_of_ble_eq_true rfl, Nat.le_of_ble_eq_true rfl⟩) (pst_S hK hP hD [] rfl (by decide)) rfl rfl hl.1 rfl (lv_room (Nat.le_of_ble_eq_true rfl)) dX4_like_1 ⟨Nat.zero_le _, Nat.zero_le _⟩) hP hD hS hA [] [0, 1, 2, 3, 4, 5, 6, 7, 8, 9] [0, 1, 2, 3, 4, 5, 6, 7, 8, 9] rfl rfl (by decide) (by decide) rfl (by decide) (fun H locs hP hD hS => ?_)
  refine lv_if_eq (tgt := 14) hx hb dX4_like_4 (by decide) (fun c_1 => ?_) (fun c_1 => ?_)
  · refine lv_ldc (v := (-1000001)) hx hb hown (hts (.constant RX4 98 (-1000001)) (by decide +kernel)) dX4_like_14 ?_
    have e9 : D_X4_like M a b v = ((-1000001), M) := by rw [D_X4_like, if_pos c_1]
    exact ret_i hx hb hr hlk hP hD hS dX4_like_16 ⟨Nat.zero_le _, Nat.zero_le _⟩ ⟨by rw [e9], by rw [e9]⟩
  · refine lv_iload_n hx hb dX4_like_7 rfl (lv_at hl 2 rfl) ?_
    refine ck_iD (wr := wM Y mo q M) (ws' := wM Y mo q M) (va_runS (As := [.int b]) (rest := []) ⟨hx, hb, hml, hown, hts⟩ (c_X4_isVillager l D Y H.size b) (va_cwS 1 hts gX4_like_X4_isVillager rfl rfl rfl (by decide +kernel) ⟨Nat.le_of_ble_eq_true rfl, Nat.le_of_ble_eq_true rfl⟩) (pst_S hK hP hD [] rfl (by decide)) rfl rfl hl.1 rfl (lv_room (Nat.le_of_ble_eq_true rfl)) dX4_like_8 ⟨Nat.zero_le _, Nat.zero_le _⟩) hP hD hS hA [] [0, 1, 2, 3, 4, 5, 6, 7, 8, 9] [0, 1, 2, 3, 4, 5, 6, 7, 8, 9] rfl rfl (by decide) (by decide) rfl (by decide) (fun H locs hP hD hS => ?_)
    refine lv_if_ne (tgt := 17) hx hb dX4_like_11 (by decide) (fun c_2 => ?_) (fun c_2 => ?_)
    · refine lv_iload_n hx hb dX4_like_17 rfl (lv_at hl 1 rfl) ?_
      refine lv_iload_n hx hb dX4_like_18 rfl (lv_at hl 2 rfl) ?_
      refine lv_icmp_eq (tgt := 36) hx hb dX4_like_19 (by decide) (fun c_3 => ?_) (fun c_3 => ?_)
      · refine lv_ldc (v := (-1000002)) hx hb hown (hts (.constant RX4 91 (-1000002)) (by decide +kernel)) dX4_like_36 ?_
        have e9 : D_X4_like M a b v = ((-1000002), M) := by rw [D_X4_like, if_neg c_1, if_neg c_2, if_pos c_3]
        exact ret_i hx hb hr hlk hP hD hS dX4_like_38 ⟨Nat.zero_le _, Nat.zero_le _⟩ ⟨by rw [e9], by rw [e9]⟩
      · refine lv_iload_n hx hb dX4_like_22 rfl (lv_at hl 3 rfl) ?_
        refine lv_i2l (v := v.toInt64) hx hb dX4_like_23 rfl ?_
        refine lv_ldc2 (v := (-9)) hx hb hown (hts (.constantLong RX4 84 (-9)) (by decide +kernel)) dX4_like_24 ?_
        refine lv_ldc2 (v := 9) hx hb hown (hts (.constantLong RX4 86 (9)) (by decide +kernel)) dX4_like_27 ?_
        refine ck_iD (wr := wM Y mo q M) (ws' := wM Y mo q M) (va_runS (As := [.long v.toInt64, .long (-9), .long 9]) (rest := []) ⟨hx, hb, hml, hown, hts⟩ (c_X4_in l D Y H.size v.toInt64 (-9) 9) (va_cwS 3 hts gX4_like_X4_in rfl rfl rfl (by decide +kernel) ⟨Nat.le_of_ble_eq_true rfl, Nat.le_of_ble_eq_true rfl⟩) (pst_S hK hP hD [] rfl (by decide)) rfl rfl hl.1 rfl (lv_room (Nat.le_of_ble_eq_true rfl)) dX4_like_30 ⟨Nat.zero_le _, Nat.zero_le _⟩) hP hD hS hA [] [0, 1, 2, 3, 4, 5, 6, 7, 8, 9] [0, 1, 2, 3, 4, 5, 6, 7, 8, 9] rfl rfl (by decide) (by decide) rfl (by decide) (fun H locs hP hD hS => ?_)
        refine lv_if_ne (tgt := 39) hx hb dX4_like_33 (by decide) (fun c_4 => ?_) (fun c_4 => ?_)
        · refine lv_aload_n hx hb dX4_like_39 rfl (lv_at hl 0 rfl) ?_
          refine ck_vD (wr := ([] : va_W)) (ws' := wM Y mo q (D_X4_changes M)) (va_runV (As := []) (rest := []) ⟨hx, hb, hml, hown, hts⟩ (c_X4_changes l D Y H.size q M mo h0) (cwV 0 hts gX4_like_X4_changes rfl rfl rfl (by decide +kernel) ⟨Nat.le_of_ble_eq_true rfl, Nat.le_of_ble_eq_true rfl⟩) (pst_V hK hP hD [0, 1, 2, 3, 4, 5, 6, 7, 8, 9] rfl (by decide) (q0 := 0) rfl rfl) rfl rfl hl.1 rfl (lv_room (Nat.le_of_ble_eq_true rfl)) dX4_like_40 ⟨Nat.zero_le _, Nat.zero_le _⟩) hP hD hS hA [0, 1, 2, 3, 4, 5, 6, 7, 8, 9] [] [0, 1, 2, 3, 4, 5, 6, 7, 8, 9] rfl rfl (by decide) (by decide) rfl (by decide) (fun H locs hP hD hS => ?_)
          obtain ⟨S_1, eS_1⟩ : ∃ z9, (D_X4_changes M) = z9 := ⟨_, rfl⟩
          rw [eS_1] at hP hD
          refine lv_aload_n hx hb dX4_like_43 rfl (lv_at hl 0 rfl) ?_
          refine va_get (D := D) (ci := 4) (v := .ref (q 0)) (C := RX4) (T := TX4) (N := 13) hx hb hts in_X4_like_RX4 hown hK.1 hP 0 rfl rfl 0 (by decide) (hts (.fieldLink RX4 7 "NineDancersModel" "all" "[I") (by decide +kernel)) (fun _ h9 => h9) rfl dX4_like_44 ?_
          refine lv_bipush (v := 69) hx hb dX4_like_47 (by decide) ?_
          refine lv_iload_n hx hb dX4_like_49 rfl (lv_at hl 1 rfl) ?_
          refine lv_iload_n hx hb dX4_like_50 rfl (lv_at hl 2 rfl) ?_
          refine ck_iD (wr := wM Y mo q S_1) (ws' := wM Y mo q S_1) (va_runS (As := [.int a, .int b]) (rest := [.int 69, .ref (q 0)]) ⟨hx, hb, hml, hown, hts⟩ (c_X4_pairAt l D Y H.size a b) (va_cwS 2 hts gX4_like_X4_pairAt rfl rfl rfl (by decide +kernel) ⟨Nat.le_of_ble_eq_true rfl, Nat.le_of_ble_eq_true rfl⟩) (pst_S hK hP hD [] rfl (by decide)) rfl rfl hl.1 rfl (lv_room (Nat.le_of_ble_eq_true rfl)) dX4_like_51 ⟨Nat.zero_le _, Nat.zero_le _⟩) hP hD hS hA [] [0, 1, 2, 3, 4, 5, 6, 7, 8, 9] [0, 1, 2, 3, 4, 5, 6, 7, 8, 9] rfl rfl (by decide) (by decide) rfl (by decide) (fun H locs hP hD hS => ?_)
          refine lv_iadd hx hb dX4_like_54 ?_
          refine va_iald (D := D) hx hb hK.1 hP 1 0 rfl rfl (my_wid (my_off 69 (in_pairAt (f4_isVillager c_1) (f4_isVillager c_2)) (Nat.le_refl _) (by decide)) (by decide) (by decide)) dX4_like_55 ?_
          refine lv_istore (lv' := [(4, .int (S_1 0 (69 + (D_X4_pairAt a b)).toNatClampNeg)), (0, .ref mo), (1, .int a), (2, .int b), (3, .int v)]) hx hb dX4_like_56 hl (by decide) rfl (fun ls hl => ?_)
          refine lv_aload_n hx hb dX4_like_58 rfl (lv_at hl 1 rfl) ?_
          refine va_get (D := D) (ci := 4) (v := .ref (q 0)) (C := RX4) (T := TX4) (N := 13) hx hb hts in_X4_like_RX4 hown hK.1 hP 0 rfl rfl 0 (by decide) (hts (.fieldLink RX4 7 "NineDancersModel" "all" "[I") (by decide +kernel)) (fun _ h9 => h9) rfl dX4_like_59 ?_
          refine lv_bipush (v := 69) hx hb dX4_like_62 (by decide) ?_
          refine lv_iload_n hx hb dX4_like_64 rfl (lv_at hl 2 rfl) ?_
          refine lv_iload_n hx hb dX4_like_65 rfl (lv_at hl 3 rfl) ?_
          refine ck_iD (wr := wM Y mo q S_1) (ws' := wM Y mo q S_1) (va_runS (As := [.int a, .int b]) (rest := [.int 69, .ref (q 0)]) ⟨hx, hb, hml, hown, hts⟩ (c_X4_pairAt l D Y H.size a b) (va_cwS 2 hts gX4_like_X4_pairAt rfl rfl rfl (by decide +kernel) ⟨Nat.le_of_ble_eq_true rfl, Nat.le_of_ble_eq_true rfl⟩) (pst_S hK hP hD [] rfl (by decide)) rfl rfl hl.1 rfl (lv_room (Nat.le_of_ble_eq_true rfl)) dX4_like_66 ⟨Nat.zero_le _, Nat.zero_le _⟩) hP hD hS hA [] [0, 1, 2, 3, 4, 5, 6, 7, 8, 9] [0, 1, 2, 3, 4, 5, 6, 7, 8, 9] rfl rfl (by decide) (by decide) rfl (by decide) (fun H locs hP hD hS => ?_)
          refine lv_iadd hx hb dX4_like_69 ?_
          refine lv_iload_n hx hb dX4_like_70 rfl (lv_at hl 4 rfl) ?_
          refine va_iast (D := D) hx hb hK.1 hP hD hS 1 0 rfl rfl (my_wid (my_off 69 (in_pairAt (f4_isVillager c_1) (f4_isVillager c_2)) (Nat.le_refl _) (by decide)) (by decide) (by decide)) dX4_like_71 (fun H locs hP hD hS => ?_)
          have hP : va_P D vwCl (wM Y mo q (T_X4_like_1 a b v S_1)) H := hP
          have hD : va_D A (wM Y mo q (T_X4_like_1 a b v S_1)) := hD
          obtain ⟨S_2, eS_2⟩ : ∃ z9, T_X4_like_1 a b v S_1 = z9 := ⟨_, rfl⟩
          rw [eS_2] at hP hD
          refine lv_aload_n hx hb dX4_like_72 rfl (lv_at hl 1 rfl) ?_
          refine va_get (D := D) (ci := 4) (v := .ref (q 0)) (C := RX4) (T := TX4) (N := 13) hx hb hts in_X4_like_RX4 hown hK.1 hP 0 rfl rfl 0 (by decide) (hts (.fieldLink RX4 7 "NineDancersModel" "all" "[I") (by decide +kernel)) (fun _ h9 => h9) rfl dX4_like_73 ?_
          refine lv_bipush (v := 69) hx hb dX4_like_76 (by decide) ?_
          refine lv_iload_n hx hb dX4_like_78 rfl (lv_at hl 3 rfl) ?_
          refine lv_iload_n hx hb dX4_like_79 rfl (lv_at hl 2 rfl) ?_
          refine ck_iD (wr := wM Y mo q S_2) (ws' := wM Y mo q S_2) (va_runS (As := [.int b, .int a]) (rest := [.int 69, .ref (q 0)]) ⟨hx, hb, hml, hown, hts⟩ (c_X4_pairAt l D Y H.size b a) (va_cwS 2 hts gX4_like_X4_pairAt rfl rfl rfl (by decide +kernel) ⟨Nat.le_of_ble_eq_true rfl, Nat.le_of_ble_eq_true rfl⟩) (pst_S hK hP hD [] rfl (by decide)) rfl rfl hl.1 rfl (lv_room (Nat.le_of_ble_eq_true rfl)) dX4_like_80 ⟨Nat.zero_le _, Nat.zero_le _⟩) hP hD hS hA [] [0, 1, 2, 3, 4, 5, 6, 7, 8, 9] [0, 1, 2, 3, 4, 5, 6, 7, 8, 9] rfl rfl (by decide) (by decide) rfl (by decide) (fun H locs hP hD hS => ?_)
          refine lv_iadd hx hb dX4_like_83 ?_
          refine lv_iload_n hx hb dX4_like_84 rfl (lv_at hl 4 rfl) ?_
          refine va_iast (D := D) hx hb hK.1 hP hD hS 1 0 rfl rfl (my_wid (my_off 69 (in_pairAt (f4_isVillager c_2) (f4_isVillager c_1)) (Nat.le_refl _) (by decide)) (by decide) (by decide)) dX4_like_85 (fun H locs hP hD hS => ?_)
          have hP : va_P D vwCl (wM Y mo q (T_X4_like_2 a b v S_2)) H := hP
          have hD : va_D A (wM Y mo q (T_X4_like_2 a b v S_2)) := hD
          obtain ⟨S_3, eS_3⟩ : ∃ z9, T_X4_like_2 a b v S_2 = z9 := ⟨_, rfl⟩
          rw [eS_3] at hP hD
          refine lv_iload hx hb dX4_like_86 (lv_at hl 0 rfl) ?_
          subst eS_3
          subst eS_2
          subst eS_1
          have e9 : D_X4_like M a b v = ((D_X4_changes M) 0 (69 + (D_X4_pairAt a b)).toNatClampNeg, (T_X4_like_2 a b v (T_X4_like_1 a b v (D_X4_changes M)))) := by rw [D_X4_like, if_neg c_1, if_neg c_2, if_neg c_3, if_neg c_4]
          exact ret_i hx hb hr hlk hP hD hS dX4_like_88 ⟨Nat.zero_le _, Nat.zero_le _⟩ ⟨by rw [e9], by rw [e9]⟩
        · refine lv_ldc (v := (-1000002)) hx hb hown (hts (.constant RX4 91 (-1000002)) (by decide +kernel)) dX4_like_36 ?_
          have e9 : D_X4_like M a b v = ((-1000002), M) := by rw [D_X4_like, if_neg c_1, if_neg c_2, if_neg c_3, if_pos c_4]
          exact ret_i hx hb hr hlk hP hD hS dX4_like_38 ⟨Nat.zero_le _, Nat.zero_le _⟩ ⟨by rw [e9], by rw [e9]⟩
    · refine lv_ldc (v := (-1000001)) hx hb hown (hts (.constant RX4 98 (-1000001)) (by decide +kernel)) dX4_like_14 ?_
      have e9 : D_X4_like M a b v = ((-1000001), M) := by rw [D_X4_like, if_neg c_1, if_pos c_2]
      exact ret_i hx hb hr hlk hP hD hS dX4_like_16 ⟨Nat.zero_le _, Nat.zero_le _⟩ ⟨by rw [e9], by rw [e9]⟩
def T_X4_away_1 (v : Int32) (S_1 : Nat → Nat → Int32) : Nat → Nat → Int32 := s2 S_1 0 (15 + v).toNatClampNeg 1
def T_X4_away_2 (v : Int32) (S_1 : Nat → Nat → Int32) : Nat → Nat → Int32 := s2 S_1 0 (15 + v).toNatClampNeg 0
def D_X4_away (M : Nat → Nat → Int32) (v : Int32) (al : Int32) : (Int32) × (Nat → Nat → Int32) := if (D_X4_isVillager v) = 0 then ((-1000001), M) else (if (D_X4_isThere M v) = al then (if al = 0 then (D_X4_sum (T_X4_away_1 v (D_X4_changes M)) 15, (T_X4_away_1 v (D_X4_changes M))) else (D_X4_sum (T_X4_away_2 v (D_X4_changes M)) 15, (T_X4_away_2 v (D_X4_changes M)))) else ((-1000005), M))
set_option maxRecDepth 100000 in
theorem in_X4_away_RX4 : ∀ w ∈ u_ws RX4 TX4 13, w ∈ wsX4_away := by decide +kernel
set_option maxHeartbeats 4000000 in
set_option maxRecDepth 100000 in
theorem c_X4_away (l : Launch) (D : va_G) (Y : YY) (sz : Nat) (q : Nat → Nat) (M : Nat → Nat → Int32) (mo : Nat) (v : Int32) (al : Int32) (h0 : M 9 0 = 0) : Met l yX4_away wsX4_away ({ frames := 2, cells := 0, slots := 0, locals := 45 } : Room) (va_Pc [.ref mo, .int v, .int al] (Pst D Y sz (wM Y mo q M))) ((fun A : Nat → Prop => Qsi D (fun r9 w9 => r9 = (D_X4_away M v al).1 ∧ w9 = wM Y mo q ((D_X4_away M v al).2)) A) (va_A (wM Y mo q M) sz)) 0 0 (va_A (wM Y mo q M) sz) := by
  refine ct_in (cc := cX4_away) (maxL := 3) (ret := (some .int)) (Qc := fun A : Nat → Prop => Qsi D (fun r9 w9 => r9 = (D_X4_away M v al).1 ∧ w9 = wM Y mo q ((D_X4_away M v al).2)) A) (by decide +kernel) rfl (Nat.le_of_ble_eq_true rfl) ?_
  intro p e s m below meth c A ls hx hb hr hts hown hml hlk hin hsz hA hP hD hK hS hl
  have hown : s.vm.findClass RX4 = some m.cls := hown
  have hl : lv_has ls 3 [(0, .ref mo), (1, .int v), (2, .int al)] := hl
  show W p l e ({ frames := 2, cells := 0, slots := 0, locals := 45 } : Room) s m ([.ref mo, .int v, .int al] : List Value).toArray below meth c s.heap [] 0 0 (MQ below (Qsi D (fun r9 w9 => r9 = (D_X4_away M v al).1 ∧ w9 = wM Y mo q ((D_X4_away M v al).2)) A) ([.ref mo, .int v, .int al] : List Value).toArray s 0 0 A) (F0 m 0 ls [])
  refine lv_iload_n hx hb dX4_away_0 rfl (lv_at hl 1 rfl) ?_
  refine ck_iD (wr := wM Y mo q M) (ws' := wM Y mo q M) (va_runS (As := [.int v]) (rest := []) ⟨hx, hb, hml, hown, hts⟩ (c_X4_isVillager l D Y s.heap.size v) (va_cwS 1 hts gX4_away_X4_isVillager rfl rfl rfl (by decide +kernel) ⟨Nat.le_of_ble_eq_true rfl, Nat.le_of_ble_eq_true rfl⟩) (pst_S hK hP hD [] rfl (by decide)) rfl rfl hl.1 rfl (lv_room (Nat.le_of_ble_eq_true rfl)) dX4_away_1 ⟨Nat.zero_le _, Nat.zero_le _⟩) hP hD hS hA [] [0, 1, 2, 3, 4, 5, 6, 7, 8, 9] [0, 1, 2, 3, 4, 5, 6, 7, 8, 9] rfl rfl (by decide) (by decide) rfl (by decide) (fun H locs hP hD hS => ?_)
  refine lv_if_ne (tgt := 10) hx hb dX4_away_4 (by decide) (fun c_1 => ?_) (fun c_1 => ?_)
  · refine lv_aload_n hx hb dX4_away_10 rfl (lv_at hl 0 rfl) ?_
    refine lv_iload_n hx hb dX4_away_11 rfl (lv_at hl 1 rfl) ?_
    refine ck_iD (wr := ([] : va_W)) (ws' := wM Y mo q M) (va_runV (As := [.int v]) (rest := []) ⟨hx, hb, hml, hown, hts⟩ (c_X4_isThere l D Y H.size q M mo v (f4_isVillager c_1)) (cwV 1 hts gX4_away_X4_isThere rfl rfl rfl (by decide +kernel) ⟨Nat.le_of_ble_eq_true rfl, Nat.le_of_ble_eq_true rfl⟩) (pst_V hK hP hD [0, 1, 2, 3, 4, 5, 6, 7, 8, 9] rfl (by decide) (q0 := 0) rfl rfl) rfl rfl hl.1 rfl (lv_room (Nat.le_of_ble_eq_true rfl)) dX4_away_12 ⟨Nat.zero_le _, Nat.zero_le _⟩) hP hD hS hA [0, 1, 2, 3, 4, 5, 6, 7, 8, 9] [] [0, 1, 2, 3, 4, 5, 6, 7, 8, 9] rfl rfl (by decide) (by decide) rfl (by decide) (fun H locs hP hD hS => ?_)
    refine lv_iload_n hx hb dX4_away_15 rfl (lv_at hl 2 rfl) ?_
    refine lv_icmp_eq (tgt := 22) hx hb dX4_away_16 (by decide) (fun c_2 => ?_) (fun c_2 => ?_)
    · refine lv_aload_n hx hb dX4_away_22 rfl (lv_at hl 0 rfl) ?_
      refine ck_vD (wr := ([] : va_W)) (ws' := wM Y mo q (D_X4_changes M)) (va_runV (As := []) (rest := []) ⟨hx, hb, hml, hown, hts⟩ (c_X4_changes l D Y H.size q M mo h0) (cwV 0 hts gX4_away_X4_changes rfl rfl rfl (by decide +kernel) ⟨Nat.le_of_ble_eq_true rfl, Nat.le_of_ble_eq_true rfl⟩) (pst_V hK hP hD [0, 1, 2, 3, 4, 5, 6, 7, 8, 9] rfl (by decide) (q0 := 0) rfl rfl) rfl rfl hl.1 rfl (lv_room (Nat.le_of_ble_eq_true rfl)) dX4_away_23 ⟨Nat.zero_le _, Nat.zero_le _⟩) hP hD hS hA [0, 1, 2, 3, 4, 5, 6, 7, 8, 9] [] [0, 1, 2, 3, 4, 5, 6, 7, 8, 9] rfl rfl (by decide) (by decide) rfl (by decide) (fun H locs hP hD hS => ?_)
      obtain ⟨S_1, eS_1⟩ : ∃ z9, (D_X4_changes M) = z9 := ⟨_, rfl⟩
      rw [eS_1] at hP hD
      refine lv_aload_n hx hb dX4_away_26 rfl (lv_at hl 0 rfl) ?_
      refine va_get (D := D) (ci := 4) (v := .ref (q 0)) (C := RX4) (T := TX4) (N := 13) hx hb hts in_X4_away_RX4 hown hK.1 hP 0 rfl rfl 0 (by decide) (hts (.fieldLink RX4 7 "NineDancersModel" "all" "[I") (by decide +kernel)) (fun _ h9 => h9) rfl dX4_away_27 ?_
      refine lv_bipush (v := 15) hx hb dX4_away_30 (by decide) ?_
      refine lv_iload_n hx hb dX4_away_32 rfl (lv_at hl 1 rfl) ?_
      refine lv_iadd hx hb dX4_away_33 ?_
      refine lv_iload_n hx hb dX4_away_34 rfl (lv_at hl 2 rfl) ?_
      refine lv_if_eq (tgt := 42) hx hb dX4_away_35 (by decide) (fun c_3 => ?_) (fun c_3 => ?_)
      · refine lv_iconst (v := 1) hx hb dX4_away_42 (by decide) ?_
        refine va_iast (D := D) hx hb hK.1 hP hD hS 1 0 rfl rfl (my_wid (my_off 15 (f4_isVillager c_1) (Nat.le_refl _) (by decide)) (by decide) (by decide)) dX4_away_43 (fun H locs hP hD hS => ?_)
        have hP : va_P D vwCl (wM Y mo q (T_X4_away_1 v S_1)) H := hP
        have hD : va_D A (wM Y mo q (T_X4_away_1 v S_1)) := hD
        obtain ⟨S_2, eS_2⟩ : ∃ z9, T_X4_away_1 v S_1 = z9 := ⟨_, rfl⟩
        rw [eS_2] at hP hD
        refine lv_aload_n hx hb dX4_away_44 rfl (lv_at hl 0 rfl) ?_
        refine lv_bipush (v := 15) hx hb dX4_away_45 (by decide) ?_
        refine ck_iD (wr := ([] : va_W)) (ws' := wM Y mo q S_2) (va_runV (As := [.int 15]) (rest := []) ⟨hx, hb, hml, hown, hts⟩ (c_X4_sum l D Y H.size q S_2 mo 15 (by unfold vp_in; decide)) (cwV 1 hts gX4_away_X4_sum rfl rfl rfl (by decide +kernel) ⟨Nat.le_of_ble_eq_true rfl, Nat.le_of_ble_eq_true rfl⟩) (pst_V hK hP hD [0, 1, 2, 3, 4, 5, 6, 7, 8, 9] rfl (by decide) (q0 := 0) rfl rfl) rfl rfl hl.1 rfl (lv_room (Nat.le_of_ble_eq_true rfl)) dX4_away_47 ⟨Nat.zero_le _, Nat.zero_le _⟩) hP hD hS hA [0, 1, 2, 3, 4, 5, 6, 7, 8, 9] [] [0, 1, 2, 3, 4, 5, 6, 7, 8, 9] rfl rfl (by decide) (by decide) rfl (by decide) (fun H locs hP hD hS => ?_)
        subst eS_2
        subst eS_1
        have e9 : D_X4_away M v al = (D_X4_sum (T_X4_away_1 v (D_X4_changes M)) 15, (T_X4_away_1 v (D_X4_changes M))) := by rw [D_X4_away, if_neg c_1, if_pos c_2, if_pos c_3]
        exact ret_i hx hb hr hlk hP hD hS dX4_away_50 ⟨Nat.zero_le _, Nat.zero_le _⟩ ⟨by rw [e9], by rw [e9]⟩
      · refine lv_iconst (v := 0) hx hb dX4_away_38 (by decide) ?_
        refine lv_goto (tgt := 43) hx hb dX4_away_39 (by decide) ?_
        refine va_iast (D := D) hx hb hK.1 hP hD hS 1 0 rfl rfl (my_wid (my_off 15 (f4_isVillager c_1) (Nat.le_refl _) (by decide)) (by decide) (by decide)) dX4_away_43 (fun H locs hP hD hS => ?_)
        have hP : va_P D vwCl (wM Y mo q (T_X4_away_2 v S_1)) H := hP
        have hD : va_D A (wM Y mo q (T_X4_away_2 v S_1)) := hD
        obtain ⟨S_3, eS_3⟩ : ∃ z9, T_X4_away_2 v S_1 = z9 := ⟨_, rfl⟩
        rw [eS_3] at hP hD
        refine lv_aload_n hx hb dX4_away_44 rfl (lv_at hl 0 rfl) ?_
        refine lv_bipush (v := 15) hx hb dX4_away_45 (by decide) ?_
        refine ck_iD (wr := ([] : va_W)) (ws' := wM Y mo q S_3) (va_runV (As := [.int 15]) (rest := []) ⟨hx, hb, hml, hown, hts⟩ (c_X4_sum l D Y H.size q S_3 mo 15 (by unfold vp_in; decide)) (cwV 1 hts gX4_away_X4_sum rfl rfl rfl (by decide +kernel) ⟨Nat.le_of_ble_eq_true rfl, Nat.le_of_ble_eq_true rfl⟩) (pst_V hK hP hD [0, 1, 2, 3, 4, 5, 6, 7, 8, 9] rfl (by decide) (q0 := 0) rfl rfl) rfl rfl hl.1 rfl (lv_room (Nat.le_of_ble_eq_true rfl)) dX4_away_47 ⟨Nat.zero_le _, Nat.zero_le _⟩) hP hD hS hA [0, 1, 2, 3, 4, 5, 6, 7, 8, 9] [] [0, 1, 2, 3, 4, 5, 6, 7, 8, 9] rfl rfl (by decide) (by decide) rfl (by decide) (fun H locs hP hD hS => ?_)
        subst eS_3
        subst eS_1
        have e9 : D_X4_away M v al = (D_X4_sum (T_X4_away_2 v (D_X4_changes M)) 15, (T_X4_away_2 v (D_X4_changes M))) := by rw [D_X4_away, if_neg c_1, if_pos c_2, if_neg c_3]
        exact ret_i hx hb hr hlk hP hD hS dX4_away_50 ⟨Nat.zero_le _, Nat.zero_le _⟩ ⟨by rw [e9], by rw [e9]⟩
    · refine lv_ldc (v := (-1000005)) hx hb hown (hts (.constant RX4 99 (-1000005)) (by decide +kernel)) dX4_away_19 ?_
      have e9 : D_X4_away M v al = ((-1000005), M) := by rw [D_X4_away, if_neg c_1, if_neg c_2]
      exact ret_i hx hb hr hlk hP hD hS dX4_away_21 ⟨Nat.zero_le _, Nat.zero_le _⟩ ⟨by rw [e9], by rw [e9]⟩
  · refine lv_ldc (v := (-1000001)) hx hb hown (hts (.constant RX4 98 (-1000001)) (by decide +kernel)) dX4_away_7 ?_
    have e9 : D_X4_away M v al = ((-1000001), M) := by rw [D_X4_away, if_pos c_1]
    exact ret_i hx hb hr hlk hP hD hS dX4_away_9 ⟨Nat.zero_le _, Nat.zero_le _⟩ ⟨by rw [e9], by rw [e9]⟩
def D_X4_call (M : Nat → Nat → Int32) (n : Int32) : (Int32) × (Nat → Nat → Int32) := if (D_X4_isNumber n) = 0 then ((-1000002), M) else (if (M 0 (3 : Int32).toNatClampNeg) = 9999 then ((-1000004), M) else ((D_X4_round (D_X4_changes M) n).1, ((D_X4_round (D_X4_changes M) n).2)))
set_option maxRecDepth 100000 in
theorem in_X4_call_RX4 : ∀ w ∈ u_ws RX4 TX4 13, w ∈ wsX4_call := by decide +kernel
set_option maxHeartbeats 4000000 in
set_option maxRecDepth 100000 in
theorem c_X4_call (l : Launch) (D : va_G) (Y : YY) (sz : Nat) (q : Nat → Nat) (M : Nat → Nat → Int32) (mo : Nat) (n : Int32) (h0 : M 9 0 = 0) : Met l yX4_call wsX4_call ({ frames := 4, cells := 0, slots := 0, locals := 89 } : Room) (va_Pc [.ref mo, .int n] (Pst D Y sz (wM Y mo q M))) ((fun A : Nat → Prop => Qsi D (fun r9 w9 => r9 = (D_X4_call M n).1 ∧ w9 = wM Y mo q ((D_X4_call M n).2)) A) (va_A (wM Y mo q M) sz)) 0 0 (va_A (wM Y mo q M) sz) := by
  refine ct_in (cc := cX4_call) (maxL := 2) (ret := (some .int)) (Qc := fun A : Nat → Prop => Qsi D (fun r9 w9 => r9 = (D_X4_call M n).1 ∧ w9 = wM Y mo q ((D_X4_call M n).2)) A) (by decide +kernel) rfl (Nat.le_of_ble_eq_true rfl) ?_
  intro p e s m below meth c A ls hx hb hr hts hown hml hlk hin hsz hA hP hD hK hS hl
  have hown : s.vm.findClass RX4 = some m.cls := hown
  have hl : lv_has ls 2 [(0, .ref mo), (1, .int n)] := hl
  show W p l e ({ frames := 4, cells := 0, slots := 0, locals := 89 } : Room) s m ([.ref mo, .int n] : List Value).toArray below meth c s.heap [] 0 0 (MQ below (Qsi D (fun r9 w9 => r9 = (D_X4_call M n).1 ∧ w9 = wM Y mo q ((D_X4_call M n).2)) A) ([.ref mo, .int n] : List Value).toArray s 0 0 A) (F0 m 0 ls [])
  refine lv_iload_n hx hb dX4_call_0 rfl (lv_at hl 1 rfl) ?_
  refine ck_iD (wr := wM Y mo q M) (ws' := wM Y mo q M) (va_runS (As := [.int n]) (rest := []) ⟨hx, hb, hml, hown, hts⟩ (c_X4_isNumber l D Y s.heap.size n) (va_cwS 1 hts gX4_call_X4_isNumber rfl rfl rfl (by decide +kernel) ⟨Nat.le_of_ble_eq_true rfl, Nat.le_of_ble_eq_true rfl⟩) (pst_S hK hP hD [] rfl (by decide)) rfl rfl hl.1 rfl (lv_room (Nat.le_of_ble_eq_true rfl)) dX4_call_1 ⟨Nat.zero_le _, Nat.zero_le _⟩) hP hD hS hA [] [0, 1, 2, 3, 4, 5, 6, 7, 8, 9] [0, 1, 2, 3, 4, 5, 6, 7, 8, 9] rfl rfl (by decide) (by decide) rfl (by decide) (fun H locs hP hD hS => ?_)
  refine lv_if_ne (tgt := 10) hx hb dX4_call_4 (by decide) (fun c_1 => ?_) (fun c_1 => ?_)
  · refine lv_aload_n hx hb dX4_call_10 rfl (lv_at hl 0 rfl) ?_
    refine va_get (D := D) (ci := 4) (v := .ref (q 0)) (C := RX4) (T := TX4) (N := 13) hx hb hts in_X4_call_RX4 hown hK.1 hP 0 rfl rfl 0 (by decide) (hts (.fieldLink RX4 7 "NineDancersModel" "all" "[I") (by decide +kernel)) (fun _ h9 => h9) rfl dX4_call_11 ?_
    refine lv_iconst (v := 3) hx hb dX4_call_14 (by decide) ?_
    refine va_iald (D := D) hx hb hK.1 hP 1 0 rfl rfl (by unfold vp_in; decide) dX4_call_15 ?_
    refine lv_sipush (v := 9999) hx hb dX4_call_16 (by decide) ?_
    refine lv_icmp_ne (tgt := 25) hx hb dX4_call_19 (by decide) (fun c_2 => ?_) (fun c_2 => ?_)
    · refine lv_aload_n hx hb dX4_call_25 rfl (lv_at hl 0 rfl) ?_
      refine ck_vD (wr := ([] : va_W)) (ws' := wM Y mo q (D_X4_changes M)) (va_runV (As := []) (rest := []) ⟨hx, hb, hml, hown, hts⟩ (c_X4_changes l D Y H.size q M mo h0) (cwV 0 hts gX4_call_X4_changes rfl rfl rfl (by decide +kernel) ⟨Nat.le_of_ble_eq_true rfl, Nat.le_of_ble_eq_true rfl⟩) (pst_V hK hP hD [0, 1, 2, 3, 4, 5, 6, 7, 8, 9] rfl (by decide) (q0 := 0) rfl rfl) rfl rfl hl.1 rfl (lv_room (Nat.le_of_ble_eq_true rfl)) dX4_call_26 ⟨Nat.zero_le _, Nat.zero_le _⟩) hP hD hS hA [0, 1, 2, 3, 4, 5, 6, 7, 8, 9] [] [0, 1, 2, 3, 4, 5, 6, 7, 8, 9] rfl rfl (by decide) (by decide) rfl (by decide) (fun H locs hP hD hS => ?_)
      obtain ⟨S_1, eS_1⟩ : ∃ z9, (D_X4_changes M) = z9 := ⟨_, rfl⟩
      rw [eS_1] at hP hD
      refine lv_aload_n hx hb dX4_call_29 rfl (lv_at hl 0 rfl) ?_
      refine lv_iload_n hx hb dX4_call_30 rfl (lv_at hl 1 rfl) ?_
      refine ck_iD (wr := ([] : va_W)) (ws' := wM Y mo q ((D_X4_round S_1 n).2)) (va_runV (As := [.int n]) (rest := []) ⟨hx, hb, hml, hown, hts⟩ (c_X4_round l D Y H.size q S_1 mo n (f4_isNumber c_1)) (cwV 1 hts gX4_call_X4_round rfl rfl rfl (by decide +kernel) ⟨Nat.le_of_ble_eq_true rfl, Nat.le_of_ble_eq_true rfl⟩) (pst_V hK hP hD [0, 1, 2, 3, 4, 5, 6, 7, 8, 9] rfl (by decide) (q0 := 0) rfl rfl) rfl rfl hl.1 rfl (lv_room (Nat.le_of_ble_eq_true rfl)) dX4_call_31 ⟨Nat.zero_le _, Nat.zero_le _⟩) hP hD hS hA [0, 1, 2, 3, 4, 5, 6, 7, 8, 9] [] [0, 1, 2, 3, 4, 5, 6, 7, 8, 9] rfl rfl (by decide) (by decide) rfl (by decide) (fun H locs hP hD hS => ?_)
      obtain ⟨S_2, eS_2⟩ : ∃ z9, (D_X4_round S_1 n).2 = z9 := ⟨_, rfl⟩
      rw [eS_2] at hP hD
      subst eS_2
      subst eS_1
      have e9 : D_X4_call M n = ((D_X4_round (D_X4_changes M) n).1, ((D_X4_round (D_X4_changes M) n).2)) := by rw [D_X4_call, if_neg c_1, if_neg c_2]
      exact ret_i hx hb hr hlk hP hD hS dX4_call_34 ⟨Nat.zero_le _, Nat.zero_le _⟩ ⟨by rw [e9], by rw [e9]⟩
    · refine lv_ldc (v := (-1000004)) hx hb hown (hts (.constant RX4 107 (-1000004)) (by decide +kernel)) dX4_call_22 ?_
      have e9 : D_X4_call M n = ((-1000004), M) := by rw [D_X4_call, if_neg c_1, if_pos c_2]
      exact ret_i hx hb hr hlk hP hD hS dX4_call_24 ⟨Nat.zero_le _, Nat.zero_le _⟩ ⟨by rw [e9], by rw [e9]⟩
  · refine lv_ldc (v := (-1000002)) hx hb hown (hts (.constant RX4 91 (-1000002)) (by decide +kernel)) dX4_call_7 ?_
    have e9 : D_X4_call M n = ((-1000002), M) := by rw [D_X4_call, if_pos c_1]
    exact ret_i hx hb hr hlk hP hD hS dX4_call_9 ⟨Nat.zero_le _, Nat.zero_le _⟩ ⟨by rw [e9], by rw [e9]⟩
def T_X4_feed_1 (v : Int32) (w : Int32) (S_1 : Nat → Nat → Int32) : Nat → Nat → Int32 := s2 S_1 0 (24 + v).toNatClampNeg w
def D_X4_feed (M : Nat → Nat → Int32) (v : Int32) (w : Int32) : (Int32) × (Nat → Nat → Int32) := if (D_X4_isVillager v) = 0 then ((-1000001), M) else (if (D_X4_in w.toInt64 0 20) = 0 then ((-1000002), M) else ((D_X4_changes M) 0 (24 + v).toNatClampNeg, (T_X4_feed_1 v w (D_X4_changes M))))
set_option maxRecDepth 100000 in
theorem in_X4_feed_RX4 : ∀ w ∈ u_ws RX4 TX4 13, w ∈ wsX4_feed := by decide +kernel
set_option maxHeartbeats 4000000 in
set_option maxRecDepth 100000 in
theorem c_X4_feed (l : Launch) (D : va_G) (Y : YY) (sz : Nat) (q : Nat → Nat) (M : Nat → Nat → Int32) (mo : Nat) (v : Int32) (w : Int32) (h0 : M 9 0 = 0) : Met l yX4_feed wsX4_feed ({ frames := 2, cells := 0, slots := 0, locals := 45 } : Room) (va_Pc [.ref mo, .int v, .int w] (Pst D Y sz (wM Y mo q M))) ((fun A : Nat → Prop => Qsi D (fun r9 w9 => r9 = (D_X4_feed M v w).1 ∧ w9 = wM Y mo q ((D_X4_feed M v w).2)) A) (va_A (wM Y mo q M) sz)) 0 0 (va_A (wM Y mo q M) sz) := by
  refine ct_in (cc := cX4_feed) (maxL := 4) (ret := (some .int)) (Qc := fun A : Nat → Prop => Qsi D (fun r9 w9 => r9 = (D_X4_feed M v w).1 ∧ w9 = wM Y mo q ((D_X4_feed M v w).2)) A) (by decide +kernel) rfl (Nat.le_of_ble_eq_true rfl) ?_
  intro p e s m below meth c A ls hx hb hr hts hown hml hlk hin hsz hA hP hD hK hS hl
  have hown : s.vm.findClass RX4 = some m.cls := hown
  have hl : lv_has ls 4 [(0, .ref mo), (1, .int v), (2, .int w)] := hl
  show W p l e ({ frames := 2, cells := 0, slots := 0, locals := 45 } : Room) s m ([.ref mo, .int v, .int w] : List Value).toArray below meth c s.heap [] 0 0 (MQ below (Qsi D (fun r9 w9 => r9 = (D_X4_feed M v w).1 ∧ w9 = wM Y mo q ((D_X4_feed M v w).2)) A) ([.ref mo, .int v, .int w] : List Value).toArray s 0 0 A) (F0 m 0 ls [])
  refine lv_iload_n hx hb dX4_feed_0 rfl (lv_at hl 1 rfl) ?_
  refine ck_iD (wr := wM Y mo q M) (ws' := wM Y mo q M) (va_runS (As := [.int v]) (rest := []) ⟨hx, hb, hml, hown, hts⟩ (c_X4_isVillager l D Y s.heap.size v) (va_cwS 1 hts gX4_feed_X4_isVillager rfl rfl rfl (by decide +kernel) ⟨Nat.le_of_ble_eq_true rfl, Nat.le_of_ble_eq_true rfl⟩) (pst_S hK hP hD [] rfl (by decide)) rfl rfl hl.1 rfl (lv_room (Nat.le_of_ble_eq_true rfl)) dX4_feed_1 ⟨Nat.zero_le _, Nat.zero_le _⟩) hP hD hS hA [] [0, 1, 2, 3, 4, 5, 6, 7, 8, 9] [0, 1, 2, 3, 4, 5, 6, 7, 8, 9] rfl rfl (by decide) (by decide) rfl (by decide) (fun H locs hP hD hS => ?_)
  refine lv_if_ne (tgt := 10) hx hb dX4_feed_4 (by decide) (fun c_1 => ?_) (fun c_1 => ?_)
  · refine lv_iload_n hx hb dX4_feed_10 rfl (lv_at hl 2 rfl) ?_
    refine lv_i2l (v := w.toInt64) hx hb dX4_feed_11 rfl ?_
    refine lv_lconst (v := 0) hx hb dX4_feed_12 (by decide) ?_
    refine lv_ldc2 (v := 20) hx hb hown (hts (.constantLong RX4 111 (20)) (by decide +kernel)) dX4_feed_13 ?_
    refine ck_iD (wr := wM Y mo q M) (ws' := wM Y mo q M) (va_runS (As := [.long w.toInt64, .long 0, .long 20]) (rest := []) ⟨hx, hb, hml, hown, hts⟩ (c_X4_in l D Y H.size w.toInt64 0 20) (va_cwS 3 hts gX4_feed_X4_in rfl rfl rfl (by decide +kernel) ⟨Nat.le_of_ble_eq_true rfl, Nat.le_of_ble_eq_true rfl⟩) (pst_S hK hP hD [] rfl (by decide)) rfl rfl hl.1 rfl (lv_room (Nat.le_of_ble_eq_true rfl)) dX4_feed_16 ⟨Nat.zero_le _, Nat.zero_le _⟩) hP hD hS hA [] [0, 1, 2, 3, 4, 5, 6, 7, 8, 9] [0, 1, 2, 3, 4, 5, 6, 7, 8, 9] rfl rfl (by decide) (by decide) rfl (by decide) (fun H locs hP hD hS => ?_)
    refine lv_if_ne (tgt := 25) hx hb dX4_feed_19 (by decide) (fun c_2 => ?_) (fun c_2 => ?_)
    · refine lv_aload_n hx hb dX4_feed_25 rfl (lv_at hl 0 rfl) ?_
      refine ck_vD (wr := ([] : va_W)) (ws' := wM Y mo q (D_X4_changes M)) (va_runV (As := []) (rest := []) ⟨hx, hb, hml, hown, hts⟩ (c_X4_changes l D Y H.size q M mo h0) (cwV 0 hts gX4_feed_X4_changes rfl rfl rfl (by decide +kernel) ⟨Nat.le_of_ble_eq_true rfl, Nat.le_of_ble_eq_true rfl⟩) (pst_V hK hP hD [0, 1, 2, 3, 4, 5, 6, 7, 8, 9] rfl (by decide) (q0 := 0) rfl rfl) rfl rfl hl.1 rfl (lv_room (Nat.le_of_ble_eq_true rfl)) dX4_feed_26 ⟨Nat.zero_le _, Nat.zero_le _⟩) hP hD hS hA [0, 1, 2, 3, 4, 5, 6, 7, 8, 9] [] [0, 1, 2, 3, 4, 5, 6, 7, 8, 9] rfl rfl (by decide) (by decide) rfl (by decide) (fun H locs hP hD hS => ?_)
      obtain ⟨S_1, eS_1⟩ : ∃ z9, (D_X4_changes M) = z9 := ⟨_, rfl⟩
      rw [eS_1] at hP hD
      refine lv_aload_n hx hb dX4_feed_29 rfl (lv_at hl 0 rfl) ?_
      refine va_get (D := D) (ci := 4) (v := .ref (q 0)) (C := RX4) (T := TX4) (N := 13) hx hb hts in_X4_feed_RX4 hown hK.1 hP 0 rfl rfl 0 (by decide) (hts (.fieldLink RX4 7 "NineDancersModel" "all" "[I") (by decide +kernel)) (fun _ h9 => h9) rfl dX4_feed_30 ?_
      refine lv_bipush (v := 24) hx hb dX4_feed_33 (by decide) ?_
      refine lv_iload_n hx hb dX4_feed_35 rfl (lv_at hl 1 rfl) ?_
      refine lv_iadd hx hb dX4_feed_36 ?_
      refine va_iald (D := D) hx hb hK.1 hP 1 0 rfl rfl (my_wid (my_off 24 (f4_isVillager c_1) (Nat.le_refl _) (by decide)) (by decide) (by decide)) dX4_feed_37 ?_
      refine lv_istore_n (lv' := [(3, .int (S_1 0 (24 + v).toNatClampNeg)), (0, .ref mo), (1, .int v), (2, .int w)]) hx hb dX4_feed_38 rfl hl (by decide) rfl (fun ls hl => ?_)
      refine lv_aload_n hx hb dX4_feed_39 rfl (lv_at hl 1 rfl) ?_
      refine va_get (D := D) (ci := 4) (v := .ref (q 0)) (C := RX4) (T := TX4) (N := 13) hx hb hts in_X4_feed_RX4 hown hK.1 hP 0 rfl rfl 0 (by decide) (hts (.fieldLink RX4 7 "NineDancersModel" "all" "[I") (by decide +kernel)) (fun _ h9 => h9) rfl dX4_feed_40 ?_
      refine lv_bipush (v := 24) hx hb dX4_feed_43 (by decide) ?_
      refine lv_iload_n hx hb dX4_feed_45 rfl (lv_at hl 2 rfl) ?_
      refine lv_iadd hx hb dX4_feed_46 ?_
      refine lv_iload_n hx hb dX4_feed_47 rfl (lv_at hl 3 rfl) ?_
      refine va_iast (D := D) hx hb hK.1 hP hD hS 1 0 rfl rfl (my_wid (my_off 24 (f4_isVillager c_1) (Nat.le_refl _) (by decide)) (by decide) (by decide)) dX4_feed_48 (fun H locs hP hD hS => ?_)
      have hP : va_P D vwCl (wM Y mo q (T_X4_feed_1 v w S_1)) H := hP
      have hD : va_D A (wM Y mo q (T_X4_feed_1 v w S_1)) := hD
      obtain ⟨S_2, eS_2⟩ : ∃ z9, T_X4_feed_1 v w S_1 = z9 := ⟨_, rfl⟩
      rw [eS_2] at hP hD
      refine lv_iload_n hx hb dX4_feed_49 rfl (lv_at hl 0 rfl) ?_
      subst eS_2
      subst eS_1
      have e9 : D_X4_feed M v w = ((D_X4_changes M) 0 (24 + v).toNatClampNeg, (T_X4_feed_1 v w (D_X4_changes M))) := by rw [D_X4_feed, if_neg c_1, if_neg c_2]
      exact ret_i hx hb hr hlk hP hD hS dX4_feed_50 ⟨Nat.zero_le _, Nat.zero_le _⟩ ⟨by rw [e9], by rw [e9]⟩
    · refine lv_ldc (v := (-1000002)) hx hb hown (hts (.constant RX4 91 (-1000002)) (by decide +kernel)) dX4_feed_22 ?_
      have e9 : D_X4_feed M v w = ((-1000002), M) := by rw [D_X4_feed, if_neg c_1, if_pos c_2]
      exact ret_i hx hb hr hlk hP hD hS dX4_feed_24 ⟨Nat.zero_le _, Nat.zero_le _⟩ ⟨by rw [e9], by rw [e9]⟩
  · refine lv_ldc (v := (-1000001)) hx hb hown (hts (.constant RX4 98 (-1000001)) (by decide +kernel)) dX4_feed_7 ?_
    have e9 : D_X4_feed M v w = ((-1000001), M) := by rw [D_X4_feed, if_pos c_1]
    exact ret_i hx hb hr hlk hP hD hS dX4_feed_9 ⟨Nat.zero_le _, Nat.zero_le _⟩ ⟨by rw [e9], by rw [e9]⟩
def D_X4_villager (M : Nat → Nat → Int32) (v : Int32) (w : Int32) : (Int32) := if (D_X4_isVillager v) = 0 then (-1000001) else (if w = 0 then (M 0 ((15 + (9 * w)) + v).toNatClampNeg) else (if w = 1 then (M 0 ((15 + (9 * w)) + v).toNatClampNeg) else (if w = 2 then (M 0 ((15 + (9 * w)) + v).toNatClampNeg) else (if w = 3 then (M 0 ((15 + (9 * w)) + v).toNatClampNeg) else (if w = 4 then (M 0 ((15 + (9 * w)) + v).toNatClampNeg) else (if w = 5 then (M 0 ((15 + (9 * w)) + v).toNatClampNeg) else (if w = 6 then (D_X4_metBy M v) else (if w = 7 then (D_X4_mostOften M v) else (-1000002)))))))))
set_option maxRecDepth 100000 in
theorem in_X4_villager_RX4 : ∀ w ∈ u_ws RX4 TX4 13, w ∈ wsX4_villager := by decide +kernel
set_option maxHeartbeats 4000000 in
set_option maxRecDepth 100000 in
theorem c_X4_villager (l : Launch) (D : va_G) (Y : YY) (sz : Nat) (q : Nat → Nat) (M : Nat → Nat → Int32) (mo : Nat) (v : Int32) (w : Int32) : Met l yX4_villager wsX4_villager ({ frames := 2, cells := 0, slots := 0, locals := 46 } : Room) (va_Pc [.ref mo, .int v, .int w] (Pst D Y sz (wM Y mo q M))) ((fun A : Nat → Prop => Qsi D (fun r9 w9 => r9 = D_X4_villager M v w ∧ w9 = wM Y mo q M) A) (va_A (wM Y mo q M) sz)) 0 0 (va_A (wM Y mo q M) sz) := by
  refine ct_in (cc := cX4_villager) (maxL := 3) (ret := (some .int)) (Qc := fun A : Nat → Prop => Qsi D (fun r9 w9 => r9 = D_X4_villager M v w ∧ w9 = wM Y mo q M) A) (by decide +kernel) rfl (Nat.le_of_ble_eq_true rfl) ?_
  intro p e s m below meth c A ls hx hb hr hts hown hml hlk hin hsz hA hP hD hK hS hl
  have hown : s.vm.findClass RX4 = some m.cls := hown
  have hl : lv_has ls 3 [(0, .ref mo), (1, .int v), (2, .int w)] := hl
  show W p l e ({ frames := 2, cells := 0, slots := 0, locals := 46 } : Room) s m ([.ref mo, .int v, .int w] : List Value).toArray below meth c s.heap [] 0 0 (MQ below (Qsi D (fun r9 w9 => r9 = D_X4_villager M v w ∧ w9 = wM Y mo q M) A) ([.ref mo, .int v, .int w] : List Value).toArray s 0 0 A) (F0 m 0 ls [])
  refine lv_iload_n hx hb dX4_villager_0 rfl (lv_at hl 1 rfl) ?_
  refine ck_iD (wr := wM Y mo q M) (ws' := wM Y mo q M) (va_runS (As := [.int v]) (rest := []) ⟨hx, hb, hml, hown, hts⟩ (c_X4_isVillager l D Y s.heap.size v) (va_cwS 1 hts gX4_villager_X4_isVillager rfl rfl rfl (by decide +kernel) ⟨Nat.le_of_ble_eq_true rfl, Nat.le_of_ble_eq_true rfl⟩) (pst_S hK hP hD [] rfl (by decide)) rfl rfl hl.1 rfl (lv_room (Nat.le_of_ble_eq_true rfl)) dX4_villager_1 ⟨Nat.zero_le _, Nat.zero_le _⟩) hP hD hS hA [] [0, 1, 2, 3, 4, 5, 6, 7, 8, 9] [0, 1, 2, 3, 4, 5, 6, 7, 8, 9] rfl rfl (by decide) (by decide) rfl (by decide) (fun H locs hP hD hS => ?_)
  refine lv_if_ne (tgt := 10) hx hb dX4_villager_4 (by decide) (fun c_1 => ?_) (fun c_1 => ?_)
  · refine lv_iload_n hx hb dX4_villager_10 rfl (lv_at hl 2 rfl) ?_
    rcases Decidable.em (w = 0) with c_2 | c_2
    · refine lv_tableIn (off := 45) (tgt := 56) hx hb dX4_villager_11 (by rw [c_2]; decide) (by rw [c_2]; decide) (by rw [c_2]; rfl) (by decide) ?_
      refine lv_aload_n hx hb dX4_villager_56 rfl (lv_at hl 0 rfl) ?_
      refine va_get (D := D) (ci := 4) (v := .ref (q 0)) (C := RX4) (T := TX4) (N := 13) hx hb hts in_X4_villager_RX4 hown hK.1 hP 0 rfl rfl 0 (by decide) (hts (.fieldLink RX4 7 "NineDancersModel" "all" "[I") (by decide +kernel)) (fun _ h9 => h9) rfl dX4_villager_57 ?_
      refine lv_bipush (v := 15) hx hb dX4_villager_60 (by decide) ?_
      refine lv_bipush (v := 9) hx hb dX4_villager_62 (by decide) ?_
      refine lv_iload_n hx hb dX4_villager_64 rfl (lv_at hl 2 rfl) ?_
      refine lv_imul hx hb dX4_villager_65 ?_
      refine lv_iadd hx hb dX4_villager_66 ?_
      refine lv_iload_n hx hb dX4_villager_67 rfl (lv_at hl 1 rfl) ?_
      refine lv_iadd hx hb dX4_villager_68 ?_
      refine va_iald (D := D) hx hb hK.1 hP 1 0 rfl rfl (my_wid (my_add (my_off 15 (my_mul 9 (show vp_in w 1 from by rw [c_2]; unfold vp_in; decide) (by decide) (by decide) : vp_in (9 * w) 1) (Nat.le_refl _) (by decide)) (f4_isVillager c_1) (by decide) (by decide) : vp_in ((15 + (9 * w)) + v) 24) (by decide) (by decide)) dX4_villager_69 ?_
      have e9 : D_X4_villager M v w = M 0 ((15 + (9 * w)) + v).toNatClampNeg := by rw [D_X4_villager, if_neg c_1, if_pos c_2]
      exact ret_i hx hb hr hlk hP hD hS dX4_villager_70 ⟨Nat.zero_le _, Nat.zero_le _⟩ ⟨e9.symm, rfl⟩
    rcases Decidable.em (w = 1) with c_3 | c_3
    · refine lv_tableIn (off := 45) (tgt := 56) hx hb dX4_villager_11 (by rw [c_3]; decide) (by rw [c_3]; decide) (by rw [c_3]; rfl) (by decide) ?_
      refine lv_aload_n hx hb dX4_villager_56 rfl (lv_at hl 0 rfl) ?_
      refine va_get (D := D) (ci := 4) (v := .ref (q 0)) (C := RX4) (T := TX4) (N := 13) hx hb hts in_X4_villager_RX4 hown hK.1 hP 0 rfl rfl 0 (by decide) (hts (.fieldLink RX4 7 "NineDancersModel" "all" "[I") (by decide +kernel)) (fun _ h9 => h9) rfl dX4_villager_57 ?_
      refine lv_bipush (v := 15) hx hb dX4_villager_60 (by decide) ?_
      refine lv_bipush (v := 9) hx hb dX4_villager_62 (by decide) ?_
      refine lv_iload_n hx hb dX4_villager_64 rfl (lv_at hl 2 rfl) ?_
      refine lv_imul hx hb dX4_villager_65 ?_
      refine lv_iadd hx hb dX4_villager_66 ?_
      refine lv_iload_n hx hb dX4_villager_67 rfl (lv_at hl 1 rfl) ?_
      refine lv_iadd hx hb dX4_villager_68 ?_
      refine va_iald (D := D) hx hb hK.1 hP 1 0 rfl rfl (my_wid (my_add (my_off 15 (my_mul 9 (show vp_in w 2 from by rw [c_3]; unfold vp_in; decide) (by decide) (by decide) : vp_in (9 * w) 10) (Nat.le_refl _) (by decide)) (f4_isVillager c_1) (by decide) (by decide) : vp_in ((15 + (9 * w)) + v) 33) (by decide) (by decide)) dX4_villager_69 ?_
      have e9 : D_X4_villager M v w = M 0 ((15 + (9 * w)) + v).toNatClampNeg := by rw [D_X4_villager, if_neg c_1, if_neg c_2, if_pos c_3]
      exact ret_i hx hb hr hlk hP hD hS dX4_villager_70 ⟨Nat.zero_le _, Nat.zero_le _⟩ ⟨e9.symm, rfl⟩
    rcases Decidable.em (w = 2) with c_4 | c_4
    · refine lv_tableIn (off := 45) (tgt := 56) hx hb dX4_villager_11 (by rw [c_4]; decide) (by rw [c_4]; decide) (by rw [c_4]; rfl) (by decide) ?_
      refine lv_aload_n hx hb dX4_villager_56 rfl (lv_at hl 0 rfl) ?_
      refine va_get (D := D) (ci := 4) (v := .ref (q 0)) (C := RX4) (T := TX4) (N := 13) hx hb hts in_X4_villager_RX4 hown hK.1 hP 0 rfl rfl 0 (by decide) (hts (.fieldLink RX4 7 "NineDancersModel" "all" "[I") (by decide +kernel)) (fun _ h9 => h9) rfl dX4_villager_57 ?_
      refine lv_bipush (v := 15) hx hb dX4_villager_60 (by decide) ?_
      refine lv_bipush (v := 9) hx hb dX4_villager_62 (by decide) ?_
      refine lv_iload_n hx hb dX4_villager_64 rfl (lv_at hl 2 rfl) ?_
      refine lv_imul hx hb dX4_villager_65 ?_
      refine lv_iadd hx hb dX4_villager_66 ?_
      refine lv_iload_n hx hb dX4_villager_67 rfl (lv_at hl 1 rfl) ?_
      refine lv_iadd hx hb dX4_villager_68 ?_
      refine va_iald (D := D) hx hb hK.1 hP 1 0 rfl rfl (my_wid (my_add (my_off 15 (my_mul 9 (show vp_in w 3 from by rw [c_4]; unfold vp_in; decide) (by decide) (by decide) : vp_in (9 * w) 19) (Nat.le_refl _) (by decide)) (f4_isVillager c_1) (by decide) (by decide) : vp_in ((15 + (9 * w)) + v) 42) (by decide) (by decide)) dX4_villager_69 ?_
      have e9 : D_X4_villager M v w = M 0 ((15 + (9 * w)) + v).toNatClampNeg := by rw [D_X4_villager, if_neg c_1, if_neg c_2, if_neg c_3, if_pos c_4]
      exact ret_i hx hb hr hlk hP hD hS dX4_villager_70 ⟨Nat.zero_le _, Nat.zero_le _⟩ ⟨e9.symm, rfl⟩
    rcases Decidable.em (w = 3) with c_5 | c_5
    · refine lv_tableIn (off := 45) (tgt := 56) hx hb dX4_villager_11 (by rw [c_5]; decide) (by rw [c_5]; decide) (by rw [c_5]; rfl) (by decide) ?_
      refine lv_aload_n hx hb dX4_villager_56 rfl (lv_at hl 0 rfl) ?_
      refine va_get (D := D) (ci := 4) (v := .ref (q 0)) (C := RX4) (T := TX4) (N := 13) hx hb hts in_X4_villager_RX4 hown hK.1 hP 0 rfl rfl 0 (by decide) (hts (.fieldLink RX4 7 "NineDancersModel" "all" "[I") (by decide +kernel)) (fun _ h9 => h9) rfl dX4_villager_57 ?_
      refine lv_bipush (v := 15) hx hb dX4_villager_60 (by decide) ?_
      refine lv_bipush (v := 9) hx hb dX4_villager_62 (by decide) ?_
      refine lv_iload_n hx hb dX4_villager_64 rfl (lv_at hl 2 rfl) ?_
      refine lv_imul hx hb dX4_villager_65 ?_
      refine lv_iadd hx hb dX4_villager_66 ?_
      refine lv_iload_n hx hb dX4_villager_67 rfl (lv_at hl 1 rfl) ?_
      refine lv_iadd hx hb dX4_villager_68 ?_
      refine va_iald (D := D) hx hb hK.1 hP 1 0 rfl rfl (my_wid (my_add (my_off 15 (my_mul 9 (show vp_in w 4 from by rw [c_5]; unfold vp_in; decide) (by decide) (by decide) : vp_in (9 * w) 28) (Nat.le_refl _) (by decide)) (f4_isVillager c_1) (by decide) (by decide) : vp_in ((15 + (9 * w)) + v) 51) (by decide) (by decide)) dX4_villager_69 ?_
      have e9 : D_X4_villager M v w = M 0 ((15 + (9 * w)) + v).toNatClampNeg := by rw [D_X4_villager, if_neg c_1, if_neg c_2, if_neg c_3, if_neg c_4, if_pos c_5]
      exact ret_i hx hb hr hlk hP hD hS dX4_villager_70 ⟨Nat.zero_le _, Nat.zero_le _⟩ ⟨e9.symm, rfl⟩
    rcases Decidable.em (w = 4) with c_6 | c_6
    · refine lv_tableIn (off := 45) (tgt := 56) hx hb dX4_villager_11 (by rw [c_6]; decide) (by rw [c_6]; decide) (by rw [c_6]; rfl) (by decide) ?_
      refine lv_aload_n hx hb dX4_villager_56 rfl (lv_at hl 0 rfl) ?_
      refine va_get (D := D) (ci := 4) (v := .ref (q 0)) (C := RX4) (T := TX4) (N := 13) hx hb hts in_X4_villager_RX4 hown hK.1 hP 0 rfl rfl 0 (by decide) (hts (.fieldLink RX4 7 "NineDancersModel" "all" "[I") (by decide +kernel)) (fun _ h9 => h9) rfl dX4_villager_57 ?_
      refine lv_bipush (v := 15) hx hb dX4_villager_60 (by decide) ?_
      refine lv_bipush (v := 9) hx hb dX4_villager_62 (by decide) ?_
      refine lv_iload_n hx hb dX4_villager_64 rfl (lv_at hl 2 rfl) ?_
      refine lv_imul hx hb dX4_villager_65 ?_
      refine lv_iadd hx hb dX4_villager_66 ?_
      refine lv_iload_n hx hb dX4_villager_67 rfl (lv_at hl 1 rfl) ?_
      refine lv_iadd hx hb dX4_villager_68 ?_
      refine va_iald (D := D) hx hb hK.1 hP 1 0 rfl rfl (my_wid (my_add (my_off 15 (my_mul 9 (show vp_in w 5 from by rw [c_6]; unfold vp_in; decide) (by decide) (by decide) : vp_in (9 * w) 37) (Nat.le_refl _) (by decide)) (f4_isVillager c_1) (by decide) (by decide) : vp_in ((15 + (9 * w)) + v) 60) (by decide) (by decide)) dX4_villager_69 ?_
      have e9 : D_X4_villager M v w = M 0 ((15 + (9 * w)) + v).toNatClampNeg := by rw [D_X4_villager, if_neg c_1, if_neg c_2, if_neg c_3, if_neg c_4, if_neg c_5, if_pos c_6]
      exact ret_i hx hb hr hlk hP hD hS dX4_villager_70 ⟨Nat.zero_le _, Nat.zero_le _⟩ ⟨e9.symm, rfl⟩
    rcases Decidable.em (w = 5) with c_7 | c_7
    · refine lv_tableIn (off := 45) (tgt := 56) hx hb dX4_villager_11 (by rw [c_7]; decide) (by rw [c_7]; decide) (by rw [c_7]; rfl) (by decide) ?_
      refine lv_aload_n hx hb dX4_villager_56 rfl (lv_at hl 0 rfl) ?_
      refine va_get (D := D) (ci := 4) (v := .ref (q 0)) (C := RX4) (T := TX4) (N := 13) hx hb hts in_X4_villager_RX4 hown hK.1 hP 0 rfl rfl 0 (by decide) (hts (.fieldLink RX4 7 "NineDancersModel" "all" "[I") (by decide +kernel)) (fun _ h9 => h9) rfl dX4_villager_57 ?_
      refine lv_bipush (v := 15) hx hb dX4_villager_60 (by decide) ?_
      refine lv_bipush (v := 9) hx hb dX4_villager_62 (by decide) ?_
      refine lv_iload_n hx hb dX4_villager_64 rfl (lv_at hl 2 rfl) ?_
      refine lv_imul hx hb dX4_villager_65 ?_
      refine lv_iadd hx hb dX4_villager_66 ?_
      refine lv_iload_n hx hb dX4_villager_67 rfl (lv_at hl 1 rfl) ?_
      refine lv_iadd hx hb dX4_villager_68 ?_
      refine va_iald (D := D) hx hb hK.1 hP 1 0 rfl rfl (my_wid (my_add (my_off 15 (my_mul 9 (show vp_in w 6 from by rw [c_7]; unfold vp_in; decide) (by decide) (by decide) : vp_in (9 * w) 46) (Nat.le_refl _) (by decide)) (f4_isVillager c_1) (by decide) (by decide) : vp_in ((15 + (9 * w)) + v) 69) (by decide) (by decide)) dX4_villager_69 ?_
      have e9 : D_X4_villager M v w = M 0 ((15 + (9 * w)) + v).toNatClampNeg := by rw [D_X4_villager, if_neg c_1, if_neg c_2, if_neg c_3, if_neg c_4, if_neg c_5, if_neg c_6, if_pos c_7]
      exact ret_i hx hb hr hlk hP hD hS dX4_villager_70 ⟨Nat.zero_le _, Nat.zero_le _⟩ ⟨e9.symm, rfl⟩
    rcases Decidable.em (w = 6) with c_8 | c_8
    · refine lv_tableIn (off := 60) (tgt := 71) hx hb dX4_villager_11 (by rw [c_8]; decide) (by rw [c_8]; decide) (by rw [c_8]; rfl) (by decide) ?_
      refine lv_aload_n hx hb dX4_villager_71 rfl (lv_at hl 0 rfl) ?_
      refine lv_iload_n hx hb dX4_villager_72 rfl (lv_at hl 1 rfl) ?_
      refine ck_iD (wr := ([] : va_W)) (ws' := wM Y mo q M) (va_runV (As := [.int v]) (rest := []) ⟨hx, hb, hml, hown, hts⟩ (c_X4_metBy l D Y H.size q M mo v (f4_isVillager c_1)) (cwV 1 hts gX4_villager_X4_metBy rfl rfl rfl (by decide +kernel) ⟨Nat.le_of_ble_eq_true rfl, Nat.le_of_ble_eq_true rfl⟩) (pst_V hK hP hD [0, 1, 2, 3, 4, 5, 6, 7, 8, 9] rfl (by decide) (q0 := 0) rfl rfl) rfl rfl hl.1 rfl (lv_room (Nat.le_of_ble_eq_true rfl)) dX4_villager_73 ⟨Nat.zero_le _, Nat.zero_le _⟩) hP hD hS hA [0, 1, 2, 3, 4, 5, 6, 7, 8, 9] [] [0, 1, 2, 3, 4, 5, 6, 7, 8, 9] rfl rfl (by decide) (by decide) rfl (by decide) (fun H locs hP hD hS => ?_)
      have e9 : D_X4_villager M v w = D_X4_metBy M v := by rw [D_X4_villager, if_neg c_1, if_neg c_2, if_neg c_3, if_neg c_4, if_neg c_5, if_neg c_6, if_neg c_7, if_pos c_8]
      exact ret_i hx hb hr hlk hP hD hS dX4_villager_76 ⟨Nat.zero_le _, Nat.zero_le _⟩ ⟨e9.symm, rfl⟩
    rcases Decidable.em (w = 7) with c_9 | c_9
    · refine lv_tableIn (off := 66) (tgt := 77) hx hb dX4_villager_11 (by rw [c_9]; decide) (by rw [c_9]; decide) (by rw [c_9]; rfl) (by decide) ?_
      refine lv_aload_n hx hb dX4_villager_77 rfl (lv_at hl 0 rfl) ?_
      refine lv_iload_n hx hb dX4_villager_78 rfl (lv_at hl 1 rfl) ?_
      refine ck_iD (wr := ([] : va_W)) (ws' := wM Y mo q M) (va_runV (As := [.int v]) (rest := []) ⟨hx, hb, hml, hown, hts⟩ (c_X4_mostOften l D Y H.size q M mo v (f4_isVillager c_1)) (cwV 1 hts gX4_villager_X4_mostOften rfl rfl rfl (by decide +kernel) ⟨Nat.le_of_ble_eq_true rfl, Nat.le_of_ble_eq_true rfl⟩) (pst_V hK hP hD [0, 1, 2, 3, 4, 5, 6, 7, 8, 9] rfl (by decide) (q0 := 0) rfl rfl) rfl rfl hl.1 rfl (lv_room (Nat.le_of_ble_eq_true rfl)) dX4_villager_79 ⟨Nat.zero_le _, Nat.zero_le _⟩) hP hD hS hA [0, 1, 2, 3, 4, 5, 6, 7, 8, 9] [] [0, 1, 2, 3, 4, 5, 6, 7, 8, 9] rfl rfl (by decide) (by decide) rfl (by decide) (fun H locs hP hD hS => ?_)
      have e9 : D_X4_villager M v w = D_X4_mostOften M v := by rw [D_X4_villager, if_neg c_1, if_neg c_2, if_neg c_3, if_neg c_4, if_neg c_5, if_neg c_6, if_neg c_7, if_neg c_8, if_pos c_9]
      exact ret_i hx hb hr hlk hP hD hS dX4_villager_82 ⟨Nat.zero_le _, Nat.zero_le _⟩ ⟨e9.symm, rfl⟩
    refine lv_tableOut (tgt := 83) hx hb dX4_villager_11 (by have z0 := lv_neT c_2 (show (0 : Int32).toInt = 0 from rfl); have z1 := lv_neT c_3 (show (1 : Int32).toInt = 1 from rfl); have z2 := lv_neT c_4 (show (2 : Int32).toInt = 2 from rfl); have z3 := lv_neT c_5 (show (3 : Int32).toInt = 3 from rfl); have z4 := lv_neT c_6 (show (4 : Int32).toInt = 4 from rfl); have z5 := lv_neT c_7 (show (5 : Int32).toInt = 5 from rfl); have z6 := lv_neT c_8 (show (6 : Int32).toInt = 6 from rfl); have z7 := lv_neT c_9 (show (7 : Int32).toInt = 7 from rfl); omega) (by decide) ?_
    refine lv_ldc (v := (-1000002)) hx hb hown (hts (.constant RX4 91 (-1000002)) (by decide +kernel)) dX4_villager_83 ?_
    have e9 : D_X4_villager M v w = (-1000002) := by rw [D_X4_villager, if_neg c_1, if_neg c_2, if_neg c_3, if_neg c_4, if_neg c_5, if_neg c_6, if_neg c_7, if_neg c_8, if_neg c_9]
    exact ret_i hx hb hr hlk hP hD hS dX4_villager_85 ⟨Nat.zero_le _, Nat.zero_le _⟩ ⟨e9.symm, rfl⟩
  · refine lv_ldc (v := (-1000001)) hx hb hown (hts (.constant RX4 98 (-1000001)) (by decide +kernel)) dX4_villager_7 ?_
    have e9 : D_X4_villager M v w = (-1000001) := by rw [D_X4_villager, if_pos c_1]
    exact ret_i hx hb hr hlk hP hD hS dX4_villager_9 ⟨Nat.zero_le _, Nat.zero_le _⟩ ⟨e9.symm, rfl⟩
def D_X4_pair (M : Nat → Nat → Int32) (a : Int32) (b : Int32) (w : Int32) : (Int32) := if (D_X4_isVillager a) = 0 then (-1000001) else (if (D_X4_isVillager b) = 0 then (-1000001) else (if a = b then (-1000002) else (if w = 0 then (M 0 (69 + (D_X4_pairAt a b)).toNatClampNeg) else (if w = 1 then (M 0 (150 + (D_X4_pairAt a b)).toNatClampNeg) else (if w = 2 then (a + b) - (a + b) / 9 * 9 else (if w = 3 then (M 0 (6 + ((a + b) - (a + b) / 9 * 9)).toNatClampNeg) else (if w = 4 then (M 0 (231 + (D_X4_pairAt a b)).toNatClampNeg) else (-1000002))))))))
set_option maxRecDepth 100000 in
theorem in_X4_pair_RX4 : ∀ w ∈ u_ws RX4 TX4 13, w ∈ wsX4_pair := by decide +kernel
set_option maxHeartbeats 4000000 in
set_option maxRecDepth 100000 in
theorem c_X4_pair (l : Launch) (D : va_G) (Y : YY) (sz : Nat) (q : Nat → Nat) (M : Nat → Nat → Int32) (mo : Nat) (a : Int32) (b : Int32) (w : Int32) : Met l yX4_pair wsX4_pair ({ frames := 2, cells := 0, slots := 0, locals := 45 } : Room) (va_Pc [.ref mo, .int a, .int b, .int w] (Pst D Y sz (wM Y mo q M))) ((fun A : Nat → Prop => Qsi D (fun r9 w9 => r9 = D_X4_pair M a b w ∧ w9 = wM Y mo q M) A) (va_A (wM Y mo q M) sz)) 0 0 (va_A (wM Y mo q M) sz) := by
  refine ct_in (cc := cX4_pair) (maxL := 5) (ret := (some .int)) (Qc := fun A : Nat → Prop => Qsi D (fun r9 w9 => r9 = D_X4_pair M a b w ∧ w9 = wM Y mo q M) A) (by decide +kernel) rfl (Nat.le_of_ble_eq_true rfl) ?_
  intro p e s m below meth c A ls hx hb hr hts hown hml hlk hin hsz hA hP hD hK hS hl
  have hown : s.vm.findClass RX4 = some m.cls := hown
  have hl : lv_has ls 5 [(0, .ref mo), (1, .int a), (2, .int b), (3, .int w)] := hl
  show W p l e ({ frames := 2, cells := 0, slots := 0, locals := 45 } : Room) s m ([.ref mo, .int a, .int b, .int w] : List Value).toArray below meth c s.heap [] 0 0 (MQ below (Qsi D (fun r9 w9 => r9 = D_X4_pair M a b w ∧ w9 = wM Y mo q M) A) ([.ref mo, .int a, .int b, .int w] : List Value).toArray s 0 0 A) (F0 m 0 ls [])
  refine lv_iload_n hx hb dX4_pair_0 rfl (lv_at hl 1 rfl) ?_
  refine ck_iD (wr := wM Y mo q M) (ws' := wM Y mo q M) (va_runS (As := [.int a]) (rest := []) ⟨hx, hb, hml, hown, hts⟩ (c_X4_isVillager l D Y s.heap.size a) (va_cwS 1 hts gX4_pair_X4_isVillager rfl rfl rfl (by decide +kernel) ⟨Nat.le_of_ble_eq_true rfl, Nat.le_of_ble_eq_true rfl⟩) (pst_S hK hP hD [] rfl (by decide)) rfl rfl hl.1 rfl (lv_room (Nat.le_of_ble_eq_true rfl)) dX4_pair_1 ⟨Nat.zero_le _, Nat.zero_le _⟩) hP hD hS hA [] [0, 1, 2, 3, 4, 5, 6, 7, 8, 9] [0, 1, 2, 3, 4, 5, 6, 7, 8, 9] rfl rfl (by decide) (by decide) rfl (by decide) (fun H locs hP hD hS => ?_)
  refine lv_if_eq (tgt := 14) hx hb dX4_pair_4 (by decide) (fun c_1 => ?_) (fun c_1 => ?_)
  · refine lv_ldc (v := (-1000001)) hx hb hown (hts (.constant RX4 98 (-1000001)) (by decide +kernel)) dX4_pair_14 ?_
    have e9 : D_X4_pair M a b w = (-1000001) := by rw [D_X4_pair, if_pos c_1]
    exact ret_i hx hb hr hlk hP hD hS dX4_pair_16 ⟨Nat.zero_le _, Nat.zero_le _⟩ ⟨e9.symm, rfl⟩
  · refine lv_iload_n hx hb dX4_pair_7 rfl (lv_at hl 2 rfl) ?_
    refine ck_iD (wr := wM Y mo q M) (ws' := wM Y mo q M) (va_runS (As := [.int b]) (rest := []) ⟨hx, hb, hml, hown, hts⟩ (c_X4_isVillager l D Y H.size b) (va_cwS 1 hts gX4_pair_X4_isVillager rfl rfl rfl (by decide +kernel) ⟨Nat.le_of_ble_eq_true rfl, Nat.le_of_ble_eq_true rfl⟩) (pst_S hK hP hD [] rfl (by decide)) rfl rfl hl.1 rfl (lv_room (Nat.le_of_ble_eq_true rfl)) dX4_pair_8 ⟨Nat.zero_le _, Nat.zero_le _⟩) hP hD hS hA [] [0, 1, 2, 3, 4, 5, 6, 7, 8, 9] [0, 1, 2, 3, 4, 5, 6, 7, 8, 9] rfl rfl (by decide) (by decide) rfl (by decide) (fun H locs hP hD hS => ?_)
    refine lv_if_ne (tgt := 17) hx hb dX4_pair_11 (by decide) (fun c_2 => ?_) (fun c_2 => ?_)
    · refine lv_iload_n hx hb dX4_pair_17 rfl (lv_at hl 1 rfl) ?_
      refine lv_iload_n hx hb dX4_pair_18 rfl (lv_at hl 2 rfl) ?_
      refine lv_icmp_ne (tgt := 25) hx hb dX4_pair_19 (by decide) (fun c_3 => ?_) (fun c_3 => ?_)
      · refine lv_iload_n hx hb dX4_pair_25 rfl (lv_at hl 1 rfl) ?_
        refine lv_iload_n hx hb dX4_pair_26 rfl (lv_at hl 2 rfl) ?_
        refine ck_iD (wr := wM Y mo q M) (ws' := wM Y mo q M) (va_runS (As := [.int a, .int b]) (rest := []) ⟨hx, hb, hml, hown, hts⟩ (c_X4_pairAt l D Y H.size a b) (va_cwS 2 hts gX4_pair_X4_pairAt rfl rfl rfl (by decide +kernel) ⟨Nat.le_of_ble_eq_true rfl, Nat.le_of_ble_eq_true rfl⟩) (pst_S hK hP hD [] rfl (by decide)) rfl rfl hl.1 rfl (lv_room (Nat.le_of_ble_eq_true rfl)) dX4_pair_27 ⟨Nat.zero_le _, Nat.zero_le _⟩) hP hD hS hA [] [0, 1, 2, 3, 4, 5, 6, 7, 8, 9] [0, 1, 2, 3, 4, 5, 6, 7, 8, 9] rfl rfl (by decide) (by decide) rfl (by decide) (fun H locs hP hD hS => ?_)
        refine lv_istore (lv' := [(4, .int (D_X4_pairAt a b)), (0, .ref mo), (1, .int a), (2, .int b), (3, .int w)]) hx hb dX4_pair_30 hl (by decide) rfl (fun ls hl => ?_)
        refine lv_iload_n hx hb dX4_pair_32 rfl (lv_at hl 4 rfl) ?_
        rcases Decidable.em (w = 0) with c_4 | c_4
        · refine lv_tableIn (off := 35) (tgt := 68) hx hb dX4_pair_33 (by rw [c_4]; decide) (by rw [c_4]; decide) (by rw [c_4]; rfl) (by decide) ?_
          refine lv_aload_n hx hb dX4_pair_68 rfl (lv_at hl 1 rfl) ?_
          refine va_get (D := D) (ci := 4) (v := .ref (q 0)) (C := RX4) (T := TX4) (N := 13) hx hb hts in_X4_pair_RX4 hown hK.1 hP 0 rfl rfl 0 (by decide) (hts (.fieldLink RX4 7 "NineDancersModel" "all" "[I") (by decide +kernel)) (fun _ h9 => h9) rfl dX4_pair_69 ?_
          refine lv_bipush (v := 69) hx hb dX4_pair_72 (by decide) ?_
          refine lv_iload hx hb dX4_pair_74 (lv_at hl 0 rfl) ?_
          refine lv_iadd hx hb dX4_pair_76 ?_
          refine va_iald (D := D) hx hb hK.1 hP 1 0 rfl rfl (my_wid (my_off 69 (in_pairAt (f4_isVillager c_1) (f4_isVillager c_2)) (Nat.le_refl _) (by decide)) (by decide) (by decide)) dX4_pair_77 ?_
          have e9 : D_X4_pair M a b w = M 0 (69 + (D_X4_pairAt a b)).toNatClampNeg := by rw [D_X4_pair, if_neg c_1, if_neg c_2, if_neg c_3, if_pos c_4]
          exact ret_i hx hb hr hlk hP hD hS dX4_pair_78 ⟨Nat.zero_le _, Nat.zero_le _⟩ ⟨e9.symm, rfl⟩
        rcases Decidable.em (w = 1) with c_5 | c_5
        · refine lv_tableIn (off := 46) (tgt := 79) hx hb dX4_pair_33 (by rw [c_5]; decide) (by rw [c_5]; decide) (by rw [c_5]; rfl) (by decide) ?_
          refine lv_aload_n hx hb dX4_pair_79 rfl (lv_at hl 1 rfl) ?_
          refine va_get (D := D) (ci := 4) (v := .ref (q 0)) (C := RX4) (T := TX4) (N := 13) hx hb hts in_X4_pair_RX4 hown hK.1 hP 0 rfl rfl 0 (by decide) (hts (.fieldLink RX4 7 "NineDancersModel" "all" "[I") (by decide +kernel)) (fun _ h9 => h9) rfl dX4_pair_80 ?_
          refine lv_sipush (v := 150) hx hb dX4_pair_83 (by decide) ?_
          refine lv_iload hx hb dX4_pair_86 (lv_at hl 0 rfl) ?_
          refine lv_iadd hx hb dX4_pair_88 ?_
          refine va_iald (D := D) hx hb hK.1 hP 1 0 rfl rfl (my_wid (my_off 150 (in_pairAt (f4_isVillager c_1) (f4_isVillager c_2)) (Nat.le_refl _) (by decide)) (by decide) (by decide)) dX4_pair_89 ?_
          have e9 : D_X4_pair M a b w = M 0 (150 + (D_X4_pairAt a b)).toNatClampNeg := by rw [D_X4_pair, if_neg c_1, if_neg c_2, if_neg c_3, if_neg c_4, if_pos c_5]
          exact ret_i hx hb hr hlk hP hD hS dX4_pair_90 ⟨Nat.zero_le _, Nat.zero_le _⟩ ⟨e9.symm, rfl⟩
        rcases Decidable.em (w = 2) with c_6 | c_6
        · refine lv_tableIn (off := 58) (tgt := 91) hx hb dX4_pair_33 (by rw [c_6]; decide) (by rw [c_6]; decide) (by rw [c_6]; rfl) (by decide) ?_
          refine lv_iload_n hx hb dX4_pair_91 rfl (lv_at hl 2 rfl) ?_
          refine lv_iload_n hx hb dX4_pair_92 rfl (lv_at hl 3 rfl) ?_
          refine lv_iadd hx hb dX4_pair_93 ?_
          refine lv_bipush (v := 9) hx hb dX4_pair_94 (by decide) ?_
          refine lv_irem hx hb dX4_pair_96 (by decide) ?_
          have e9 : D_X4_pair M a b w = (a + b) - (a + b) / 9 * 9 := by rw [D_X4_pair, if_neg c_1, if_neg c_2, if_neg c_3, if_neg c_4, if_neg c_5, if_pos c_6]
          exact ret_i hx hb hr hlk hP hD hS dX4_pair_97 ⟨Nat.zero_le _, Nat.zero_le _⟩ ⟨e9.symm, rfl⟩
        rcases Decidable.em (w = 3) with c_7 | c_7
        · refine lv_tableIn (off := 65) (tgt := 98) hx hb dX4_pair_33 (by rw [c_7]; decide) (by rw [c_7]; decide) (by rw [c_7]; rfl) (by decide) ?_
          refine lv_aload_n hx hb dX4_pair_98 rfl (lv_at hl 1 rfl) ?_
          refine va_get (D := D) (ci := 4) (v := .ref (q 0)) (C := RX4) (T := TX4) (N := 13) hx hb hts in_X4_pair_RX4 hown hK.1 hP 0 rfl rfl 0 (by decide) (hts (.fieldLink RX4 7 "NineDancersModel" "all" "[I") (by decide +kernel)) (fun _ h9 => h9) rfl dX4_pair_99 ?_
          refine lv_bipush (v := 6) hx hb dX4_pair_102 (by decide) ?_
          refine lv_iload_n hx hb dX4_pair_104 rfl (lv_at hl 2 rfl) ?_
          refine lv_iload_n hx hb dX4_pair_105 rfl (lv_at hl 3 rfl) ?_
          refine lv_iadd hx hb dX4_pair_106 ?_
          refine lv_bipush (v := 9) hx hb dX4_pair_107 (by decide) ?_
          refine lv_irem hx hb dX4_pair_109 (by decide) ?_
          refine lv_iadd hx hb dX4_pair_110 ?_
          refine va_iald (D := D) hx hb hK.1 hP 1 0 rfl rfl (my_wid (my_off 6 (my_rem (my_add (f4_isVillager c_1) (f4_isVillager c_2) (by decide) (by decide) : vp_in (a + b) 17) (by decide)) (Nat.le_refl _) (by decide)) (by decide) (by decide)) dX4_pair_111 ?_
          have e9 : D_X4_pair M a b w = M 0 (6 + ((a + b) - (a + b) / 9 * 9)).toNatClampNeg := by rw [D_X4_pair, if_neg c_1, if_neg c_2, if_neg c_3, if_neg c_4, if_neg c_5, if_neg c_6, if_pos c_7]
          exact ret_i hx hb hr hlk hP hD hS dX4_pair_112 ⟨Nat.zero_le _, Nat.zero_le _⟩ ⟨e9.symm, rfl⟩
        rcases Decidable.em (w = 4) with c_8 | c_8
        · refine lv_tableIn (off := 80) (tgt := 113) hx hb dX4_pair_33 (by rw [c_8]; decide) (by rw [c_8]; decide) (by rw [c_8]; rfl) (by decide) ?_
          refine lv_aload_n hx hb dX4_pair_113 rfl (lv_at hl 1 rfl) ?_
          refine va_get (D := D) (ci := 4) (v := .ref (q 0)) (C := RX4) (T := TX4) (N := 13) hx hb hts in_X4_pair_RX4 hown hK.1 hP 0 rfl rfl 0 (by decide) (hts (.fieldLink RX4 7 "NineDancersModel" "all" "[I") (by decide +kernel)) (fun _ h9 => h9) rfl dX4_pair_114 ?_
          refine lv_sipush (v := 231) hx hb dX4_pair_117 (by decide) ?_
          refine lv_iload hx hb dX4_pair_120 (lv_at hl 0 rfl) ?_
          refine lv_iadd hx hb dX4_pair_122 ?_
          refine va_iald (D := D) hx hb hK.1 hP 1 0 rfl rfl (my_off 231 (in_pairAt (f4_isVillager c_1) (f4_isVillager c_2)) (Nat.le_refl _) (by decide)) dX4_pair_123 ?_
          have e9 : D_X4_pair M a b w = M 0 (231 + (D_X4_pairAt a b)).toNatClampNeg := by rw [D_X4_pair, if_neg c_1, if_neg c_2, if_neg c_3, if_neg c_4, if_neg c_5, if_neg c_6, if_neg c_7, if_pos c_8]
          exact ret_i hx hb hr hlk hP hD hS dX4_pair_124 ⟨Nat.zero_le _, Nat.zero_le _⟩ ⟨e9.symm, rfl⟩
        refine lv_tableOut (tgt := 125) hx hb dX4_pair_33 (by have z0 := lv_neT c_4 (show (0 : Int32).toInt = 0 from rfl); have z1 := lv_neT c_5 (show (1 : Int32).toInt = 1 from rfl); have z2 := lv_neT c_6 (show (2 : Int32).toInt = 2 from rfl); have z3 := lv_neT c_7 (show (3 : Int32).toInt = 3 from rfl); have z4 := lv_neT c_8 (show (4 : Int32).toInt = 4 from rfl); omega) (by decide) ?_
        refine lv_ldc (v := (-1000002)) hx hb hown (hts (.constant RX4 91 (-1000002)) (by decide +kernel)) dX4_pair_125 ?_
        have e9 : D_X4_pair M a b w = (-1000002) := by rw [D_X4_pair, if_neg c_1, if_neg c_2, if_neg c_3, if_neg c_4, if_neg c_5, if_neg c_6, if_neg c_7, if_neg c_8]
        exact ret_i hx hb hr hlk hP hD hS dX4_pair_127 ⟨Nat.zero_le _, Nat.zero_le _⟩ ⟨e9.symm, rfl⟩
      · refine lv_ldc (v := (-1000002)) hx hb hown (hts (.constant RX4 91 (-1000002)) (by decide +kernel)) dX4_pair_22 ?_
        have e9 : D_X4_pair M a b w = (-1000002) := by rw [D_X4_pair, if_neg c_1, if_neg c_2, if_pos c_3]
        exact ret_i hx hb hr hlk hP hD hS dX4_pair_24 ⟨Nat.zero_le _, Nat.zero_le _⟩ ⟨e9.symm, rfl⟩
    · refine lv_ldc (v := (-1000001)) hx hb hown (hts (.constant RX4 98 (-1000001)) (by decide +kernel)) dX4_pair_14 ?_
      have e9 : D_X4_pair M a b w = (-1000001) := by rw [D_X4_pair, if_neg c_1, if_pos c_2]
      exact ret_i hx hb hr hlk hP hD hS dX4_pair_16 ⟨Nat.zero_le _, Nat.zero_le _⟩ ⟨e9.symm, rfl⟩
def D_X4_partner (M : Nat → Nat → Int32) (v : Int32) (n : Int32) : (Int32) := if (D_X4_isVillager v) = 0 then (-1000001) else (if (D_X4_isNumber n) = 0 then (-1000002) else (if (D_X4_partnerBy v n) = v then (-1000006) else (D_X4_partnerBy v n)))
set_option maxHeartbeats 4000000 in
set_option maxRecDepth 100000 in
theorem c_X4_partner (l : Launch) (D : va_G) (Y : YY) (sz : Nat) (q : Nat → Nat) (M : Nat → Nat → Int32) (mo : Nat) (v : Int32) (n : Int32) : Met l yX4_partner wsX4_partner ({ frames := 2, cells := 0, slots := 0, locals := 45 } : Room) (va_Pc [.ref mo, .int v, .int n] (Pst D Y sz (wM Y mo q M))) ((fun A : Nat → Prop => Qsi D (fun r9 w9 => r9 = D_X4_partner M v n ∧ w9 = wM Y mo q M) A) (va_A (wM Y mo q M) sz)) 0 0 (va_A (wM Y mo q M) sz) := by
  refine ct_in (cc := cX4_partner) (maxL := 4) (ret := (some .int)) (Qc := fun A : Nat → Prop => Qsi D (fun r9 w9 => r9 = D_X4_partner M v n ∧ w9 = wM Y mo q M) A) (by decide +kernel) rfl (Nat.le_of_ble_eq_true rfl) ?_
  intro p e s m below meth c A ls hx hb hr hts hown hml hlk hin hsz hA hP hD hK hS hl
  have hown : s.vm.findClass RX4 = some m.cls := hown
  have hl : lv_has ls 4 [(0, .ref mo), (1, .int v), (2, .int n)] := hl
  show W p l e ({ frames := 2, cells := 0, slots := 0, locals := 45 } : Room) s m ([.ref mo, .int v, .int n] : List Value).toArray below meth c s.heap [] 0 0 (MQ below (Qsi D (fun r9 w9 => r9 = D_X4_partner M v n ∧ w9 = wM Y mo q M) A) ([.ref mo, .int v, .int n] : List Value).toArray s 0 0 A) (F0 m 0 ls [])
  refine lv_iload_n hx hb dX4_partner_0 rfl (lv_at hl 1 rfl) ?_
  refine ck_iD (wr := wM Y mo q M) (ws' := wM Y mo q M) (va_runS (As := [.int v]) (rest := []) ⟨hx, hb, hml, hown, hts⟩ (c_X4_isVillager l D Y s.heap.size v) (va_cwS 1 hts gX4_partner_X4_isVillager rfl rfl rfl (by decide +kernel) ⟨Nat.le_of_ble_eq_true rfl, Nat.le_of_ble_eq_true rfl⟩) (pst_S hK hP hD [] rfl (by decide)) rfl rfl hl.1 rfl (lv_room (Nat.le_of_ble_eq_true rfl)) dX4_partner_1 ⟨Nat.zero_le _, Nat.zero_le _⟩) hP hD hS hA [] [0, 1, 2, 3, 4, 5, 6, 7, 8, 9] [0, 1, 2, 3, 4, 5, 6, 7, 8, 9] rfl rfl (by decide) (by decide) rfl (by decide) (fun H locs hP hD hS => ?_)
  refine lv_if_ne (tgt := 10) hx hb dX4_partner_4 (by decide) (fun c_1 => ?_) (fun c_1 => ?_)
  · refine lv_iload_n hx hb dX4_partner_10 rfl (lv_at hl 2 rfl) ?_
    refine ck_iD (wr := wM Y mo q M) (ws' := wM Y mo q M) (va_runS (As := [.int n]) (rest := []) ⟨hx, hb, hml, hown, hts⟩ (c_X4_isNumber l D Y H.size n) (va_cwS 1 hts gX4_partner_X4_isNumber rfl rfl rfl (by decide +kernel) ⟨Nat.le_of_ble_eq_true rfl, Nat.le_of_ble_eq_true rfl⟩) (pst_S hK hP hD [] rfl (by decide)) rfl rfl hl.1 rfl (lv_room (Nat.le_of_ble_eq_true rfl)) dX4_partner_11 ⟨Nat.zero_le _, Nat.zero_le _⟩) hP hD hS hA [] [0, 1, 2, 3, 4, 5, 6, 7, 8, 9] [0, 1, 2, 3, 4, 5, 6, 7, 8, 9] rfl rfl (by decide) (by decide) rfl (by decide) (fun H locs hP hD hS => ?_)
    refine lv_if_ne (tgt := 20) hx hb dX4_partner_14 (by decide) (fun c_2 => ?_) (fun c_2 => ?_)
    · refine lv_iload_n hx hb dX4_partner_20 rfl (lv_at hl 1 rfl) ?_
      refine lv_iload_n hx hb dX4_partner_21 rfl (lv_at hl 2 rfl) ?_
      refine ck_iD (wr := wM Y mo q M) (ws' := wM Y mo q M) (va_runS (As := [.int v, .int n]) (rest := []) ⟨hx, hb, hml, hown, hts⟩ (c_X4_partnerBy l D Y H.size v n) (va_cwS 2 hts gX4_partner_X4_partnerBy rfl rfl rfl (by decide +kernel) ⟨Nat.le_of_ble_eq_true rfl, Nat.le_of_ble_eq_true rfl⟩) (pst_S hK hP hD [] rfl (by decide)) rfl rfl hl.1 rfl (lv_room (Nat.le_of_ble_eq_true rfl)) dX4_partner_22 ⟨Nat.zero_le _, Nat.zero_le _⟩) hP hD hS hA [] [0, 1, 2, 3, 4, 5, 6, 7, 8, 9] [0, 1, 2, 3, 4, 5, 6, 7, 8, 9] rfl rfl (by decide) (by decide) rfl (by decide) (fun H locs hP hD hS => ?_)
      refine lv_istore_n (lv' := [(3, .int (D_X4_partnerBy v n)), (0, .ref mo), (1, .int v), (2, .int n)]) hx hb dX4_partner_25 rfl hl (by decide) rfl (fun ls hl => ?_)
      refine lv_iload_n hx hb dX4_partner_26 rfl (lv_at hl 0 rfl) ?_
      refine lv_iload_n hx hb dX4_partner_27 rfl (lv_at hl 2 rfl) ?_
      refine lv_icmp_ne (tgt := 36) hx hb dX4_partner_28 (by decide) (fun c_3 => ?_) (fun c_3 => ?_)
      · refine lv_iload_n hx hb dX4_partner_36 rfl (lv_at hl 0 rfl) ?_
        have e9 : D_X4_partner M v n = D_X4_partnerBy v n := by rw [D_X4_partner, if_neg c_1, if_neg c_2, if_neg c_3]
        exact ret_i hx hb hr hlk hP hD hS dX4_partner_37 ⟨Nat.zero_le _, Nat.zero_le _⟩ ⟨e9.symm, rfl⟩
      · refine lv_ldc (v := (-1000006)) hx hb hown (hts (.constant RX4 37 (-1000006)) (by decide +kernel)) dX4_partner_31 ?_
        refine lv_goto (tgt := 37) hx hb dX4_partner_33 (by decide) ?_
        have e9 : D_X4_partner M v n = (-1000006) := by rw [D_X4_partner, if_neg c_1, if_neg c_2, if_pos c_3]
        exact ret_i hx hb hr hlk hP hD hS dX4_partner_37 ⟨Nat.zero_le _, Nat.zero_le _⟩ ⟨e9.symm, rfl⟩
    · refine lv_ldc (v := (-1000002)) hx hb hown (hts (.constant RX4 91 (-1000002)) (by decide +kernel)) dX4_partner_17 ?_
      have e9 : D_X4_partner M v n = (-1000002) := by rw [D_X4_partner, if_neg c_1, if_pos c_2]
      exact ret_i hx hb hr hlk hP hD hS dX4_partner_19 ⟨Nat.zero_le _, Nat.zero_le _⟩ ⟨e9.symm, rfl⟩
  · refine lv_ldc (v := (-1000001)) hx hb hown (hts (.constant RX4 98 (-1000001)) (by decide +kernel)) dX4_partner_7 ?_
    have e9 : D_X4_partner M v n = (-1000001) := by rw [D_X4_partner, if_pos c_1]
    exact ret_i hx hb hr hlk hP hD hS dX4_partner_9 ⟨Nat.zero_le _, Nat.zero_le _⟩ ⟨e9.symm, rfl⟩
def D_X4_count (M : Nat → Nat → Int32) (w : Int32) : (Int32) := if w = 4 then (D_X4_thoseThere M) else (if w = 5 then (M 0 (4 : Int32).toNatClampNeg) else (if w = 6 then (D_X4_sum M 33) else (if w = 7 then (D_X4_newPairs M) else (if w = 8 then (D_X4_sum M 60) else (if w = 9 then (D_X4_sum M 24) else (if w = 10 then (M 0 (5 : Int32).toNatClampNeg) else (if w = 11 then (M 9 1) else (if w = 12 then (M 9 0) else (if (D_X4_in w.toInt64 0 3) = 0 then (-1000002) else (M 0 w.toNatClampNeg))))))))))
set_option maxRecDepth 100000 in
theorem in_X4_count_RX4 : ∀ w ∈ u_ws RX4 TX4 13, w ∈ wsX4_count := by decide +kernel
set_option maxHeartbeats 4000000 in
set_option maxRecDepth 100000 in
theorem c_X4_count (l : Launch) (D : va_G) (Y : YY) (sz : Nat) (q : Nat → Nat) (M : Nat → Nat → Int32) (mo : Nat) (w : Int32) : Met l yX4_count wsX4_count ({ frames := 3, cells := 0, slots := 0, locals := 66 } : Room) (va_Pc [.ref mo, .int w] (Pst D Y sz (wM Y mo q M))) ((fun A : Nat → Prop => Qsi D (fun r9 w9 => r9 = D_X4_count M w ∧ w9 = wM Y mo q M) A) (va_A (wM Y mo q M) sz)) 0 0 (va_A (wM Y mo q M) sz) := by
  refine ct_in (cc := cX4_count) (maxL := 2) (ret := (some .int)) (Qc := fun A : Nat → Prop => Qsi D (fun r9 w9 => r9 = D_X4_count M w ∧ w9 = wM Y mo q M) A) (by decide +kernel) rfl (Nat.le_of_ble_eq_true rfl) ?_
  intro p e s m below meth c A ls hx hb hr hts hown hml hlk hin hsz hA hP hD hK hS hl
  have hown : s.vm.findClass RX4 = some m.cls := hown
  have hl : lv_has ls 2 [(0, .ref mo), (1, .int w)] := hl
  show W p l e ({ frames := 3, cells := 0, slots := 0, locals := 66 } : Room) s m ([.ref mo, .int w] : List Value).toArray below meth c s.heap [] 0 0 (MQ below (Qsi D (fun r9 w9 => r9 = D_X4_count M w ∧ w9 = wM Y mo q M) A) ([.ref mo, .int w] : List Value).toArray s 0 0 A) (F0 m 0 ls [])
  refine lv_iload_n hx hb dX4_count_0 rfl (lv_at hl 1 rfl) ?_
  rcases Decidable.em (w = 4) with c_1 | c_1
  · refine lv_tableIn (off := 51) (tgt := 52) hx hb dX4_count_1 (by rw [c_1]; decide) (by rw [c_1]; decide) (by rw [c_1]; rfl) (by decide) ?_
    refine lv_aload_n hx hb dX4_count_52 rfl (lv_at hl 0 rfl) ?_
    refine ck_iD (wr := ([] : va_W)) (ws' := wM Y mo q M) (va_runV (As := []) (rest := []) ⟨hx, hb, hml, hown, hts⟩ (c_X4_thoseThere l D Y s.heap.size q M mo) (cwV 0 hts gX4_count_X4_thoseThere rfl rfl rfl (by decide +kernel) ⟨Nat.le_of_ble_eq_true rfl, Nat.le_of_ble_eq_true rfl⟩) (pst_V hK hP hD [0, 1, 2, 3, 4, 5, 6, 7, 8, 9] rfl (by decide) (q0 := 0) rfl rfl) rfl rfl hl.1 rfl (lv_room (Nat.le_of_ble_eq_true rfl)) dX4_count_53 ⟨Nat.zero_le _, Nat.zero_le _⟩) hP hD hS hA [0, 1, 2, 3, 4, 5, 6, 7, 8, 9] [] [0, 1, 2, 3, 4, 5, 6, 7, 8, 9] rfl rfl (by decide) (by decide) rfl (by decide) (fun H locs hP hD hS => ?_)
    have e9 : D_X4_count M w = D_X4_thoseThere M := by rw [D_X4_count, if_pos c_1]
    exact ret_i hx hb hr hlk hP hD hS dX4_count_56 ⟨Nat.zero_le _, Nat.zero_le _⟩ ⟨e9.symm, rfl⟩
  rcases Decidable.em (w = 5) with c_2 | c_2
  · refine lv_tableIn (off := 56) (tgt := 57) hx hb dX4_count_1 (by rw [c_2]; decide) (by rw [c_2]; decide) (by rw [c_2]; rfl) (by decide) ?_
    refine lv_aload_n hx hb dX4_count_57 rfl (lv_at hl 0 rfl) ?_
    refine va_get (D := D) (ci := 4) (v := .ref (q 0)) (C := RX4) (T := TX4) (N := 13) hx hb hts in_X4_count_RX4 hown hK.1 hP 0 rfl rfl 0 (by decide) (hts (.fieldLink RX4 7 "NineDancersModel" "all" "[I") (by decide +kernel)) (fun _ h9 => h9) rfl dX4_count_58 ?_
    refine lv_iconst (v := 4) hx hb dX4_count_61 (by decide) ?_
    refine va_iald (D := D) hx hb hK.1 hP 1 0 rfl rfl (by unfold vp_in; decide) dX4_count_62 ?_
    have e9 : D_X4_count M w = M 0 (4 : Int32).toNatClampNeg := by rw [D_X4_count, if_neg c_1, if_pos c_2]
    exact ret_i hx hb hr hlk hP hD hS dX4_count_63 ⟨Nat.zero_le _, Nat.zero_le _⟩ ⟨e9.symm, rfl⟩
  rcases Decidable.em (w = 6) with c_3 | c_3
  · refine lv_tableIn (off := 63) (tgt := 64) hx hb dX4_count_1 (by rw [c_3]; decide) (by rw [c_3]; decide) (by rw [c_3]; rfl) (by decide) ?_
    refine lv_aload_n hx hb dX4_count_64 rfl (lv_at hl 0 rfl) ?_
    refine lv_bipush (v := 33) hx hb dX4_count_65 (by decide) ?_
    refine ck_iD (wr := ([] : va_W)) (ws' := wM Y mo q M) (va_runV (As := [.int 33]) (rest := []) ⟨hx, hb, hml, hown, hts⟩ (c_X4_sum l D Y s.heap.size q M mo 33 (by unfold vp_in; decide)) (cwV 1 hts gX4_count_X4_sum rfl rfl rfl (by decide +kernel) ⟨Nat.le_of_ble_eq_true rfl, Nat.le_of_ble_eq_true rfl⟩) (pst_V hK hP hD [0, 1, 2, 3, 4, 5, 6, 7, 8, 9] rfl (by decide) (q0 := 0) rfl rfl) rfl rfl hl.1 rfl (lv_room (Nat.le_of_ble_eq_true rfl)) dX4_count_67 ⟨Nat.zero_le _, Nat.zero_le _⟩) hP hD hS hA [0, 1, 2, 3, 4, 5, 6, 7, 8, 9] [] [0, 1, 2, 3, 4, 5, 6, 7, 8, 9] rfl rfl (by decide) (by decide) rfl (by decide) (fun H locs hP hD hS => ?_)
    have e9 : D_X4_count M w = D_X4_sum M 33 := by rw [D_X4_count, if_neg c_1, if_neg c_2, if_pos c_3]
    exact ret_i hx hb hr hlk hP hD hS dX4_count_70 ⟨Nat.zero_le _, Nat.zero_le _⟩ ⟨e9.symm, rfl⟩
  rcases Decidable.em (w = 7) with c_4 | c_4
  · refine lv_tableIn (off := 70) (tgt := 71) hx hb dX4_count_1 (by rw [c_4]; decide) (by rw [c_4]; decide) (by rw [c_4]; rfl) (by decide) ?_
    refine lv_aload_n hx hb dX4_count_71 rfl (lv_at hl 0 rfl) ?_
    refine ck_iD (wr := ([] : va_W)) (ws' := wM Y mo q M) (va_runV (As := []) (rest := []) ⟨hx, hb, hml, hown, hts⟩ (c_X4_newPairs l D Y s.heap.size q M mo) (cwV 0 hts gX4_count_X4_newPairs rfl rfl rfl (by decide +kernel) ⟨Nat.le_of_ble_eq_true rfl, Nat.le_of_ble_eq_true rfl⟩) (pst_V hK hP hD [0, 1, 2, 3, 4, 5, 6, 7, 8, 9] rfl (by decide) (q0 := 0) rfl rfl) rfl rfl hl.1 rfl (lv_room (Nat.le_of_ble_eq_true rfl)) dX4_count_72 ⟨Nat.zero_le _, Nat.zero_le _⟩) hP hD hS hA [0, 1, 2, 3, 4, 5, 6, 7, 8, 9] [] [0, 1, 2, 3, 4, 5, 6, 7, 8, 9] rfl rfl (by decide) (by decide) rfl (by decide) (fun H locs hP hD hS => ?_)
    have e9 : D_X4_count M w = D_X4_newPairs M := by rw [D_X4_count, if_neg c_1, if_neg c_2, if_neg c_3, if_pos c_4]
    exact ret_i hx hb hr hlk hP hD hS dX4_count_75 ⟨Nat.zero_le _, Nat.zero_le _⟩ ⟨e9.symm, rfl⟩
  rcases Decidable.em (w = 8) with c_5 | c_5
  · refine lv_tableIn (off := 75) (tgt := 76) hx hb dX4_count_1 (by rw [c_5]; decide) (by rw [c_5]; decide) (by rw [c_5]; rfl) (by decide) ?_
    refine lv_aload_n hx hb dX4_count_76 rfl (lv_at hl 0 rfl) ?_
    refine lv_bipush (v := 60) hx hb dX4_count_77 (by decide) ?_
    refine ck_iD (wr := ([] : va_W)) (ws' := wM Y mo q M) (va_runV (As := [.int 60]) (rest := []) ⟨hx, hb, hml, hown, hts⟩ (c_X4_sum l D Y s.heap.size q M mo 60 (by unfold vp_in; decide)) (cwV 1 hts gX4_count_X4_sum rfl rfl rfl (by decide +kernel) ⟨Nat.le_of_ble_eq_true rfl, Nat.le_of_ble_eq_true rfl⟩) (pst_V hK hP hD [0, 1, 2, 3, 4, 5, 6, 7, 8, 9] rfl (by decide) (q0 := 0) rfl rfl) rfl rfl hl.1 rfl (lv_room (Nat.le_of_ble_eq_true rfl)) dX4_count_79 ⟨Nat.zero_le _, Nat.zero_le _⟩) hP hD hS hA [0, 1, 2, 3, 4, 5, 6, 7, 8, 9] [] [0, 1, 2, 3, 4, 5, 6, 7, 8, 9] rfl rfl (by decide) (by decide) rfl (by decide) (fun H locs hP hD hS => ?_)
    have e9 : D_X4_count M w = D_X4_sum M 60 := by rw [D_X4_count, if_neg c_1, if_neg c_2, if_neg c_3, if_neg c_4, if_pos c_5]
    exact ret_i hx hb hr hlk hP hD hS dX4_count_82 ⟨Nat.zero_le _, Nat.zero_le _⟩ ⟨e9.symm, rfl⟩
  rcases Decidable.em (w = 9) with c_6 | c_6
  · refine lv_tableIn (off := 82) (tgt := 83) hx hb dX4_count_1 (by rw [c_6]; decide) (by rw [c_6]; decide) (by rw [c_6]; rfl) (by decide) ?_
    refine lv_aload_n hx hb dX4_count_83 rfl (lv_at hl 0 rfl) ?_
    refine lv_bipush (v := 24) hx hb dX4_count_84 (by decide) ?_
    refine ck_iD (wr := ([] : va_W)) (ws' := wM Y mo q M) (va_runV (As := [.int 24]) (rest := []) ⟨hx, hb, hml, hown, hts⟩ (c_X4_sum l D Y s.heap.size q M mo 24 (by unfold vp_in; decide)) (cwV 1 hts gX4_count_X4_sum rfl rfl rfl (by decide +kernel) ⟨Nat.le_of_ble_eq_true rfl, Nat.le_of_ble_eq_true rfl⟩) (pst_V hK hP hD [0, 1, 2, 3, 4, 5, 6, 7, 8, 9] rfl (by decide) (q0 := 0) rfl rfl) rfl rfl hl.1 rfl (lv_room (Nat.le_of_ble_eq_true rfl)) dX4_count_86 ⟨Nat.zero_le _, Nat.zero_le _⟩) hP hD hS hA [0, 1, 2, 3, 4, 5, 6, 7, 8, 9] [] [0, 1, 2, 3, 4, 5, 6, 7, 8, 9] rfl rfl (by decide) (by decide) rfl (by decide) (fun H locs hP hD hS => ?_)
    have e9 : D_X4_count M w = D_X4_sum M 24 := by rw [D_X4_count, if_neg c_1, if_neg c_2, if_neg c_3, if_neg c_4, if_neg c_5, if_pos c_6]
    exact ret_i hx hb hr hlk hP hD hS dX4_count_89 ⟨Nat.zero_le _, Nat.zero_le _⟩ ⟨e9.symm, rfl⟩
  rcases Decidable.em (w = 10) with c_7 | c_7
  · refine lv_tableIn (off := 89) (tgt := 90) hx hb dX4_count_1 (by rw [c_7]; decide) (by rw [c_7]; decide) (by rw [c_7]; rfl) (by decide) ?_
    refine lv_aload_n hx hb dX4_count_90 rfl (lv_at hl 0 rfl) ?_
    refine va_get (D := D) (ci := 4) (v := .ref (q 0)) (C := RX4) (T := TX4) (N := 13) hx hb hts in_X4_count_RX4 hown hK.1 hP 0 rfl rfl 0 (by decide) (hts (.fieldLink RX4 7 "NineDancersModel" "all" "[I") (by decide +kernel)) (fun _ h9 => h9) rfl dX4_count_91 ?_
    refine lv_iconst (v := 5) hx hb dX4_count_94 (by decide) ?_
    refine va_iald (D := D) hx hb hK.1 hP 1 0 rfl rfl (by unfold vp_in; decide) dX4_count_95 ?_
    have e9 : D_X4_count M w = M 0 (5 : Int32).toNatClampNeg := by rw [D_X4_count, if_neg c_1, if_neg c_2, if_neg c_3, if_neg c_4, if_neg c_5, if_neg c_6, if_pos c_7]
    exact ret_i hx hb hr hlk hP hD hS dX4_count_96 ⟨Nat.zero_le _, Nat.zero_le _⟩ ⟨e9.symm, rfl⟩
  rcases Decidable.em (w = 11) with c_8 | c_8
  · refine lv_tableIn (off := 96) (tgt := 97) hx hb dX4_count_1 (by rw [c_8]; decide) (by rw [c_8]; decide) (by rw [c_8]; rfl) (by decide) ?_
    refine lv_aload_n hx hb dX4_count_97 rfl (lv_at hl 0 rfl) ?_
    refine va_get (D := D) (ci := 4) (v := .int (M 9 1)) (C := RX4) (T := TX4) (N := 13) hx hb hts in_X4_count_RX4 hown hK.1 hP 0 rfl rfl 8 (by decide) (hts (.fieldLink RX4 126 "NineDancersModel" "textLong" "I") (by decide +kernel)) (fun _ h9 => h9) rfl dX4_count_98 ?_
    have e9 : D_X4_count M w = M 9 1 := by rw [D_X4_count, if_neg c_1, if_neg c_2, if_neg c_3, if_neg c_4, if_neg c_5, if_neg c_6, if_neg c_7, if_pos c_8]
    exact ret_i hx hb hr hlk hP hD hS dX4_count_101 ⟨Nat.zero_le _, Nat.zero_le _⟩ ⟨e9.symm, rfl⟩
  rcases Decidable.em (w = 12) with c_9 | c_9
  · refine lv_tableIn (off := 101) (tgt := 102) hx hb dX4_count_1 (by rw [c_9]; decide) (by rw [c_9]; decide) (by rw [c_9]; rfl) (by decide) ?_
    refine lv_aload_n hx hb dX4_count_102 rfl (lv_at hl 0 rfl) ?_
    refine va_get (D := D) (ci := 4) (v := .int (M 9 0)) (C := RX4) (T := TX4) (N := 13) hx hb hts in_X4_count_RX4 hown hK.1 hP 0 rfl rfl 3 (by decide) (hts (.fieldLink RX4 38 "NineDancersModel" "historyLong" "I") (by decide +kernel)) (fun _ h9 => h9) rfl dX4_count_103 ?_
    have e9 : D_X4_count M w = M 9 0 := by rw [D_X4_count, if_neg c_1, if_neg c_2, if_neg c_3, if_neg c_4, if_neg c_5, if_neg c_6, if_neg c_7, if_neg c_8, if_pos c_9]
    exact ret_i hx hb hr hlk hP hD hS dX4_count_106 ⟨Nat.zero_le _, Nat.zero_le _⟩ ⟨e9.symm, rfl⟩
  refine lv_tableOut (tgt := 107) hx hb dX4_count_1 (by have z0 := lv_neT c_1 (show (4 : Int32).toInt = 4 from rfl); have z1 := lv_neT c_2 (show (5 : Int32).toInt = 5 from rfl); have z2 := lv_neT c_3 (show (6 : Int32).toInt = 6 from rfl); have z3 := lv_neT c_4 (show (7 : Int32).toInt = 7 from rfl); have z4 := lv_neT c_5 (show (8 : Int32).toInt = 8 from rfl); have z5 := lv_neT c_6 (show (9 : Int32).toInt = 9 from rfl); have z6 := lv_neT c_7 (show (10 : Int32).toInt = 10 from rfl); have z7 := lv_neT c_8 (show (11 : Int32).toInt = 11 from rfl); have z8 := lv_neT c_9 (show (12 : Int32).toInt = 12 from rfl); omega) (by decide) ?_
  refine lv_iload_n hx hb dX4_count_107 rfl (lv_at hl 1 rfl) ?_
  refine lv_i2l (v := w.toInt64) hx hb dX4_count_108 rfl ?_
  refine lv_lconst (v := 0) hx hb dX4_count_109 (by decide) ?_
  refine lv_ldc2 (v := 3) hx hb hown (hts (.constantLong RX4 129 (3)) (by decide +kernel)) dX4_count_110 ?_
  refine ck_iD (wr := wM Y mo q M) (ws' := wM Y mo q M) (va_runS (As := [.long w.toInt64, .long 0, .long 3]) (rest := []) ⟨hx, hb, hml, hown, hts⟩ (c_X4_in l D Y s.heap.size w.toInt64 0 3) (va_cwS 3 hts gX4_count_X4_in rfl rfl rfl (by decide +kernel) ⟨Nat.le_of_ble_eq_true rfl, Nat.le_of_ble_eq_true rfl⟩) (pst_S hK hP hD [] rfl (by decide)) rfl rfl hl.1 rfl (lv_room (Nat.le_of_ble_eq_true rfl)) dX4_count_113 ⟨Nat.zero_le _, Nat.zero_le _⟩) hP hD hS hA [] [0, 1, 2, 3, 4, 5, 6, 7, 8, 9] [0, 1, 2, 3, 4, 5, 6, 7, 8, 9] rfl rfl (by decide) (by decide) rfl (by decide) (fun H locs hP hD hS => ?_)
  refine lv_if_eq (tgt := 128) hx hb dX4_count_116 (by decide) (fun c_10 => ?_) (fun c_10 => ?_)
  · refine lv_ldc (v := (-1000002)) hx hb hown (hts (.constant RX4 91 (-1000002)) (by decide +kernel)) dX4_count_128 ?_
    have e9 : D_X4_count M w = (-1000002) := by rw [D_X4_count, if_neg c_1, if_neg c_2, if_neg c_3, if_neg c_4, if_neg c_5, if_neg c_6, if_neg c_7, if_neg c_8, if_neg c_9, if_pos c_10]
    exact ret_i hx hb hr hlk hP hD hS dX4_count_130 ⟨Nat.zero_le _, Nat.zero_le _⟩ ⟨e9.symm, rfl⟩
  · refine lv_aload_n hx hb dX4_count_119 rfl (lv_at hl 0 rfl) ?_
    refine va_get (D := D) (ci := 4) (v := .ref (q 0)) (C := RX4) (T := TX4) (N := 13) hx hb hts in_X4_count_RX4 hown hK.1 hP 0 rfl rfl 0 (by decide) (hts (.fieldLink RX4 7 "NineDancersModel" "all" "[I") (by decide +kernel)) (fun _ h9 => h9) rfl dX4_count_120 ?_
    refine lv_iload_n hx hb dX4_count_123 rfl (lv_at hl 1 rfl) ?_
    refine va_iald (D := D) hx hb hK.1 hP 1 0 rfl rfl (my_wid (f4_in c_10 (by decide) : vp_in w 4) (by decide) (by decide)) dX4_count_124 ?_
    refine lv_goto (tgt := 130) hx hb dX4_count_125 (by decide) ?_
    have e9 : D_X4_count M w = M 0 w.toNatClampNeg := by rw [D_X4_count, if_neg c_1, if_neg c_2, if_neg c_3, if_neg c_4, if_neg c_5, if_neg c_6, if_neg c_7, if_neg c_8, if_neg c_9, if_neg c_10]
    exact ret_i hx hb hr hlk hP hD hS dX4_count_130 ⟨Nat.zero_le _, Nat.zero_le _⟩ ⟨e9.symm, rfl⟩
def D_X4_ifCalled (M : Nat → Nat → Int32) (n : Int32) (w : Int32) : (Int32) := if (D_X4_isNumber n) = 0 then (-1000002) else (if (D_X4_in w.toInt64 0 3) = 0 then (-1000002) else (if w = 1 then (D_X4_joyBy M n) else (if w = 2 then (D_X4_villagersBy M n 2) else (D_X4_villagersBy M n w) / 2)))
set_option maxHeartbeats 4000000 in
set_option maxRecDepth 100000 in
theorem c_X4_ifCalled (l : Launch) (D : va_G) (Y : YY) (sz : Nat) (q : Nat → Nat) (M : Nat → Nat → Int32) (mo : Nat) (n : Int32) (w : Int32) : Met l yX4_ifCalled wsX4_ifCalled ({ frames := 4, cells := 0, slots := 0, locals := 91 } : Room) (va_Pc [.ref mo, .int n, .int w] (Pst D Y sz (wM Y mo q M))) ((fun A : Nat → Prop => Qsi D (fun r9 w9 => r9 = D_X4_ifCalled M n w ∧ w9 = wM Y mo q M) A) (va_A (wM Y mo q M) sz)) 0 0 (va_A (wM Y mo q M) sz) := by
  refine ct_in (cc := cX4_ifCalled) (maxL := 3) (ret := (some .int)) (Qc := fun A : Nat → Prop => Qsi D (fun r9 w9 => r9 = D_X4_ifCalled M n w ∧ w9 = wM Y mo q M) A) (by decide +kernel) rfl (Nat.le_of_ble_eq_true rfl) ?_
  intro p e s m below meth c A ls hx hb hr hts hown hml hlk hin hsz hA hP hD hK hS hl
  have hown : s.vm.findClass RX4 = some m.cls := hown
  have hl : lv_has ls 3 [(0, .ref mo), (1, .int n), (2, .int w)] := hl
  show W p l e ({ frames := 4, cells := 0, slots := 0, locals := 91 } : Room) s m ([.ref mo, .int n, .int w] : List Value).toArray below meth c s.heap [] 0 0 (MQ below (Qsi D (fun r9 w9 => r9 = D_X4_ifCalled M n w ∧ w9 = wM Y mo q M) A) ([.ref mo, .int n, .int w] : List Value).toArray s 0 0 A) (F0 m 0 ls [])
  refine lv_iload_n hx hb dX4_ifCalled_0 rfl (lv_at hl 1 rfl) ?_
  refine ck_iD (wr := wM Y mo q M) (ws' := wM Y mo q M) (va_runS (As := [.int n]) (rest := []) ⟨hx, hb, hml, hown, hts⟩ (c_X4_isNumber l D Y s.heap.size n) (va_cwS 1 hts gX4_ifCalled_X4_isNumber rfl rfl rfl (by decide +kernel) ⟨Nat.le_of_ble_eq_true rfl, Nat.le_of_ble_eq_true rfl⟩) (pst_S hK hP hD [] rfl (by decide)) rfl rfl hl.1 rfl (lv_room (Nat.le_of_ble_eq_true rfl)) dX4_ifCalled_1 ⟨Nat.zero_le _, Nat.zero_le _⟩) hP hD hS hA [] [0, 1, 2, 3, 4, 5, 6, 7, 8, 9] [0, 1, 2, 3, 4, 5, 6, 7, 8, 9] rfl rfl (by decide) (by decide) rfl (by decide) (fun H locs hP hD hS => ?_)
  refine lv_if_eq (tgt := 19) hx hb dX4_ifCalled_4 (by decide) (fun c_1 => ?_) (fun c_1 => ?_)
  · refine lv_ldc (v := (-1000002)) hx hb hown (hts (.constant RX4 91 (-1000002)) (by decide +kernel)) dX4_ifCalled_19 ?_
    have e9 : D_X4_ifCalled M n w = (-1000002) := by rw [D_X4_ifCalled, if_pos c_1]
    exact ret_i hx hb hr hlk hP hD hS dX4_ifCalled_21 ⟨Nat.zero_le _, Nat.zero_le _⟩ ⟨e9.symm, rfl⟩
  · refine lv_iload_n hx hb dX4_ifCalled_7 rfl (lv_at hl 2 rfl) ?_
    refine lv_i2l (v := w.toInt64) hx hb dX4_ifCalled_8 rfl ?_
    refine lv_lconst (v := 0) hx hb dX4_ifCalled_9 (by decide) ?_
    refine lv_ldc2 (v := 3) hx hb hown (hts (.constantLong RX4 129 (3)) (by decide +kernel)) dX4_ifCalled_10 ?_
    refine ck_iD (wr := wM Y mo q M) (ws' := wM Y mo q M) (va_runS (As := [.long w.toInt64, .long 0, .long 3]) (rest := []) ⟨hx, hb, hml, hown, hts⟩ (c_X4_in l D Y H.size w.toInt64 0 3) (va_cwS 3 hts gX4_ifCalled_X4_in rfl rfl rfl (by decide +kernel) ⟨Nat.le_of_ble_eq_true rfl, Nat.le_of_ble_eq_true rfl⟩) (pst_S hK hP hD [] rfl (by decide)) rfl rfl hl.1 rfl (lv_room (Nat.le_of_ble_eq_true rfl)) dX4_ifCalled_13 ⟨Nat.zero_le _, Nat.zero_le _⟩) hP hD hS hA [] [0, 1, 2, 3, 4, 5, 6, 7, 8, 9] [0, 1, 2, 3, 4, 5, 6, 7, 8, 9] rfl rfl (by decide) (by decide) rfl (by decide) (fun H locs hP hD hS => ?_)
    refine lv_if_ne (tgt := 22) hx hb dX4_ifCalled_16 (by decide) (fun c_2 => ?_) (fun c_2 => ?_)
    · refine lv_iload_n hx hb dX4_ifCalled_22 rfl (lv_at hl 2 rfl) ?_
      refine lv_iconst (v := 1) hx hb dX4_ifCalled_23 (by decide) ?_
      refine lv_icmp_ne (tgt := 35) hx hb dX4_ifCalled_24 (by decide) (fun c_3 => ?_) (fun c_3 => ?_)
      · refine lv_iload_n hx hb dX4_ifCalled_35 rfl (lv_at hl 2 rfl) ?_
        refine lv_iconst (v := 2) hx hb dX4_ifCalled_36 (by decide) ?_
        refine lv_icmp_ne (tgt := 49) hx hb dX4_ifCalled_37 (by decide) (fun c_4 => ?_) (fun c_4 => ?_)
        · refine lv_aload_n hx hb dX4_ifCalled_49 rfl (lv_at hl 0 rfl) ?_
          refine lv_iload_n hx hb dX4_ifCalled_50 rfl (lv_at hl 1 rfl) ?_
          refine lv_iload_n hx hb dX4_ifCalled_51 rfl (lv_at hl 2 rfl) ?_
          refine ck_iD (wr := ([] : va_W)) (ws' := wM Y mo q M) (va_runV (As := [.int n, .int w]) (rest := []) ⟨hx, hb, hml, hown, hts⟩ (c_X4_villagersBy l D Y H.size q M mo n w (f4_isNumber c_1)) (cwV 2 hts gX4_ifCalled_X4_villagersBy rfl rfl rfl (by decide +kernel) ⟨Nat.le_of_ble_eq_true rfl, Nat.le_of_ble_eq_true rfl⟩) (pst_V hK hP hD [0, 1, 2, 3, 4, 5, 6, 7, 8, 9] rfl (by decide) (q0 := 0) rfl rfl) rfl rfl hl.1 rfl (lv_room (Nat.le_of_ble_eq_true rfl)) dX4_ifCalled_52 ⟨Nat.zero_le _, Nat.zero_le _⟩) hP hD hS hA [0, 1, 2, 3, 4, 5, 6, 7, 8, 9] [] [0, 1, 2, 3, 4, 5, 6, 7, 8, 9] rfl rfl (by decide) (by decide) rfl (by decide) (fun H locs hP hD hS => ?_)
          refine lv_iconst (v := 2) hx hb dX4_ifCalled_55 (by decide) ?_
          refine lv_idiv hx hb dX4_ifCalled_56 (by decide) ?_
          have e9 : D_X4_ifCalled M n w = (D_X4_villagersBy M n w) / 2 := by rw [D_X4_ifCalled, if_neg c_1, if_neg c_2, if_neg c_3, if_neg c_4]
          exact ret_i hx hb hr hlk hP hD hS dX4_ifCalled_57 ⟨Nat.zero_le _, Nat.zero_le _⟩ ⟨e9.symm, rfl⟩
        · refine lv_aload_n hx hb dX4_ifCalled_40 rfl (lv_at hl 0 rfl) ?_
          refine lv_iload_n hx hb dX4_ifCalled_41 rfl (lv_at hl 1 rfl) ?_
          refine lv_iconst (v := 2) hx hb dX4_ifCalled_42 (by decide) ?_
          refine ck_iD (wr := ([] : va_W)) (ws' := wM Y mo q M) (va_runV (As := [.int n, .int 2]) (rest := []) ⟨hx, hb, hml, hown, hts⟩ (c_X4_villagersBy l D Y H.size q M mo n 2 (f4_isNumber c_1)) (cwV 2 hts gX4_ifCalled_X4_villagersBy rfl rfl rfl (by decide +kernel) ⟨Nat.le_of_ble_eq_true rfl, Nat.le_of_ble_eq_true rfl⟩) (pst_V hK hP hD [0, 1, 2, 3, 4, 5, 6, 7, 8, 9] rfl (by decide) (q0 := 0) rfl rfl) rfl rfl hl.1 rfl (lv_room (Nat.le_of_ble_eq_true rfl)) dX4_ifCalled_43 ⟨Nat.zero_le _, Nat.zero_le _⟩) hP hD hS hA [0, 1, 2, 3, 4, 5, 6, 7, 8, 9] [] [0, 1, 2, 3, 4, 5, 6, 7, 8, 9] rfl rfl (by decide) (by decide) rfl (by decide) (fun H locs hP hD hS => ?_)
          refine lv_goto (tgt := 57) hx hb dX4_ifCalled_46 (by decide) ?_
          have e9 : D_X4_ifCalled M n w = D_X4_villagersBy M n 2 := by rw [D_X4_ifCalled, if_neg c_1, if_neg c_2, if_neg c_3, if_pos c_4]
          exact ret_i hx hb hr hlk hP hD hS dX4_ifCalled_57 ⟨Nat.zero_le _, Nat.zero_le _⟩ ⟨e9.symm, rfl⟩
      · refine lv_aload_n hx hb dX4_ifCalled_27 rfl (lv_at hl 0 rfl) ?_
        refine lv_iload_n hx hb dX4_ifCalled_28 rfl (lv_at hl 1 rfl) ?_
        refine ck_iD (wr := ([] : va_W)) (ws' := wM Y mo q M) (va_runV (As := [.int n]) (rest := []) ⟨hx, hb, hml, hown, hts⟩ (c_X4_joyBy l D Y H.size q M mo n (f4_isNumber c_1)) (cwV 1 hts gX4_ifCalled_X4_joyBy rfl rfl rfl (by decide +kernel) ⟨Nat.le_of_ble_eq_true rfl, Nat.le_of_ble_eq_true rfl⟩) (pst_V hK hP hD [0, 1, 2, 3, 4, 5, 6, 7, 8, 9] rfl (by decide) (q0 := 0) rfl rfl) rfl rfl hl.1 rfl (lv_room (Nat.le_of_ble_eq_true rfl)) dX4_ifCalled_29 ⟨Nat.zero_le _, Nat.zero_le _⟩) hP hD hS hA [0, 1, 2, 3, 4, 5, 6, 7, 8, 9] [] [0, 1, 2, 3, 4, 5, 6, 7, 8, 9] rfl rfl (by decide) (by decide) rfl (by decide) (fun H locs hP hD hS => ?_)
        refine lv_goto (tgt := 57) hx hb dX4_ifCalled_32 (by decide) ?_
        have e9 : D_X4_ifCalled M n w = D_X4_joyBy M n := by rw [D_X4_ifCalled, if_neg c_1, if_neg c_2, if_pos c_3]
        exact ret_i hx hb hr hlk hP hD hS dX4_ifCalled_57 ⟨Nat.zero_le _, Nat.zero_le _⟩ ⟨e9.symm, rfl⟩
    · refine lv_ldc (v := (-1000002)) hx hb hown (hts (.constant RX4 91 (-1000002)) (by decide +kernel)) dX4_ifCalled_19 ?_
      have e9 : D_X4_ifCalled M n w = (-1000002) := by rw [D_X4_ifCalled, if_neg c_1, if_pos c_2]
      exact ret_i hx hb hr hlk hP hD hS dX4_ifCalled_21 ⟨Nat.zero_le _, Nat.zero_le _⟩ ⟨e9.symm, rfl⟩
def L_X4_bestCall_17 (M : Nat → Nat → Int32) (w : Int32) : Nat → (Int32) → (Int32) → (Int32)
  | 0, i, be => be
  | n_17 + 1, i, be => if 9 ≤ i then be else (if (D_X4_joyBy M i) ≤ (D_X4_joyBy M be) then (L_X4_bestCall_17 M w n_17 (i + 1) be) else (L_X4_bestCall_17 M w n_17 (i + 1) i))
def D_X4_bestCall (M : Nat → Nat → Int32) (w : Int32) : (Int32) := if (D_X4_in w.toInt64 0 1) = 0 then (-1000002) else (if w = 0 then (L_X4_bestCall_17 M w 10 1 0) else (D_X4_joyBy M (L_X4_bestCall_17 M w 10 1 0)))
set_option maxHeartbeats 4000000 in
set_option maxRecDepth 100000 in
theorem c_X4_bestCall (l : Launch) (D : va_G) (Y : YY) (sz : Nat) (q : Nat → Nat) (M : Nat → Nat → Int32) (mo : Nat) (w : Int32) : Met l yX4_bestCall wsX4_bestCall ({ frames := 4, cells := 0, slots := 0, locals := 88 } : Room) (va_Pc [.ref mo, .int w] (Pst D Y sz (wM Y mo q M))) ((fun A : Nat → Prop => Qsi D (fun r9 w9 => r9 = D_X4_bestCall M w ∧ w9 = wM Y mo q M) A) (va_A (wM Y mo q M) sz)) 0 0 (va_A (wM Y mo q M) sz) := by
  refine ct_in (cc := cX4_bestCall) (maxL := 4) (ret := (some .int)) (Qc := fun A : Nat → Prop => Qsi D (fun r9 w9 => r9 = D_X4_bestCall M w ∧ w9 = wM Y mo q M) A) (by decide +kernel) rfl (Nat.le_of_ble_eq_true rfl) ?_
  intro p e s m below meth c A ls hx hb hr hts hown hml hlk hin hsz hA hP hD hK hS hl
  have hown : s.vm.findClass RX4 = some m.cls := hown
  have hl : lv_has ls 4 [(0, .ref mo), (1, .int w)] := hl
  show W p l e ({ frames := 4, cells := 0, slots := 0, locals := 88 } : Room) s m ([.ref mo, .int w] : List Value).toArray below meth c s.heap [] 0 0 (MQ below (Qsi D (fun r9 w9 => r9 = D_X4_bestCall M w ∧ w9 = wM Y mo q M) A) ([.ref mo, .int w] : List Value).toArray s 0 0 A) (F0 m 0 ls [])
  refine lv_iload_n hx hb dX4_bestCall_0 rfl (lv_at hl 1 rfl) ?_
  refine lv_i2l (v := w.toInt64) hx hb dX4_bestCall_1 rfl ?_
  refine lv_lconst (v := 0) hx hb dX4_bestCall_2 (by decide) ?_
  refine lv_lconst (v := 1) hx hb dX4_bestCall_3 (by decide) ?_
  refine ck_iD (wr := wM Y mo q M) (ws' := wM Y mo q M) (va_runS (As := [.long w.toInt64, .long 0, .long 1]) (rest := []) ⟨hx, hb, hml, hown, hts⟩ (c_X4_in l D Y s.heap.size w.toInt64 0 1) (va_cwS 3 hts gX4_bestCall_X4_in rfl rfl rfl (by decide +kernel) ⟨Nat.le_of_ble_eq_true rfl, Nat.le_of_ble_eq_true rfl⟩) (pst_S hK hP hD [] rfl (by decide)) rfl rfl hl.1 rfl (lv_room (Nat.le_of_ble_eq_true rfl)) dX4_bestCall_4 ⟨Nat.zero_le _, Nat.zero_le _⟩) hP hD hS hA [] [0, 1, 2, 3, 4, 5, 6, 7, 8, 9] [0, 1, 2, 3, 4, 5, 6, 7, 8, 9] rfl rfl (by decide) (by decide) rfl (by decide) (fun H locs hP hD hS => ?_)
  refine lv_if_ne (tgt := 13) hx hb dX4_bestCall_7 (by decide) (fun c_1 => ?_) (fun c_1 => ?_)
  · refine lv_iconst (v := 0) hx hb dX4_bestCall_13 (by decide) ?_
    refine lv_istore_n (lv' := [(2, .int 0), (0, .ref mo), (1, .int w)]) hx hb dX4_bestCall_14 rfl hl (by decide) rfl (fun ls hl => ?_)
    refine lv_iconst (v := 1) hx hb dX4_bestCall_15 (by decide) ?_
    refine lv_istore_n (lv' := [(3, .int 1), (2, .int 0), (0, .ref mo), (1, .int w)]) hx hb dX4_bestCall_16 rfl hl (by decide) rfl (fun ls hl => ?_)
    have loop_17 : ∀ (n_17 k_17 : Nat) (i : Int32) (be : Int32) (H : Heap) (locs : List Loc) (ls : Array Slot), 10 ≤ k_17 + n_17 → k_17 ≤ 9 → i = nI k_17 → (vp_in be 9) → va_P D vwCl (wM Y mo q M) H → va_D A (wM Y mo q M) → va_S A s.heap H locs → lv_has ls 4 [(3, .int i), (2, .int be), (0, .ref mo), (1, .int w)] → L_X4_bestCall_17 M w n_17 i be = L_X4_bestCall_17 M w 10 1 0 → W p l e ({ frames := 4, cells := 0, slots := 0, locals := 88 } : Room) s m ([.ref mo, .int w] : List Value).toArray below meth c H locs 0 0 (MQ below (Qsi D (fun r9 w9 => r9 = D_X4_bestCall M w ∧ w9 = wM Y mo q M) A) ([.ref mo, .int w] : List Value).toArray s 0 0 A) (F0 m 17 ls []) := by
      intro n_17
      induction n_17 with
      | zero => intro k_17 i be H locs ls hkf hkN_17 ex_17 hbe hP hD hS hl hR_17; exact absurd hkf (by omega)
      | succ n_17 ih_17 =>
        intro k_17 i be H locs ls hkf hkN_17 ex_17 hbe hP hD hS hl hR_17
        refine lv_iload_n hx hb dX4_bestCall_17 rfl (lv_at hl 0 rfl) ?_
        refine lv_bipush (v := 9) hx hb dX4_bestCall_18 (by decide) ?_
        refine lv_icmp_ge (tgt := 48) hx hb dX4_bestCall_20 (by decide) (fun c_2 => ?_) (fun c_2 => ?_)
        · have e8 : L_X4_bestCall_17 M w (n_17 + 1) i be = be := by rw [L_X4_bestCall_17, if_pos c_2]
          have e8 := hR_17.symm.trans e8
          have ebe : L_X4_bestCall_17 M w 10 1 0 = be := by rw [e8]
          clear e8 hR_17 ih_17
          refine lv_iload_n hx hb dX4_bestCall_48 rfl (lv_at hl 3 rfl) ?_
          refine lv_if_ne (tgt := 56) hx hb dX4_bestCall_49 (by decide) (fun c_3 => ?_) (fun c_3 => ?_)
          · refine lv_aload_n hx hb dX4_bestCall_56 rfl (lv_at hl 2 rfl) ?_
            refine lv_iload_n hx hb dX4_bestCall_57 rfl (lv_at hl 1 rfl) ?_
            refine ck_iD (wr := ([] : va_W)) (ws' := wM Y mo q M) (va_runV (As := [.int be]) (rest := []) ⟨hx, hb, hml, hown, hts⟩ (c_X4_joyBy l D Y H.size q M mo be (my_wid hbe (by decide) (by decide))) (cwV 1 hts gX4_bestCall_X4_joyBy rfl rfl rfl (by decide +kernel) ⟨Nat.le_of_ble_eq_true rfl, Nat.le_of_ble_eq_true rfl⟩) (pst_V hK hP hD [0, 1, 2, 3, 4, 5, 6, 7, 8, 9] rfl (by decide) (q0 := 0) rfl rfl) rfl rfl hl.1 rfl (lv_room (Nat.le_of_ble_eq_true rfl)) dX4_bestCall_58 ⟨Nat.zero_le _, Nat.zero_le _⟩) hP hD hS hA [0, 1, 2, 3, 4, 5, 6, 7, 8, 9] [] [0, 1, 2, 3, 4, 5, 6, 7, 8, 9] rfl rfl (by decide) (by decide) rfl (by decide) (fun H locs hP hD hS => ?_)
            subst ebe
            have e9 : D_X4_bestCall M w = D_X4_joyBy M (L_X4_bestCall_17 M w 10 1 0) := by rw [D_X4_bestCall, if_neg c_1, if_neg c_3]
            exact ret_i hx hb hr hlk hP hD hS dX4_bestCall_61 ⟨Nat.zero_le _, Nat.zero_le _⟩ ⟨e9.symm, rfl⟩
          · refine lv_iload_n hx hb dX4_bestCall_52 rfl (lv_at hl 1 rfl) ?_
            refine lv_goto (tgt := 61) hx hb dX4_bestCall_53 (by decide) ?_
            subst ebe
            have e9 : D_X4_bestCall M w = (L_X4_bestCall_17 M w 10 1 0) := by rw [D_X4_bestCall, if_neg c_1, if_pos c_3]
            exact ret_i hx hb hr hlk hP hD hS dX4_bestCall_61 ⟨Nat.zero_le _, Nat.zero_le _⟩ ⟨e9.symm, rfl⟩
        · have hk_17 := my_lt ex_17 (show (9 : Int32) = nI 9 from rfl) (by decide) hkN_17 c_2
          refine lv_aload_n hx hb dX4_bestCall_23 rfl (lv_at hl 2 rfl) ?_
          refine lv_iload_n hx hb dX4_bestCall_24 rfl (lv_at hl 0 rfl) ?_
          refine ck_iD (wr := ([] : va_W)) (ws' := wM Y mo q M) (va_runV (As := [.int i]) (rest := []) ⟨hx, hb, hml, hown, hts⟩ (c_X4_joyBy l D Y H.size q M mo i (my_wid (by rw [ex_17]; exact vp_in_nI hk_17 (by decide)) (by decide) (by decide))) (cwV 1 hts gX4_bestCall_X4_joyBy rfl rfl rfl (by decide +kernel) ⟨Nat.le_of_ble_eq_true rfl, Nat.le_of_ble_eq_true rfl⟩) (pst_V hK hP hD [0, 1, 2, 3, 4, 5, 6, 7, 8, 9] rfl (by decide) (q0 := 0) rfl rfl) rfl rfl hl.1 rfl (lv_room (Nat.le_of_ble_eq_true rfl)) dX4_bestCall_25 ⟨Nat.zero_le _, Nat.zero_le _⟩) hP hD hS hA [0, 1, 2, 3, 4, 5, 6, 7, 8, 9] [] [0, 1, 2, 3, 4, 5, 6, 7, 8, 9] rfl rfl (by decide) (by decide) rfl (by decide) (fun H locs hP hD hS => ?_)
          refine lv_aload_n hx hb dX4_bestCall_28 rfl (lv_at hl 2 rfl) ?_
          refine lv_iload_n hx hb dX4_bestCall_29 rfl (lv_at hl 1 rfl) ?_
          refine ck_iD (wr := ([] : va_W)) (ws' := wM Y mo q M) (va_runV (As := [.int be]) (rest := [.int (D_X4_joyBy M i)]) ⟨hx, hb, hml, hown, hts⟩ (c_X4_joyBy l D Y H.size q M mo be (my_wid hbe (by decide) (by decide))) (cwV 1 hts gX4_bestCall_X4_joyBy rfl rfl rfl (by decide +kernel) ⟨Nat.le_of_ble_eq_true rfl, Nat.le_of_ble_eq_true rfl⟩) (pst_V hK hP hD [0, 1, 2, 3, 4, 5, 6, 7, 8, 9] rfl (by decide) (q0 := 0) rfl rfl) rfl rfl hl.1 rfl (lv_room (Nat.le_of_ble_eq_true rfl)) dX4_bestCall_30 ⟨Nat.zero_le _, Nat.zero_le _⟩) hP hD hS hA [0, 1, 2, 3, 4, 5, 6, 7, 8, 9] [] [0, 1, 2, 3, 4, 5, 6, 7, 8, 9] rfl rfl (by decide) (by decide) rfl (by decide) (fun H locs hP hD hS => ?_)
          refine lv_icmp_le (tgt := 40) hx hb dX4_bestCall_33 (by decide) (fun c_4 => ?_) (fun c_4 => ?_)
          · refine lv_iload_n hx hb dX4_bestCall_40 rfl (lv_at hl 1 rfl) ?_
            refine lv_istore_n (lv' := [(2, .int be), (3, .int i), (0, .ref mo), (1, .int w)]) hx hb dX4_bestCall_41 rfl hl (by decide) rfl (fun ls hl => ?_)
            refine lv_iinc (v := i + 1) (lv' := [(3, .int (i + 1)), (2, .int be), (0, .ref mo), (1, .int w)]) hx hb dX4_bestCall_42 hl (k := 1) rfl rfl (by decide) rfl (fun ls hl => ?_)
            refine lv_goto (tgt := 17) hx hb dX4_bestCall_45 (by decide) ?_
            exact ih_17 (k_17 + 1) (i + 1) be _ _ _ (by omega) (by omega) (by rw [ex_17]; exact nI_1 k_17) hbe hP hD hS (lv_sub hl [0, 1, 2, 3] rfl) (by rw [L_X4_bestCall_17, if_neg c_2, if_pos c_4] at hR_17; exact hR_17)
          · refine lv_iload_n hx hb dX4_bestCall_36 rfl (lv_at hl 0 rfl) ?_
            refine lv_goto (tgt := 41) hx hb dX4_bestCall_37 (by decide) ?_
            refine lv_istore_n (lv' := [(2, .int i), (3, .int i), (0, .ref mo), (1, .int w)]) hx hb dX4_bestCall_41 rfl hl (by decide) rfl (fun ls hl => ?_)
            refine lv_iinc (v := i + 1) (lv' := [(3, .int (i + 1)), (2, .int i), (0, .ref mo), (1, .int w)]) hx hb dX4_bestCall_42 hl (k := 1) rfl rfl (by decide) rfl (fun ls hl => ?_)
            refine lv_goto (tgt := 17) hx hb dX4_bestCall_45 (by decide) ?_
            exact ih_17 (k_17 + 1) (i + 1) i _ _ _ (by omega) (by omega) (by rw [ex_17]; exact nI_1 k_17) (by rw [ex_17]; exact vp_in_nI hk_17 (by decide)) hP hD hS (lv_sub hl [0, 1, 2, 3] rfl) (by rw [L_X4_bestCall_17, if_neg c_2, if_neg c_4] at hR_17; exact hR_17)
    exact loop_17 10 1 1 0 _ _ _ (by omega) (by omega) rfl (by unfold vp_in; decide) hP hD hS (lv_sub hl [0, 1, 2, 3] rfl) rfl
  · refine lv_ldc (v := (-1000002)) hx hb hown (hts (.constant RX4 91 (-1000002)) (by decide +kernel)) dX4_bestCall_10 ?_
    have e9 : D_X4_bestCall M w = (-1000002) := by rw [D_X4_bestCall, if_pos c_1]
    exact ret_i hx hb hr hlk hP hD hS dX4_bestCall_12 ⟨Nat.zero_le _, Nat.zero_le _⟩ ⟨e9.symm, rfl⟩
def V_X4_fewestRounds_1 (i : Int32) (j : Int32) (u1 : Int32) : Int32 := u1 ||| (1 <<< (((i + j) - (i + j) / 9 * 9) &&& 31))
def L_X4_fewestRounds_28 (M : Nat → Nat → Int32) (w : Int32) (i : Int32) (u : Int32) : Nat → (Int32) → (Int32) → (Int32)
  | 0, j, u1 => u1
  | n_28 + 1, j, u1 => if 9 ≤ j then u1 else (if (D_X4_isNew M i j) = 0 then (L_X4_fewestRounds_28 M w i u n_28 (j + 1) (u1 ||| 0)) else (L_X4_fewestRounds_28 M w i u n_28 (j + 1) (V_X4_fewestRounds_1 i j u1)))
def L_X4_fewestRounds_17 (M : Nat → Nat → Int32) (w : Int32) : Nat → (Int32) → (Int32) → (Int32)
  | 0, i, u => u
  | n_17 + 1, i, u => if 9 ≤ i then u else (L_X4_fewestRounds_17 M w n_17 (i + 1) (L_X4_fewestRounds_28 M w i u 10 (i + 1) u))
def L_X4_fewestRounds_78 (M : Nat → Nat → Int32) (w : Int32) (u : Int32) : Nat → (Int32) → (Int32) → (Int32)
  | 0, k, z => z
  | n_78 + 1, k, z => if 9 ≤ k then z else (L_X4_fewestRounds_78 M w u n_78 (k + 1) (z + ((u >>> (k &&& 31)) &&& 1)))
def D_X4_fewestRounds (M : Nat → Nat → Int32) (w : Int32) : (Int32) := if (D_X4_in w.toInt64 0 1) = 0 then (-1000002) else (L_X4_fewestRounds_78 M w (L_X4_fewestRounds_17 M w 10 0 0) 10 0 0)
set_option maxHeartbeats 4000000 in
set_option maxRecDepth 100000 in
theorem c_X4_fewestRounds (l : Launch) (D : va_G) (Y : YY) (sz : Nat) (q : Nat → Nat) (M : Nat → Nat → Int32) (mo : Nat) (w : Int32) : Met l yX4_fewestRounds wsX4_fewestRounds ({ frames := 2, cells := 0, slots := 0, locals := 43 } : Room) (va_Pc [.ref mo, .int w] (Pst D Y sz (wM Y mo q M))) ((fun A : Nat → Prop => Qsi D (fun r9 w9 => r9 = D_X4_fewestRounds M w ∧ w9 = wM Y mo q M) A) (va_A (wM Y mo q M) sz)) 0 0 (va_A (wM Y mo q M) sz) := by
  refine ct_in (cc := cX4_fewestRounds) (maxL := 5) (ret := (some .int)) (Qc := fun A : Nat → Prop => Qsi D (fun r9 w9 => r9 = D_X4_fewestRounds M w ∧ w9 = wM Y mo q M) A) (by decide +kernel) rfl (Nat.le_of_ble_eq_true rfl) ?_
  intro p e s m below meth c A ls hx hb hr hts hown hml hlk hin hsz hA hP hD hK hS hl
  have hown : s.vm.findClass RX4 = some m.cls := hown
  have hl : lv_has ls 5 [(0, .ref mo), (1, .int w)] := hl
  show W p l e ({ frames := 2, cells := 0, slots := 0, locals := 43 } : Room) s m ([.ref mo, .int w] : List Value).toArray below meth c s.heap [] 0 0 (MQ below (Qsi D (fun r9 w9 => r9 = D_X4_fewestRounds M w ∧ w9 = wM Y mo q M) A) ([.ref mo, .int w] : List Value).toArray s 0 0 A) (F0 m 0 ls [])
  refine lv_iload_n hx hb dX4_fewestRounds_0 rfl (lv_at hl 1 rfl) ?_
  refine lv_i2l (v := w.toInt64) hx hb dX4_fewestRounds_1 rfl ?_
  refine lv_lconst (v := 0) hx hb dX4_fewestRounds_2 (by decide) ?_
  refine lv_lconst (v := 1) hx hb dX4_fewestRounds_3 (by decide) ?_
  refine ck_iD (wr := wM Y mo q M) (ws' := wM Y mo q M) (va_runS (As := [.long w.toInt64, .long 0, .long 1]) (rest := []) ⟨hx, hb, hml, hown, hts⟩ (c_X4_in l D Y s.heap.size w.toInt64 0 1) (va_cwS 3 hts gX4_fewestRounds_X4_in rfl rfl rfl (by decide +kernel) ⟨Nat.le_of_ble_eq_true rfl, Nat.le_of_ble_eq_true rfl⟩) (pst_S hK hP hD [] rfl (by decide)) rfl rfl hl.1 rfl (lv_room (Nat.le_of_ble_eq_true rfl)) dX4_fewestRounds_4 ⟨Nat.zero_le _, Nat.zero_le _⟩) hP hD hS hA [] [0, 1, 2, 3, 4, 5, 6, 7, 8, 9] [0, 1, 2, 3, 4, 5, 6, 7, 8, 9] rfl rfl (by decide) (by decide) rfl (by decide) (fun H locs hP hD hS => ?_)
  refine lv_if_ne (tgt := 13) hx hb dX4_fewestRounds_7 (by decide) (fun c_1 => ?_) (fun c_1 => ?_)
  · refine lv_iconst (v := 0) hx hb dX4_fewestRounds_13 (by decide) ?_
    refine lv_istore_n (lv' := [(2, .int 0), (0, .ref mo), (1, .int w)]) hx hb dX4_fewestRounds_14 rfl hl (by decide) rfl (fun ls hl => ?_)
    refine lv_iconst (v := 0) hx hb dX4_fewestRounds_15 (by decide) ?_
    refine lv_istore_n (lv' := [(3, .int 0), (2, .int 0), (0, .ref mo), (1, .int w)]) hx hb dX4_fewestRounds_16 rfl hl (by decide) rfl (fun ls hl => ?_)
    have loop_17 : ∀ (n_17 k_17 : Nat) (i : Int32) (u : Int32) (H : Heap) (locs : List Loc) (ls : Array Slot), 10 ≤ k_17 + n_17 → k_17 ≤ 9 → i = nI k_17 → va_P D vwCl (wM Y mo q M) H → va_D A (wM Y mo q M) → va_S A s.heap H locs → lv_has ls 5 [(3, .int i), (2, .int u), (0, .ref mo), (1, .int w)] → L_X4_fewestRounds_17 M w n_17 i u = L_X4_fewestRounds_17 M w 10 0 0 → W p l e ({ frames := 2, cells := 0, slots := 0, locals := 43 } : Room) s m ([.ref mo, .int w] : List Value).toArray below meth c H locs 0 0 (MQ below (Qsi D (fun r9 w9 => r9 = D_X4_fewestRounds M w ∧ w9 = wM Y mo q M) A) ([.ref mo, .int w] : List Value).toArray s 0 0 A) (F0 m 17 ls []) := by
      intro n_17
      induction n_17 with
      | zero => intro k_17 i u H locs ls hkf hkN_17 ex_17 hP hD hS hl hR_17; exact absurd hkf (by omega)
      | succ n_17 ih_17 =>
        intro k_17 i u H locs ls hkf hkN_17 ex_17 hP hD hS hl hR_17
        refine lv_iload_n hx hb dX4_fewestRounds_17 rfl (lv_at hl 0 rfl) ?_
        refine lv_bipush (v := 9) hx hb dX4_fewestRounds_18 (by decide) ?_
        refine lv_icmp_ge (tgt := 73) hx hb dX4_fewestRounds_20 (by decide) (fun c_2 => ?_) (fun c_2 => ?_)
        · have e8 : L_X4_fewestRounds_17 M w (n_17 + 1) i u = u := by rw [L_X4_fewestRounds_17, if_pos c_2]
          have e8 := hR_17.symm.trans e8
          have eu : L_X4_fewestRounds_17 M w 10 0 0 = u := by rw [e8]
          clear e8 hR_17 ih_17
          refine lv_iconst (v := 0) hx hb dX4_fewestRounds_73 (by decide) ?_
          refine lv_istore_n (lv' := [(3, .int 0), (2, .int u), (0, .ref mo), (1, .int w)]) hx hb dX4_fewestRounds_74 rfl hl (by decide) rfl (fun ls hl => ?_)
          refine lv_iconst (v := 0) hx hb dX4_fewestRounds_75 (by decide) ?_
          refine lv_istore (lv' := [(4, .int 0), (3, .int 0), (2, .int u), (0, .ref mo), (1, .int w)]) hx hb dX4_fewestRounds_76 hl (by decide) rfl (fun ls hl => ?_)
          have loop_78 : ∀ (n_78 k_78 : Nat) (k : Int32) (z : Int32) (H : Heap) (locs : List Loc) (ls : Array Slot), 10 ≤ k_78 + n_78 → k_78 ≤ 9 → k = nI k_78 → va_P D vwCl (wM Y mo q M) H → va_D A (wM Y mo q M) → va_S A s.heap H locs → lv_has ls 5 [(4, .int k), (3, .int z), (2, .int u), (0, .ref mo), (1, .int w)] → L_X4_fewestRounds_78 M w u n_78 k z = L_X4_fewestRounds_78 M w u 10 0 0 → W p l e ({ frames := 2, cells := 0, slots := 0, locals := 43 } : Room) s m ([.ref mo, .int w] : List Value).toArray below meth c H locs 0 0 (MQ below (Qsi D (fun r9 w9 => r9 = D_X4_fewestRounds M w ∧ w9 = wM Y mo q M) A) ([.ref mo, .int w] : List Value).toArray s 0 0 A) (F0 m 78 ls []) := by
            intro n_78
            induction n_78 with
            | zero => intro k_78 k z H locs ls hkf hkN_78 ex_78 hP hD hS hl hR_78; exact absurd hkf (by omega)
            | succ n_78 ih_78 =>
              intro k_78 k z H locs ls hkf hkN_78 ex_78 hP hD hS hl hR_78
              refine lv_iload hx hb dX4_fewestRounds_78 (lv_at hl 0 rfl) ?_
              refine lv_bipush (v := 9) hx hb dX4_fewestRounds_80 (by decide) ?_
              refine lv_icmp_ge (tgt := 100) hx hb dX4_fewestRounds_82 (by decide) (fun c_3 => ?_) (fun c_3 => ?_)
              · have e8 : L_X4_fewestRounds_78 M w u (n_78 + 1) k z = z := by rw [L_X4_fewestRounds_78, if_pos c_3]
                have e8 := hR_78.symm.trans e8
                have ez : L_X4_fewestRounds_78 M w u 10 0 0 = z := by rw [e8]
                clear e8 hR_78 ih_78
                refine lv_iload_n hx hb dX4_fewestRounds_100 rfl (lv_at hl 1 rfl) ?_
                subst ez
                subst eu
                have e9 : D_X4_fewestRounds M w = (L_X4_fewestRounds_78 M w (L_X4_fewestRounds_17 M w 10 0 0) 10 0 0) := by rw [D_X4_fewestRounds, if_neg c_1]
                exact ret_i hx hb hr hlk hP hD hS dX4_fewestRounds_101 ⟨Nat.zero_le _, Nat.zero_le _⟩ ⟨e9.symm, rfl⟩
              · have hk_78 := my_lt ex_78 (show (9 : Int32) = nI 9 from rfl) (by decide) hkN_78 c_3
                refine lv_iload_n hx hb dX4_fewestRounds_85 rfl (lv_at hl 1 rfl) ?_
                refine lv_iload_n hx hb dX4_fewestRounds_86 rfl (lv_at hl 2 rfl) ?_
                refine lv_iload hx hb dX4_fewestRounds_87 (lv_at hl 0 rfl) ?_
                refine lv_ishr hx hb dX4_fewestRounds_89 ?_
                refine lv_iconst (v := 1) hx hb dX4_fewestRounds_90 (by decide) ?_
                refine lv_iand hx hb dX4_fewestRounds_91 ?_
                refine lv_iadd hx hb dX4_fewestRounds_92 ?_
                refine lv_istore_n (lv' := [(3, .int (z + ((u >>> (k &&& 31)) &&& 1))), (4, .int k), (2, .int u), (0, .ref mo), (1, .int w)]) hx hb dX4_fewestRounds_93 rfl hl (by decide) rfl (fun ls hl => ?_)
                refine lv_iinc (v := k + 1) (lv' := [(4, .int (k + 1)), (3, .int (z + ((u >>> (k &&& 31)) &&& 1))), (2, .int u), (0, .ref mo), (1, .int w)]) hx hb dX4_fewestRounds_94 hl (k := 1) rfl rfl (by decide) rfl (fun ls hl => ?_)
                refine lv_goto (tgt := 78) hx hb dX4_fewestRounds_97 (by decide) ?_
                exact ih_78 (k_78 + 1) (k + 1) (z + ((u >>> (k &&& 31)) &&& 1)) _ _ _ (by omega) (by omega) (by rw [ex_78]; exact nI_1 k_78)  hP hD hS (lv_sub hl [0, 1, 2, 3, 4] rfl) (by rw [L_X4_fewestRounds_78, if_neg c_3] at hR_78; exact hR_78)
          exact loop_78 10 0 0 0 _ _ _ (by omega) (Nat.zero_le _) nI_0.symm  hP hD hS (lv_sub hl [0, 1, 2, 3, 4] rfl) rfl
        · have hk_17 := my_lt ex_17 (show (9 : Int32) = nI 9 from rfl) (by decide) hkN_17 c_2
          refine lv_iload_n hx hb dX4_fewestRounds_23 rfl (lv_at hl 0 rfl) ?_
          refine lv_iconst (v := 1) hx hb dX4_fewestRounds_24 (by decide) ?_
          refine lv_iadd hx hb dX4_fewestRounds_25 ?_
          refine lv_istore (lv' := [(4, .int (i + 1)), (3, .int i), (2, .int u), (0, .ref mo), (1, .int w)]) hx hb dX4_fewestRounds_26 hl (by decide) rfl (fun ls hl => ?_)
          have loop_28 : ∀ (n_28 k_28 : Nat) (j : Int32) (u1 : Int32) (H : Heap) (locs : List Loc) (ls : Array Slot), 10 ≤ k_28 + n_28 → k_28 ≤ 9 → j = nI k_28 → va_P D vwCl (wM Y mo q M) H → va_D A (wM Y mo q M) → va_S A s.heap H locs → lv_has ls 5 [(4, .int j), (3, .int i), (2, .int u1), (0, .ref mo), (1, .int w)] → L_X4_fewestRounds_28 M w i u n_28 j u1 = L_X4_fewestRounds_28 M w i u 10 (i + 1) u → W p l e ({ frames := 2, cells := 0, slots := 0, locals := 43 } : Room) s m ([.ref mo, .int w] : List Value).toArray below meth c H locs 0 0 (MQ below (Qsi D (fun r9 w9 => r9 = D_X4_fewestRounds M w ∧ w9 = wM Y mo q M) A) ([.ref mo, .int w] : List Value).toArray s 0 0 A) (F0 m 28 ls []) := by
            intro n_28
            induction n_28 with
            | zero => intro k_28 j u1 H locs ls hkf hkN_28 ex_28 hP hD hS hl hR_28; exact absurd hkf (by omega)
            | succ n_28 ih_28 =>
              intro k_28 j u1 H locs ls hkf hkN_28 ex_28 hP hD hS hl hR_28
              refine lv_iload hx hb dX4_fewestRounds_28 (lv_at hl 0 rfl) ?_
              refine lv_bipush (v := 9) hx hb dX4_fewestRounds_30 (by decide) ?_
              refine lv_icmp_ge (tgt := 67) hx hb dX4_fewestRounds_32 (by decide) (fun c_4 => ?_) (fun c_4 => ?_)
              · have e8 : L_X4_fewestRounds_28 M w i u (n_28 + 1) j u1 = u1 := by rw [L_X4_fewestRounds_28, if_pos c_4]
                have e8 := hR_28.symm.trans e8
                have eu1 : L_X4_fewestRounds_28 M w i u 10 (i + 1) u = u1 := by rw [e8]
                clear e8 hR_28 ih_28
                refine lv_iinc (v := i + 1) (lv' := [(3, .int (i + 1)), (4, .int j), (2, .int u1), (0, .ref mo), (1, .int w)]) hx hb dX4_fewestRounds_67 hl (k := 1) rfl rfl (by decide) rfl (fun ls hl => ?_)
                refine lv_goto (tgt := 17) hx hb dX4_fewestRounds_70 (by decide) ?_
                subst eu1
                exact ih_17 (k_17 + 1) (i + 1) (L_X4_fewestRounds_28 M w i u 10 (i + 1) u) _ _ _ (by omega) (by omega) (by rw [ex_17]; exact nI_1 k_17)  hP hD hS (lv_sub hl [0, 2, 3, 4] rfl) (by rw [L_X4_fewestRounds_17, if_neg c_2] at hR_17; exact hR_17)
              · have hk_28 := my_lt ex_28 (show (9 : Int32) = nI 9 from rfl) (by decide) hkN_28 c_4
                refine lv_iload_n hx hb dX4_fewestRounds_35 rfl (lv_at hl 2 rfl) ?_
                refine lv_aload_n hx hb dX4_fewestRounds_36 rfl (lv_at hl 3 rfl) ?_
                refine lv_iload_n hx hb dX4_fewestRounds_37 rfl (lv_at hl 1 rfl) ?_
                refine lv_iload hx hb dX4_fewestRounds_38 (lv_at hl 0 rfl) ?_
                refine ck_iD (wr := ([] : va_W)) (ws' := wM Y mo q M) (va_runV (As := [.int i, .int j]) (rest := [.int u1]) ⟨hx, hb, hml, hown, hts⟩ (c_X4_isNew l D Y H.size q M mo i j (by rw [ex_17]; exact vp_in_nI hk_17 (by decide)) (by rw [ex_28]; exact vp_in_nI hk_28 (by decide))) (cwV 2 hts gX4_fewestRounds_X4_isNew rfl rfl rfl (by decide +kernel) ⟨Nat.le_of_ble_eq_true rfl, Nat.le_of_ble_eq_true rfl⟩) (pst_V hK hP hD [0, 1, 2, 3, 4, 5, 6, 7, 8, 9] rfl (by decide) (q0 := 0) rfl rfl) rfl rfl hl.1 rfl (lv_room (Nat.le_of_ble_eq_true rfl)) dX4_fewestRounds_40 ⟨Nat.zero_le _, Nat.zero_le _⟩) hP hD hS hA [0, 1, 2, 3, 4, 5, 6, 7, 8, 9] [] [0, 1, 2, 3, 4, 5, 6, 7, 8, 9] rfl rfl (by decide) (by decide) rfl (by decide) (fun H locs hP hD hS => ?_)
                refine lv_if_eq (tgt := 58) hx hb dX4_fewestRounds_43 (by decide) (fun c_5 => ?_) (fun c_5 => ?_)
                · refine lv_iconst (v := 0) hx hb dX4_fewestRounds_58 (by decide) ?_
                  refine lv_ior hx hb dX4_fewestRounds_59 ?_
                  refine lv_istore_n (lv' := [(2, .int (u1 ||| 0)), (4, .int j), (3, .int i), (0, .ref mo), (1, .int w)]) hx hb dX4_fewestRounds_60 rfl hl (by decide) rfl (fun ls hl => ?_)
                  refine lv_iinc (v := j + 1) (lv' := [(4, .int (j + 1)), (2, .int (u1 ||| 0)), (3, .int i), (0, .ref mo), (1, .int w)]) hx hb dX4_fewestRounds_61 hl (k := 1) rfl rfl (by decide) rfl (fun ls hl => ?_)
                  refine lv_goto (tgt := 28) hx hb dX4_fewestRounds_64 (by decide) ?_
                  exact ih_28 (k_28 + 1) (j + 1) (u1 ||| 0) _ _ _ (by omega) (by omega) (by rw [ex_28]; exact nI_1 k_28)  hP hD hS (lv_sub hl [0, 2, 1, 3, 4] rfl) (by rw [L_X4_fewestRounds_28, if_neg c_4, if_pos c_5] at hR_28; exact hR_28)
                · refine lv_iconst (v := 1) hx hb dX4_fewestRounds_46 (by decide) ?_
                  refine lv_iload_n hx hb dX4_fewestRounds_47 rfl (lv_at hl 1 rfl) ?_
                  refine lv_iload hx hb dX4_fewestRounds_48 (lv_at hl 0 rfl) ?_
                  refine lv_iadd hx hb dX4_fewestRounds_50 ?_
                  refine lv_bipush (v := 9) hx hb dX4_fewestRounds_51 (by decide) ?_
                  refine lv_irem hx hb dX4_fewestRounds_53 (by decide) ?_
                  refine lv_ishl hx hb dX4_fewestRounds_54 ?_
                  refine lv_goto (tgt := 59) hx hb dX4_fewestRounds_55 (by decide) ?_
                  refine lv_ior hx hb dX4_fewestRounds_59 ?_
                  refine lv_istore_n (lv' := [(2, .int (V_X4_fewestRounds_1 i j u1)), (4, .int j), (3, .int i), (0, .ref mo), (1, .int w)]) hx hb dX4_fewestRounds_60 rfl hl (by decide) rfl (fun ls hl => ?_)
                  refine lv_iinc (v := j + 1) (lv' := [(4, .int (j + 1)), (2, .int (V_X4_fewestRounds_1 i j u1)), (3, .int i), (0, .ref mo), (1, .int w)]) hx hb dX4_fewestRounds_61 hl (k := 1) rfl rfl (by decide) rfl (fun ls hl => ?_)
                  refine lv_goto (tgt := 28) hx hb dX4_fewestRounds_64 (by decide) ?_
                  exact ih_28 (k_28 + 1) (j + 1) (V_X4_fewestRounds_1 i j u1) _ _ _ (by omega) (by omega) (by rw [ex_28]; exact nI_1 k_28)  hP hD hS (lv_sub hl [0, 2, 1, 3, 4] rfl) (by rw [L_X4_fewestRounds_28, if_neg c_4, if_neg c_5] at hR_28; exact hR_28)
          exact loop_28 10 (k_17 + 1) (i + 1) u _ _ _ (by omega) (by omega) (by rw [ex_17]; exact nI_1 k_17)  hP hD hS (lv_sub hl [0, 1, 2, 3, 4] rfl) rfl
    exact loop_17 10 0 0 0 _ _ _ (by omega) (Nat.zero_le _) nI_0.symm  hP hD hS (lv_sub hl [0, 1, 2, 3] rfl) rfl
  · refine lv_ldc (v := (-1000002)) hx hb hown (hts (.constant RX4 91 (-1000002)) (by decide +kernel)) dX4_fewestRounds_10 ?_
    have e9 : D_X4_fewestRounds M w = (-1000002) := by rw [D_X4_fewestRounds, if_pos c_1]
    exact ret_i hx hb hr hlk hP hD hS dX4_fewestRounds_12 ⟨Nat.zero_le _, Nat.zero_le _⟩ ⟨e9.symm, rfl⟩
def L_X4_untilAllMet_6 (M : Nat → Nat → Int32) (S_1 : Nat → Nat → Int32) : Nat → (Int32) → (Nat → Nat → Int32) → (Int32) × (Nat → Nat → Int32)
  | 0, i, M1 => (i, M1)
  | n_6 + 1, i, M1 => if 500 < i then (i, M1) else (if (D_X4_newPairs M1) ≤ 0 then (i, M1) else (L_X4_untilAllMet_6 M S_1 n_6 (i + 1) ((D_X4_round M1 (i - i / 9 * 9)).2)))
def D_X4_untilAllMet (M : Nat → Nat → Int32)  : (Int32) × (Nat → Nat → Int32) := if ((L_X4_untilAllMet_6 M (D_X4_keeps M) 502 0 (D_X4_keeps M)).1) ≤ 500 then (((L_X4_untilAllMet_6 M (D_X4_keeps M) 502 0 (D_X4_keeps M)).1), (D_X4_comesBack ((L_X4_untilAllMet_6 M (D_X4_keeps M) 502 0 (D_X4_keeps M)).2))) else ((-1000006), (D_X4_comesBack ((L_X4_untilAllMet_6 M (D_X4_keeps M) 502 0 (D_X4_keeps M)).2)))
set_option maxHeartbeats 4000000 in
set_option maxRecDepth 100000 in
theorem c_X4_untilAllMet (l : Launch) (D : va_G) (Y : YY) (sz : Nat) (q : Nat → Nat) (M : Nat → Nat → Int32) (mo : Nat) : Met l yX4_untilAllMet wsX4_untilAllMet ({ frames := 4, cells := 0, slots := 0, locals := 89 } : Room) (va_Pc [.ref mo] (Pst D Y sz (wM Y mo q M))) ((fun A : Nat → Prop => Qsi D (fun r9 w9 => r9 = (D_X4_untilAllMet M).1 ∧ w9 = wM Y mo q ((D_X4_untilAllMet M).2)) A) (va_A (wM Y mo q M) sz)) 0 0 (va_A (wM Y mo q M) sz) := by
  refine ct_in (cc := cX4_untilAllMet) (maxL := 3) (ret := (some .int)) (Qc := fun A : Nat → Prop => Qsi D (fun r9 w9 => r9 = (D_X4_untilAllMet M).1 ∧ w9 = wM Y mo q ((D_X4_untilAllMet M).2)) A) (by decide +kernel) rfl (Nat.le_of_ble_eq_true rfl) ?_
  intro p e s m below meth c A ls hx hb hr hts hown hml hlk hin hsz hA hP hD hK hS hl
  have hown : s.vm.findClass RX4 = some m.cls := hown
  have hl : lv_has ls 3 [(0, .ref mo)] := hl
  show W p l e ({ frames := 4, cells := 0, slots := 0, locals := 89 } : Room) s m ([.ref mo] : List Value).toArray below meth c s.heap [] 0 0 (MQ below (Qsi D (fun r9 w9 => r9 = (D_X4_untilAllMet M).1 ∧ w9 = wM Y mo q ((D_X4_untilAllMet M).2)) A) ([.ref mo] : List Value).toArray s 0 0 A) (F0 m 0 ls [])
  refine lv_aload_n hx hb dX4_untilAllMet_0 rfl (lv_at hl 0 rfl) ?_
  refine ck_vD (wr := ([] : va_W)) (ws' := wM Y mo q (D_X4_keeps M)) (va_runV (As := []) (rest := []) ⟨hx, hb, hml, hown, hts⟩ (c_X4_keeps l D Y s.heap.size q M mo) (cwV 0 hts gX4_untilAllMet_X4_keeps rfl rfl rfl (by decide +kernel) ⟨Nat.le_of_ble_eq_true rfl, Nat.le_of_ble_eq_true rfl⟩) (pst_V hK hP hD [0, 1, 2, 3, 4, 5, 6, 7, 8, 9] rfl (by decide) (q0 := 0) rfl rfl) rfl rfl hl.1 rfl (lv_room (Nat.le_of_ble_eq_true rfl)) dX4_untilAllMet_1 ⟨Nat.zero_le _, Nat.zero_le _⟩) hP hD hS hA [0, 1, 2, 3, 4, 5, 6, 7, 8, 9] [] [0, 1, 2, 3, 4, 5, 6, 7, 8, 9] rfl rfl (by decide) (by decide) rfl (by decide) (fun H locs hP hD hS => ?_)
  obtain ⟨S_1, eS_1⟩ : ∃ z9, (D_X4_keeps M) = z9 := ⟨_, rfl⟩
  rw [eS_1] at hP hD
  refine lv_iconst (v := 0) hx hb dX4_untilAllMet_4 (by decide) ?_
  refine lv_istore_n (lv' := [(1, .int 0), (0, .ref mo)]) hx hb dX4_untilAllMet_5 rfl hl (by decide) rfl (fun ls hl => ?_)
  have loop_6 : ∀ (n_6 k_6 : Nat) (i : Int32) (M1 : Nat → Nat → Int32) (H : Heap) (locs : List Loc) (ls : Array Slot), 502 ≤ k_6 + n_6 → k_6 ≤ 501 → i = nI k_6 → va_P D vwCl (wM Y mo q M1) H → va_D A (wM Y mo q M1) → va_S A s.heap H locs → lv_has ls 3 [(1, .int i), (0, .ref mo)] → L_X4_untilAllMet_6 M S_1 n_6 i M1 = L_X4_untilAllMet_6 M S_1 502 0 S_1 → W p l e ({ frames := 4, cells := 0, slots := 0, locals := 89 } : Room) s m ([.ref mo] : List Value).toArray below meth c H locs 0 0 (MQ below (Qsi D (fun r9 w9 => r9 = (D_X4_untilAllMet M).1 ∧ w9 = wM Y mo q ((D_X4_untilAllMet M).2)) A) ([.ref mo] : List Value).toArray s 0 0 A) (F0 m 6 ls []) := by
    intro n_6
    induction n_6 with
    | zero => intro k_6 i M1 H locs ls hkf hkN_6 ex_6 hP hD hS hl hR_6; exact absurd hkf (by omega)
    | succ n_6 ih_6 =>
      intro k_6 i M1 H locs ls hkf hkN_6 ex_6 hP hD hS hl hR_6
      refine lv_iload_n hx hb dX4_untilAllMet_6 rfl (lv_at hl 0 rfl) ?_
      refine lv_sipush (v := 500) hx hb dX4_untilAllMet_7 (by decide) ?_
      refine lv_icmp_gt (tgt := 35) hx hb dX4_untilAllMet_10 (by decide) (fun c_1 => ?_) (fun c_1 => ?_)
      · have e8 : L_X4_untilAllMet_6 M S_1 (n_6 + 1) i M1 = (i, M1) := by rw [L_X4_untilAllMet_6, if_pos c_1]
        have e8 := hR_6.symm.trans e8
        have ei : (L_X4_untilAllMet_6 M S_1 502 0 S_1).1 = i := by rw [e8]
        have eM1 : (L_X4_untilAllMet_6 M S_1 502 0 S_1).2 = M1 := by rw [e8]
        clear e8 hR_6 ih_6
        refine lv_aload_n hx hb dX4_untilAllMet_35 rfl (lv_at hl 1 rfl) ?_
        refine ck_vD (wr := ([] : va_W)) (ws' := wM Y mo q (D_X4_comesBack M1)) (va_runV (As := []) (rest := []) ⟨hx, hb, hml, hown, hts⟩ (c_X4_comesBack l D Y H.size q M1 mo) (cwV 0 hts gX4_untilAllMet_X4_comesBack rfl rfl rfl (by decide +kernel) ⟨Nat.le_of_ble_eq_true rfl, Nat.le_of_ble_eq_true rfl⟩) (pst_V hK hP hD [0, 1, 2, 3, 4, 5, 6, 7, 8, 9] rfl (by decide) (q0 := 0) rfl rfl) rfl rfl hl.1 rfl (lv_room (Nat.le_of_ble_eq_true rfl)) dX4_untilAllMet_36 ⟨Nat.zero_le _, Nat.zero_le _⟩) hP hD hS hA [0, 1, 2, 3, 4, 5, 6, 7, 8, 9] [] [0, 1, 2, 3, 4, 5, 6, 7, 8, 9] rfl rfl (by decide) (by decide) rfl (by decide) (fun H locs hP hD hS => ?_)
        obtain ⟨S_2, eS_2⟩ : ∃ z9, (D_X4_comesBack M1) = z9 := ⟨_, rfl⟩
        rw [eS_2] at hP hD
        refine lv_iload_n hx hb dX4_untilAllMet_39 rfl (lv_at hl 0 rfl) ?_
        refine lv_sipush (v := 500) hx hb dX4_untilAllMet_40 (by decide) ?_
        refine lv_icmp_le (tgt := 51) hx hb dX4_untilAllMet_43 (by decide) (fun c_2 => ?_) (fun c_2 => ?_)
        · refine lv_iload_n hx hb dX4_untilAllMet_51 rfl (lv_at hl 0 rfl) ?_
          subst eS_2
          subst eM1
          subst ei
          subst eS_1
          have e9 : D_X4_untilAllMet M = (((L_X4_untilAllMet_6 M (D_X4_keeps M) 502 0 (D_X4_keeps M)).1), (D_X4_comesBack ((L_X4_untilAllMet_6 M (D_X4_keeps M) 502 0 (D_X4_keeps M)).2))) := by rw [D_X4_untilAllMet, if_pos c_2]
          exact ret_i hx hb hr hlk hP hD hS dX4_untilAllMet_52 ⟨Nat.zero_le _, Nat.zero_le _⟩ ⟨by rw [e9], by rw [e9]⟩
        · refine lv_ldc (v := (-1000006)) hx hb hown (hts (.constant RX4 37 (-1000006)) (by decide +kernel)) dX4_untilAllMet_46 ?_
          refine lv_goto (tgt := 52) hx hb dX4_untilAllMet_48 (by decide) ?_
          subst eS_2
          subst eM1
          subst ei
          subst eS_1
          have e9 : D_X4_untilAllMet M = ((-1000006), (D_X4_comesBack ((L_X4_untilAllMet_6 M (D_X4_keeps M) 502 0 (D_X4_keeps M)).2))) := by rw [D_X4_untilAllMet, if_neg c_2]
          exact ret_i hx hb hr hlk hP hD hS dX4_untilAllMet_52 ⟨Nat.zero_le _, Nat.zero_le _⟩ ⟨by rw [e9], by rw [e9]⟩
      · have hk_6 := my_lt2 ex_6 (show (500 : Int32) = nI 500 from rfl) (by decide) hkN_6 c_1
        refine lv_aload_n hx hb dX4_untilAllMet_13 rfl (lv_at hl 1 rfl) ?_
        refine ck_iD (wr := ([] : va_W)) (ws' := wM Y mo q M1) (va_runV (As := []) (rest := []) ⟨hx, hb, hml, hown, hts⟩ (c_X4_newPairs l D Y H.size q M1 mo) (cwV 0 hts gX4_untilAllMet_X4_newPairs rfl rfl rfl (by decide +kernel) ⟨Nat.le_of_ble_eq_true rfl, Nat.le_of_ble_eq_true rfl⟩) (pst_V hK hP hD [0, 1, 2, 3, 4, 5, 6, 7, 8, 9] rfl (by decide) (q0 := 0) rfl rfl) rfl rfl hl.1 rfl (lv_room (Nat.le_of_ble_eq_true rfl)) dX4_untilAllMet_14 ⟨Nat.zero_le _, Nat.zero_le _⟩) hP hD hS hA [0, 1, 2, 3, 4, 5, 6, 7, 8, 9] [] [0, 1, 2, 3, 4, 5, 6, 7, 8, 9] rfl rfl (by decide) (by decide) rfl (by decide) (fun H locs hP hD hS => ?_)
        refine lv_if_le (tgt := 35) hx hb dX4_untilAllMet_17 (by decide) (fun c_3 => ?_) (fun c_3 => ?_)
        · have e8 : L_X4_untilAllMet_6 M S_1 (n_6 + 1) i M1 = (i, M1) := by rw [L_X4_untilAllMet_6, if_neg c_1, if_pos c_3]
          have e8 := hR_6.symm.trans e8
          have ei : (L_X4_untilAllMet_6 M S_1 502 0 S_1).1 = i := by rw [e8]
          have eM1 : (L_X4_untilAllMet_6 M S_1 502 0 S_1).2 = M1 := by rw [e8]
          clear e8 hR_6 ih_6
          refine lv_aload_n hx hb dX4_untilAllMet_35 rfl (lv_at hl 1 rfl) ?_
          refine ck_vD (wr := ([] : va_W)) (ws' := wM Y mo q (D_X4_comesBack M1)) (va_runV (As := []) (rest := []) ⟨hx, hb, hml, hown, hts⟩ (c_X4_comesBack l D Y H.size q M1 mo) (cwV 0 hts gX4_untilAllMet_X4_comesBack rfl rfl rfl (by decide +kernel) ⟨Nat.le_of_ble_eq_true rfl, Nat.le_of_ble_eq_true rfl⟩) (pst_V hK hP hD [0, 1, 2, 3, 4, 5, 6, 7, 8, 9] rfl (by decide) (q0 := 0) rfl rfl) rfl rfl hl.1 rfl (lv_room (Nat.le_of_ble_eq_true rfl)) dX4_untilAllMet_36 ⟨Nat.zero_le _, Nat.zero_le _⟩) hP hD hS hA [0, 1, 2, 3, 4, 5, 6, 7, 8, 9] [] [0, 1, 2, 3, 4, 5, 6, 7, 8, 9] rfl rfl (by decide) (by decide) rfl (by decide) (fun H locs hP hD hS => ?_)
          obtain ⟨S_2, eS_2⟩ : ∃ z9, (D_X4_comesBack M1) = z9 := ⟨_, rfl⟩
          rw [eS_2] at hP hD
          refine lv_iload_n hx hb dX4_untilAllMet_39 rfl (lv_at hl 0 rfl) ?_
          refine lv_sipush (v := 500) hx hb dX4_untilAllMet_40 (by decide) ?_
          refine lv_icmp_le (tgt := 51) hx hb dX4_untilAllMet_43 (by decide) (fun c_4 => ?_) (fun c_4 => ?_)
          · refine lv_iload_n hx hb dX4_untilAllMet_51 rfl (lv_at hl 0 rfl) ?_
            subst eS_2
            subst eM1
            subst ei
            subst eS_1
            have e9 : D_X4_untilAllMet M = (((L_X4_untilAllMet_6 M (D_X4_keeps M) 502 0 (D_X4_keeps M)).1), (D_X4_comesBack ((L_X4_untilAllMet_6 M (D_X4_keeps M) 502 0 (D_X4_keeps M)).2))) := by rw [D_X4_untilAllMet, if_pos c_4]
            exact ret_i hx hb hr hlk hP hD hS dX4_untilAllMet_52 ⟨Nat.zero_le _, Nat.zero_le _⟩ ⟨by rw [e9], by rw [e9]⟩
          · refine lv_ldc (v := (-1000006)) hx hb hown (hts (.constant RX4 37 (-1000006)) (by decide +kernel)) dX4_untilAllMet_46 ?_
            refine lv_goto (tgt := 52) hx hb dX4_untilAllMet_48 (by decide) ?_
            subst eS_2
            subst eM1
            subst ei
            subst eS_1
            have e9 : D_X4_untilAllMet M = ((-1000006), (D_X4_comesBack ((L_X4_untilAllMet_6 M (D_X4_keeps M) 502 0 (D_X4_keeps M)).2))) := by rw [D_X4_untilAllMet, if_neg c_4]
            exact ret_i hx hb hr hlk hP hD hS dX4_untilAllMet_52 ⟨Nat.zero_le _, Nat.zero_le _⟩ ⟨by rw [e9], by rw [e9]⟩
        · refine lv_aload_n hx hb dX4_untilAllMet_20 rfl (lv_at hl 1 rfl) ?_
          refine lv_iload_n hx hb dX4_untilAllMet_21 rfl (lv_at hl 0 rfl) ?_
          refine lv_bipush (v := 9) hx hb dX4_untilAllMet_22 (by decide) ?_
          refine lv_irem hx hb dX4_untilAllMet_24 (by decide) ?_
          refine ck_iD (wr := ([] : va_W)) (ws' := wM Y mo q ((D_X4_round M1 (i - i / 9 * 9)).2)) (va_runV (As := [.int (i - i / 9 * 9)]) (rest := []) ⟨hx, hb, hml, hown, hts⟩ (c_X4_round l D Y H.size q M1 mo (i - i / 9 * 9) (my_wid (my_rem (by rw [ex_6]; exact vp_in_nI hk_6 (by decide)) (by decide)) (by decide) (by decide))) (cwV 1 hts gX4_untilAllMet_X4_round rfl rfl rfl (by decide +kernel) ⟨Nat.le_of_ble_eq_true rfl, Nat.le_of_ble_eq_true rfl⟩) (pst_V hK hP hD [0, 1, 2, 3, 4, 5, 6, 7, 8, 9] rfl (by decide) (q0 := 0) rfl rfl) rfl rfl hl.1 rfl (lv_room (Nat.le_of_ble_eq_true rfl)) dX4_untilAllMet_25 ⟨Nat.zero_le _, Nat.zero_le _⟩) hP hD hS hA [0, 1, 2, 3, 4, 5, 6, 7, 8, 9] [] [0, 1, 2, 3, 4, 5, 6, 7, 8, 9] rfl rfl (by decide) (by decide) rfl (by decide) (fun H locs hP hD hS => ?_)
          obtain ⟨S_3, eS_3⟩ : ∃ z9, (D_X4_round M1 (i - i / 9 * 9)).2 = z9 := ⟨_, rfl⟩
          rw [eS_3] at hP hD
          refine lv_istore_n (lv' := [(2, .int ((D_X4_round M1 (i - i / 9 * 9)).1)), (1, .int i), (0, .ref mo)]) hx hb dX4_untilAllMet_28 rfl hl (by decide) rfl (fun ls hl => ?_)
          refine lv_iinc (v := i + 1) (lv' := [(1, .int (i + 1)), (2, .int ((D_X4_round M1 (i - i / 9 * 9)).1)), (0, .ref mo)]) hx hb dX4_untilAllMet_29 hl (k := 1) rfl rfl (by decide) rfl (fun ls hl => ?_)
          refine lv_goto (tgt := 6) hx hb dX4_untilAllMet_32 (by decide) ?_
          subst eS_3
          exact ih_6 (k_6 + 1) (i + 1) ((D_X4_round M1 (i - i / 9 * 9)).2) _ _ _ (by omega) (by omega) (by rw [ex_6]; exact nI_1 k_6)  hP hD hS (lv_sub hl [0, 2] rfl) (by rw [L_X4_untilAllMet_6, if_neg c_1, if_neg c_3] at hR_6; exact hR_6)
  exact loop_6 502 0 0 S_1 _ _ _ (by omega) (Nat.zero_le _) nI_0.symm  hP hD hS (lv_sub hl [0, 1] rfl) rfl

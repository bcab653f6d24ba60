def T_X4_round_5 (i : Int32) (M1 : Nat → Nat → Int32) : Nat → Nat → Int32 := s2 M1 5 i.toNatClampNeg 0
def T_X4_round_6 (i : Int32) (M1 : Nat → Nat → Int32) : Nat → Nat → Int32 := s2 M1 5 i.toNatClampNeg 1
def L_X4_round_4 (M : Nat → Nat → Int32) (n : Int32) : Nat → (Int32) → (Int32) → (Nat → Nat → Int32) → (Int32) × (Nat → Nat → Int32)
  | 0, i, nn, M1 => (nn, M1)
  | n_4 + 1, i, nn, M1 => if 9 ≤ i then (nn, M1) else (if (D_X4_dances M1 i n) = 0 then (L_X4_round_4 M n n_4 (i + 1) (nn + ((T_X4_round_5 i M1) 5 i.toNatClampNeg)) (T_X4_round_5 i M1)) else (L_X4_round_4 M n n_4 (i + 1) (nn + ((T_X4_round_6 i M1) 5 i.toNatClampNeg)) (T_X4_round_6 i M1)))
def L_X4_round_47 (M : Nat → Nat → Int32) (n : Int32) (nn : Int32) (M1 : Nat → Nat → Int32) : Nat → (Int32) → (Nat → Nat → Int32) → (Nat → Nat → Int32)
  | 0, j, M2 => M2
  | n_47 + 1, j, M2 => if 9 ≤ j then M2 else (if (M2 5 j.toNatClampNeg) = 1 then (L_X4_round_47 M n nn M1 n_47 (j + 1) (D_X4_danced M2 j (D_X4_partnerBy j n))) else (if (D_X4_isThere M2 j) = 0 then (L_X4_round_47 M n nn M1 n_47 (j + 1) M2) else (if (D_X4_partnerBy j n) = j then (L_X4_round_47 M n nn M1 n_47 (j + 1) (D_X4_rested M2 j 0)) else (L_X4_round_47 M n nn M1 n_47 (j + 1) (D_X4_rested M2 j 1)))))
def T_X4_round_1 (nn : Int32) (M2 : Nat → Nat → Int32) : Nat → Nat → Int32 := s2 M2 0 (4 : Int32).toNatClampNeg ((M2 0 (4 : Int32).toNatClampNeg) + (nn / 2))
def T_X4_round_2 (n : Int32) (S_1 : Nat → Nat → Int32) : Nat → Nat → Int32 := s2 S_1 0 (6 + (n - n / 9 * 9)).toNatClampNeg ((S_1 0 (6 + (n - n / 9 * 9)).toNatClampNeg) + 1)
def T_X4_round_3 (n : Int32) (S_2 : Nat → Nat → Int32) : Nat → Nat → Int32 := s2 S_2 0 (5 : Int32).toNatClampNeg n
def T_X4_round_4 (S_3 : Nat → Nat → Int32) : Nat → Nat → Int32 := s2 S_3 0 (3 : Int32).toNatClampNeg ((S_3 0 (3 : Int32).toNatClampNeg) + 1)
def D_X4_round (M : Nat → Nat → Int32) (n : Int32) : (Int32) × (Nat → Nat → Int32) := (((L_X4_round_4 M n 10 0 0 M).1) / 2, (T_X4_round_4 (T_X4_round_3 n (T_X4_round_2 n (T_X4_round_1 ((L_X4_round_4 M n 10 0 0 M).1) (L_X4_round_47 M n ((L_X4_round_4 M n 10 0 0 M).1) ((L_X4_round_4 M n 10 0 0 M).2) 10 0 ((L_X4_round_4 M n 10 0 0 M).2)))))))
set_option maxRecDepth 100000 in
theorem in_X4_round_RX4 : ∀ w ∈ u_ws RX4 TX4 13, w ∈ wsX4_round := by decide +kernel
set_option maxHeartbeats 4000000 in
set_option maxRecDepth 100000 in
theorem c_X4_round (l : Launch) (D : va_G) (Y : YY) (sz : Nat) (q : Nat → Nat) (M : Nat → Nat → Int32) (mo : Nat) (n : Int32) (h_n : vp_in n 1000) : Met l yX4_round wsX4_round ({ frames := 3, cells := 0, slots := 0, locals := 65 } : Room) (va_Pc [.ref mo, .int n] (Pst D Y sz (wM Y mo q M))) ((fun A : Nat → Prop => Qsi D (fun r9 w9 => r9 = (D_X4_round M n).1 ∧ w9 = wM Y mo q ((D_X4_round M n).2)) A) (va_A (wM Y mo q M) sz)) 0 0 (va_A (wM Y mo q M) sz) := by
  refine ct_in (cc := cX4_round) (maxL := 5) (ret := (some .int)) (Qc := fun A : Nat → Prop => Qsi D (fun r9 w9 => r9 = (D_X4_round M n).1 ∧ w9 = wM Y mo q ((D_X4_round M n).2)) A) (by decide +kernel) rfl (Nat.le_of_ble_eq_true rfl) ?_
  intro p e s m below meth c A ls hx hb hr hts hown hml hlk hin hsz hA hP hD hK hS hl
  have hown : s.vm.findClass RX4 = some m.cls := hown
  have hl : lv_has ls 5 [(0, .ref mo), (1, .int n)] := hl
  show W p l e ({ frames := 3, cells := 0, slots := 0, locals := 65 } : Room) s m ([.ref mo, .int n] : List Value).toArray below meth c s.heap [] 0 0 (MQ below (Qsi D (fun r9 w9 => r9 = (D_X4_round M n).1 ∧ w9 = wM Y mo q ((D_X4_round M n).2)) A) ([.ref mo, .int n] : List Value).toArray s 0 0 A) (F0 m 0 ls [])
  refine lv_iconst (v := 0) hx hb dX4_round_0 (by decide) ?_
  refine lv_istore_n (lv' := [(2, .int 0), (0, .ref mo), (1, .int n)]) hx hb dX4_round_1 rfl hl (by decide) rfl (fun ls hl => ?_)
  refine lv_iconst (v := 0) hx hb dX4_round_2 (by decide) ?_
  refine lv_istore_n (lv' := [(3, .int 0), (2, .int 0), (0, .ref mo), (1, .int n)]) hx hb dX4_round_3 rfl hl (by decide) rfl (fun ls hl => ?_)
  have loop_4 : ∀ (n_4 k_4 : Nat) (i : Int32) (nn : Int32) (M1 : Nat → Nat → Int32) (H : Heap) (locs : List Loc) (ls : Array Slot), 10 ≤ k_4 + n_4 → k_4 ≤ 9 → i = nI k_4 → va_P D vwCl (wM Y mo q M1) H → va_D A (wM Y mo q M1) → va_S A s.heap H locs → lv_has ls 5 [(3, .int i), (2, .int nn), (0, .ref mo), (1, .int n)] → L_X4_round_4 M n n_4 i nn M1 = L_X4_round_4 M n 10 0 0 M → W p l e ({ frames := 3, cells := 0, slots := 0, locals := 65 } : Room) s m ([.ref mo, .int n] : List Value).toArray below meth c H locs 0 0 (MQ below (Qsi D (fun r9 w9 => r9 = (D_X4_round M n).1 ∧ w9 = wM Y mo q ((D_X4_round M n).2)) A) ([.ref mo, .int n] : List Value).toArray s 0 0 A) (F0 m 4 ls []) := by
    intro n_4
    induction n_4 with
    | zero => intro k_4 i nn M1 H locs ls hkf hkN_4 ex_4 hP hD hS hl hR_4; exact absurd hkf (by omega)
    | succ n_4 ih_4 =>
      intro k_4 i nn M1 H locs ls hkf hkN_4 ex_4 hP hD hS hl hR_4
      refine lv_iload_n hx hb dX4_round_4 rfl (lv_at hl 0 rfl) ?_
      refine lv_bipush (v := 9) hx hb dX4_round_5 (by decide) ?_
      refine lv_icmp_ge (tgt := 45) hx hb dX4_round_7 (by decide) (fun c_1 => ?_) (fun c_1 => ?_)
      · have e8 : L_X4_round_4 M n (n_4 + 1) i nn M1 = (nn, M1) := by rw [L_X4_round_4, if_pos c_1]
        have e8 := hR_4.symm.trans e8
        have enn : (L_X4_round_4 M n 10 0 0 M).1 = nn := by rw [e8]
        have eM1 : (L_X4_round_4 M n 10 0 0 M).2 = M1 := by rw [e8]
        clear e8 hR_4 ih_4
        refine lv_iconst (v := 0) hx hb dX4_round_45 (by decide) ?_
        refine lv_istore_n (lv' := [(3, .int 0), (2, .int nn), (0, .ref mo), (1, .int n)]) hx hb dX4_round_46 rfl hl (by decide) rfl (fun ls hl => ?_)
        have loop_47 : ∀ (n_47 k_47 : Nat) (j : Int32) (M2 : Nat → Nat → Int32) (H : Heap) (locs : List Loc) (ls : Array Slot), 10 ≤ k_47 + n_47 → k_47 ≤ 9 → j = nI k_47 → va_P D vwCl (wM Y mo q M2) H → va_D A (wM Y mo q M2) → va_S A s.heap H locs → lv_has ls 5 [(3, .int j), (2, .int nn), (0, .ref mo), (1, .int n)] → L_X4_round_47 M n nn M1 n_47 j M2 = L_X4_round_47 M n nn M1 10 0 M1 → W p l e ({ frames := 3, cells := 0, slots := 0, locals := 65 } : Room) s m ([.ref mo, .int n] : List Value).toArray below meth c H locs 0 0 (MQ below (Qsi D (fun r9 w9 => r9 = (D_X4_round M n).1 ∧ w9 = wM Y mo q ((D_X4_round M n).2)) A) ([.ref mo, .int n] : List Value).toArray s 0 0 A) (F0 m 47 ls []) := by
          intro n_47
          induction n_47 with
          | zero => intro k_47 j M2 H locs ls hkf hkN_47 ex_47 hP hD hS hl hR_47; exact absurd hkf (by omega)
          | succ n_47 ih_47 =>
            intro k_47 j M2 H locs ls hkf hkN_47 ex_47 hP hD hS hl hR_47
            refine lv_iload_n hx hb dX4_round_47 rfl (lv_at hl 0 rfl) ?_
            refine lv_bipush (v := 9) hx hb dX4_round_48 (by decide) ?_
            refine lv_icmp_ge (tgt := 110) hx hb dX4_round_50 (by decide) (fun c_2 => ?_) (fun c_2 => ?_)
            · have e8 : L_X4_round_47 M n nn M1 (n_47 + 1) j M2 = M2 := by rw [L_X4_round_47, if_pos c_2]
              have e8 := hR_47.symm.trans e8
              have eM2 : L_X4_round_47 M n nn M1 10 0 M1 = M2 := by rw [e8]
              clear e8 hR_47 ih_47
              refine lv_aload_n hx hb dX4_round_110 rfl (lv_at hl 2 rfl) ?_
              refine va_get (D := D) (ci := 4) (v := .ref (q 0)) (C := RX4) (T := TX4) (N := 13) hx hb hts in_X4_round_RX4 hown hK.1 hP 0 rfl rfl 0 (by decide) (hts (.fieldLink RX4 7 "NineDancersModel" "all" "[I") (by decide +kernel)) (fun _ h9 => h9) rfl dX4_round_111 ?_
              refine lv_iconst (v := 4) hx hb dX4_round_114 (by decide) ?_
              refine lv_dup2_11 hx hb dX4_round_115 rfl rfl ?_
              refine va_iald (D := D) hx hb hK.1 hP 1 0 rfl rfl (by unfold vp_in; decide) dX4_round_116 ?_
              refine lv_iload_n hx hb dX4_round_117 rfl (lv_at hl 1 rfl) ?_
              refine lv_iconst (v := 2) hx hb dX4_round_118 (by decide) ?_
              refine lv_idiv hx hb dX4_round_119 (by decide) ?_
              refine lv_iadd hx hb dX4_round_120 ?_
              refine va_iast (D := D) hx hb hK.1 hP hD hS 1 0 rfl rfl (by unfold vp_in; decide) dX4_round_121 (fun H locs hP hD hS => ?_)
              have hP : va_P D vwCl (wM Y mo q (T_X4_round_1 nn M2)) H := hP
              have hD : va_D A (wM Y mo q (T_X4_round_1 nn M2)) := hD
              obtain ⟨S_1, eS_1⟩ : ∃ z9, T_X4_round_1 nn M2 = z9 := ⟨_, rfl⟩
              rw [eS_1] at hP hD
              refine lv_aload_n hx hb dX4_round_122 rfl (lv_at hl 2 rfl) ?_
              refine va_get (D := D) (ci := 4) (v := .ref (q 0)) (C := RX4) (T := TX4) (N := 13) hx hb hts in_X4_round_RX4 hown hK.1 hP 0 rfl rfl 0 (by decide) (hts (.fieldLink RX4 7 "NineDancersModel" "all" "[I") (by decide +kernel)) (fun _ h9 => h9) rfl dX4_round_123 ?_
              refine lv_bipush (v := 6) hx hb dX4_round_126 (by decide) ?_
              refine lv_iload_n hx hb dX4_round_128 rfl (lv_at hl 3 rfl) ?_
              refine lv_bipush (v := 9) hx hb dX4_round_129 (by decide) ?_
              refine lv_irem hx hb dX4_round_131 (by decide) ?_
              refine lv_iadd hx hb dX4_round_132 ?_
              refine lv_dup2_11 hx hb dX4_round_133 rfl rfl ?_
              refine va_iald (D := D) hx hb hK.1 hP 1 0 rfl rfl (my_wid (my_off 6 (my_rem h_n (by decide)) (Nat.le_refl _) (by decide)) (by decide) (by decide)) dX4_round_134 ?_
              refine lv_iconst (v := 1) hx hb dX4_round_135 (by decide) ?_
              refine lv_iadd hx hb dX4_round_136 ?_
              refine va_iast (D := D) hx hb hK.1 hP hD hS 1 0 rfl rfl (my_wid (my_off 6 (my_rem h_n (by decide)) (Nat.le_refl _) (by decide)) (by decide) (by decide)) dX4_round_137 (fun H locs hP hD hS => ?_)
              have hP : va_P D vwCl (wM Y mo q (T_X4_round_2 n S_1)) H := hP
              have hD : va_D A (wM Y mo q (T_X4_round_2 n S_1)) := hD
              obtain ⟨S_2, eS_2⟩ : ∃ z9, T_X4_round_2 n S_1 = z9 := ⟨_, rfl⟩
              rw [eS_2] at hP hD
              refine lv_aload_n hx hb dX4_round_138 rfl (lv_at hl 2 rfl) ?_
              refine va_get (D := D) (ci := 4) (v := .ref (q 0)) (C := RX4) (T := TX4) (N := 13) hx hb hts in_X4_round_RX4 hown hK.1 hP 0 rfl rfl 0 (by decide) (hts (.fieldLink RX4 7 "NineDancersModel" "all" "[I") (by decide +kernel)) (fun _ h9 => h9) rfl dX4_round_139 ?_
              refine lv_iconst (v := 5) hx hb dX4_round_142 (by decide) ?_
              refine lv_iload_n hx hb dX4_round_143 rfl (lv_at hl 3 rfl) ?_
              refine va_iast (D := D) hx hb hK.1 hP hD hS 1 0 rfl rfl (by unfold vp_in; decide) dX4_round_144 (fun H locs hP hD hS => ?_)
              have hP : va_P D vwCl (wM Y mo q (T_X4_round_3 n S_2)) H := hP
              have hD : va_D A (wM Y mo q (T_X4_round_3 n S_2)) := hD
              obtain ⟨S_3, eS_3⟩ : ∃ z9, T_X4_round_3 n S_2 = z9 := ⟨_, rfl⟩
              rw [eS_3] at hP hD
              refine lv_aload_n hx hb dX4_round_145 rfl (lv_at hl 2 rfl) ?_
              refine va_get (D := D) (ci := 4) (v := .ref (q 0)) (C := RX4) (T := TX4) (N := 13) hx hb hts in_X4_round_RX4 hown hK.1 hP 0 rfl rfl 0 (by decide) (hts (.fieldLink RX4 7 "NineDancersModel" "all" "[I") (by decide +kernel)) (fun _ h9 => h9) rfl dX4_round_146 ?_
              refine lv_iconst (v := 3) hx hb dX4_round_149 (by decide) ?_
              refine lv_dup2_11 hx hb dX4_round_150 rfl rfl ?_
              refine va_iald (D := D) hx hb hK.1 hP 1 0 rfl rfl (by unfold vp_in; decide) dX4_round_151 ?_
              refine lv_iconst (v := 1) hx hb dX4_round_152 (by decide) ?_
              refine lv_iadd hx hb dX4_round_153 ?_
              refine va_iast (D := D) hx hb hK.1 hP hD hS 1 0 rfl rfl (by unfold vp_in; decide) dX4_round_154 (fun H locs hP hD hS => ?_)
              have hP : va_P D vwCl (wM Y mo q (T_X4_round_4 S_3)) H := hP
              have hD : va_D A (wM Y mo q (T_X4_round_4 S_3)) := hD
              obtain ⟨S_4, eS_4⟩ : ∃ z9, T_X4_round_4 S_3 = z9 := ⟨_, rfl⟩
              rw [eS_4] at hP hD
              refine lv_iload_n hx hb dX4_round_155 rfl (lv_at hl 1 rfl) ?_
              refine lv_iconst (v := 2) hx hb dX4_round_156 (by decide) ?_
              refine lv_idiv hx hb dX4_round_157 (by decide) ?_
              subst eS_4
              subst eS_3
              subst eS_2
              subst eS_1
              subst eM2
              subst eM1
              subst enn
              have e9 : D_X4_round M n = (((L_X4_round_4 M n 10 0 0 M).1) / 2, (T_X4_round_4 (T_X4_round_3 n (T_X4_round_2 n (T_X4_round_1 ((L_X4_round_4 M n 10 0 0 M).1) (L_X4_round_47 M n ((L_X4_round_4 M n 10 0 0 M).1) ((L_X4_round_4 M n 10 0 0 M).2) 10 0 ((L_X4_round_4 M n 10 0 0 M).2))))))) := by rw [D_X4_round]
              exact ret_i hx hb hr hlk hP hD hS dX4_round_158 ⟨Nat.zero_le _, Nat.zero_le _⟩ ⟨by rw [e9], by rw [e9]⟩
            · have hk_47 := my_lt ex_47 (show (9 : Int32) = nI 9 from rfl) (by decide) hkN_47 c_2
              refine lv_iload_n hx hb dX4_round_53 rfl (lv_at hl 0 rfl) ?_
              refine lv_iload_n hx hb dX4_round_54 rfl (lv_at hl 3 rfl) ?_
              refine ck_iD (wr := wM Y mo q M2) (ws' := wM Y mo q M2) (va_runS (As := [.int j, .int n]) (rest := []) ⟨hx, hb, hml, hown, hts⟩ (c_X4_partnerBy l D Y H.size j n) (va_cwS 2 hts gX4_round_X4_partnerBy rfl rfl rfl (by decide +kernel) ⟨Nat.le_of_ble_eq_true rfl, Nat.le_of_ble_eq_true rfl⟩) (pst_S hK hP hD [] rfl (by decide)) rfl rfl hl.1 rfl (lv_room (Nat.le_of_ble_eq_true rfl)) dX4_round_55 ⟨Nat.zero_le _, Nat.zero_le _⟩) hP hD hS hA [] [0, 1, 2, 3, 4, 5, 6, 7, 8, 9] [0, 1, 2, 3, 4, 5, 6, 7, 8, 9] rfl rfl (by decide) (by decide) rfl (by decide) (fun H locs hP hD hS => ?_)
              refine lv_istore (lv' := [(4, .int (D_X4_partnerBy j n)), (3, .int j), (2, .int nn), (0, .ref mo), (1, .int n)]) hx hb dX4_round_58 hl (by decide) rfl (fun ls hl => ?_)
              refine lv_aload_n hx hb dX4_round_60 rfl (lv_at hl 3 rfl) ?_
              refine va_get (D := D) (ci := 4) (v := .ref (q 5)) (C := RX4) (T := TX4) (N := 13) hx hb hts in_X4_round_RX4 hown hK.1 hP 0 rfl rfl 6 (by decide) (hts (.fieldLink RX4 25 "NineDancersModel" "dancing" "[I") (by decide +kernel)) (fun _ h9 => h9) rfl dX4_round_61 ?_
              refine lv_iload_n hx hb dX4_round_64 rfl (lv_at hl 1 rfl) ?_
              refine va_iald (D := D) hx hb hK.1 hP 6 0 rfl rfl (by rw [ex_47]; exact vp_in_nI hk_47 (by decide)) dX4_round_65 ?_
              refine lv_iconst (v := 1) hx hb dX4_round_66 (by decide) ?_
              refine lv_icmp_ne (tgt := 80) hx hb dX4_round_67 (by decide) (fun c_3 => ?_) (fun c_3 => ?_)
              · refine lv_aload_n hx hb dX4_round_80 rfl (lv_at hl 3 rfl) ?_
                refine lv_iload_n hx hb dX4_round_81 rfl (lv_at hl 1 rfl) ?_
                refine ck_iD (wr := ([] : va_W)) (ws' := wM Y mo q M2) (va_runV (As := [.int j]) (rest := []) ⟨hx, hb, hml, hown, hts⟩ (c_X4_isThere l D Y H.size q M2 mo j (by rw [ex_47]; exact vp_in_nI hk_47 (by decide))) (cwV 1 hts gX4_round_X4_isThere rfl rfl rfl (by decide +kernel) ⟨Nat.le_of_ble_eq_true rfl, Nat.le_of_ble_eq_true rfl⟩) (pst_V hK hP hD [0, 1, 2, 3, 4, 5, 6, 7, 8, 9] rfl (by decide) (q0 := 0) rfl rfl) rfl rfl hl.1 rfl (lv_room (Nat.le_of_ble_eq_true rfl)) dX4_round_82 ⟨Nat.zero_le _, Nat.zero_le _⟩) hP hD hS hA [0, 1, 2, 3, 4, 5, 6, 7, 8, 9] [] [0, 1, 2, 3, 4, 5, 6, 7, 8, 9] rfl rfl (by decide) (by decide) rfl (by decide) (fun H locs hP hD hS => ?_)
                refine lv_if_eq (tgt := 104) hx hb dX4_round_85 (by decide) (fun c_4 => ?_) (fun c_4 => ?_)
                · refine lv_iinc (v := j + 1) (lv' := [(3, .int (j + 1)), (4, .int (D_X4_partnerBy j n)), (2, .int nn), (0, .ref mo), (1, .int n)]) hx hb dX4_round_104 hl (k := 1) rfl rfl (by decide) rfl (fun ls hl => ?_)
                  refine lv_goto (tgt := 47) hx hb dX4_round_107 (by decide) ?_
                  exact ih_47 (k_47 + 1) (j + 1) M2 _ _ _ (by omega) (by omega) (by rw [ex_47]; exact nI_1 k_47)  hP hD hS (lv_sub hl [0, 2, 3, 4] rfl) (by rw [L_X4_round_47, if_neg c_2, if_neg c_3, if_pos c_4] at hR_47; exact hR_47)
                · refine lv_aload_n hx hb dX4_round_88 rfl (lv_at hl 3 rfl) ?_
                  refine lv_iload_n hx hb dX4_round_89 rfl (lv_at hl 1 rfl) ?_
                  refine lv_iload hx hb dX4_round_90 (lv_at hl 0 rfl) ?_
                  refine lv_iload_n hx hb dX4_round_92 rfl (lv_at hl 1 rfl) ?_
                  refine lv_icmp_eq (tgt := 100) hx hb dX4_round_93 (by decide) (fun c_5 => ?_) (fun c_5 => ?_)
                  · refine lv_iconst (v := 0) hx hb dX4_round_100 (by decide) ?_
                    refine ck_vD (wr := ([] : va_W)) (ws' := wM Y mo q (D_X4_rested M2 j 0)) (va_runV (As := [.int j, .int 0]) (rest := []) ⟨hx, hb, hml, hown, hts⟩ (c_X4_rested l D Y H.size q M2 mo j 0 (by rw [ex_47]; exact vp_in_nI hk_47 (by decide))) (cwV 2 hts gX4_round_X4_rested rfl rfl rfl (by decide +kernel) ⟨Nat.le_of_ble_eq_true rfl, Nat.le_of_ble_eq_true rfl⟩) (pst_V hK hP hD [0, 1, 2, 3, 4, 5, 6, 7, 8, 9] rfl (by decide) (q0 := 0) rfl rfl) rfl rfl hl.1 rfl (lv_room (Nat.le_of_ble_eq_true rfl)) dX4_round_101 ⟨Nat.zero_le _, Nat.zero_le _⟩) hP hD hS hA [0, 1, 2, 3, 4, 5, 6, 7, 8, 9] [] [0, 1, 2, 3, 4, 5, 6, 7, 8, 9] rfl rfl (by decide) (by decide) rfl (by decide) (fun H locs hP hD hS => ?_)
                    obtain ⟨S_5, eS_5⟩ : ∃ z9, (D_X4_rested M2 j 0) = z9 := ⟨_, rfl⟩
                    rw [eS_5] at hP hD
                    refine lv_iinc (v := j + 1) (lv' := [(3, .int (j + 1)), (4, .int (D_X4_partnerBy j n)), (2, .int nn), (0, .ref mo), (1, .int n)]) hx hb dX4_round_104 hl (k := 1) rfl rfl (by decide) rfl (fun ls hl => ?_)
                    refine lv_goto (tgt := 47) hx hb dX4_round_107 (by decide) ?_
                    subst eS_5
                    exact ih_47 (k_47 + 1) (j + 1) (D_X4_rested M2 j 0) _ _ _ (by omega) (by omega) (by rw [ex_47]; exact nI_1 k_47)  hP hD hS (lv_sub hl [0, 2, 3, 4] rfl) (by rw [L_X4_round_47, if_neg c_2, if_neg c_3, if_neg c_4, if_pos c_5] at hR_47; exact hR_47)
                  · refine lv_iconst (v := 1) hx hb dX4_round_96 (by decide) ?_
                    refine lv_goto (tgt := 101) hx hb dX4_round_97 (by decide) ?_
                    refine ck_vD (wr := ([] : va_W)) (ws' := wM Y mo q (D_X4_rested M2 j 1)) (va_runV (As := [.int j, .int 1]) (rest := []) ⟨hx, hb, hml, hown, hts⟩ (c_X4_rested l D Y H.size q M2 mo j 1 (by rw [ex_47]; exact vp_in_nI hk_47 (by decide))) (cwV 2 hts gX4_round_X4_rested rfl rfl rfl (by decide +kernel) ⟨Nat.le_of_ble_eq_true rfl, Nat.le_of_ble_eq_true rfl⟩) (pst_V hK hP hD [0, 1, 2, 3, 4, 5, 6, 7, 8, 9] rfl (by decide) (q0 := 0) rfl rfl) rfl rfl hl.1 rfl (lv_room (Nat.le_of_ble_eq_true rfl)) dX4_round_101 ⟨Nat.zero_le _, Nat.zero_le _⟩) hP hD hS hA [0, 1, 2, 3, 4, 5, 6, 7, 8, 9] [] [0, 1, 2, 3, 4, 5, 6, 7, 8, 9] rfl rfl (by decide) (by decide) rfl (by decide) (fun H locs hP hD hS => ?_)
                    obtain ⟨S_6, eS_6⟩ : ∃ z9, (D_X4_rested M2 j 1) = z9 := ⟨_, rfl⟩
                    rw [eS_6] at hP hD
                    refine lv_iinc (v := j + 1) (lv' := [(3, .int (j + 1)), (4, .int (D_X4_partnerBy j n)), (2, .int nn), (0, .ref mo), (1, .int n)]) hx hb dX4_round_104 hl (k := 1) rfl rfl (by decide) rfl (fun ls hl => ?_)
                    refine lv_goto (tgt := 47) hx hb dX4_round_107 (by decide) ?_
                    subst eS_6
                    exact ih_47 (k_47 + 1) (j + 1) (D_X4_rested M2 j 1) _ _ _ (by omega) (by omega) (by rw [ex_47]; exact nI_1 k_47)  hP hD hS (lv_sub hl [0, 2, 3, 4] rfl) (by rw [L_X4_round_47, if_neg c_2, if_neg c_3, if_neg c_4, if_neg c_5] at hR_47; exact hR_47)
              · refine lv_aload_n hx hb dX4_round_70 rfl (lv_at hl 3 rfl) ?_
                refine lv_iload_n hx hb dX4_round_71 rfl (lv_at hl 1 rfl) ?_
                refine lv_iload hx hb dX4_round_72 (lv_at hl 0 rfl) ?_
                refine ck_vD (wr := ([] : va_W)) (ws' := wM Y mo q (D_X4_danced M2 j (D_X4_partnerBy j n))) (va_runV (As := [.int j, .int (D_X4_partnerBy j n)]) (rest := []) ⟨hx, hb, hml, hown, hts⟩ (c_X4_danced l D Y H.size q M2 mo j (D_X4_partnerBy j n) (by rw [ex_47]; exact vp_in_nI hk_47 (by decide)) (in_partnerBy (by rw [ex_47]; exact vp_in_nI hk_47 (by decide)) h_n)) (cwV 2 hts gX4_round_X4_danced rfl rfl rfl (by decide +kernel) ⟨Nat.le_of_ble_eq_true rfl, Nat.le_of_ble_eq_true rfl⟩) (pst_V hK hP hD [0, 1, 2, 3, 4, 5, 6, 7, 8, 9] rfl (by decide) (q0 := 0) rfl rfl) rfl rfl hl.1 rfl (lv_room (Nat.le_of_ble_eq_true rfl)) dX4_round_74 ⟨Nat.zero_le _, Nat.zero_le _⟩) hP hD hS hA [0, 1, 2, 3, 4, 5, 6, 7, 8, 9] [] [0, 1, 2, 3, 4, 5, 6, 7, 8, 9] rfl rfl (by decide) (by decide) rfl (by decide) (fun H locs hP hD hS => ?_)
                obtain ⟨S_7, eS_7⟩ : ∃ z9, (D_X4_danced M2 j (D_X4_partnerBy j n)) = z9 := ⟨_, rfl⟩
                rw [eS_7] at hP hD
                refine lv_goto (tgt := 104) hx hb dX4_round_77 (by decide) ?_
                refine lv_iinc (v := j + 1) (lv' := [(3, .int (j + 1)), (4, .int (D_X4_partnerBy j n)), (2, .int nn), (0, .ref mo), (1, .int n)]) hx hb dX4_round_104 hl (k := 1) rfl rfl (by decide) rfl (fun ls hl => ?_)
                refine lv_goto (tgt := 47) hx hb dX4_round_107 (by decide) ?_
                subst eS_7
                exact ih_47 (k_47 + 1) (j + 1) (D_X4_danced M2 j (D_X4_partnerBy j n)) _ _ _ (by omega) (by omega) (by rw [ex_47]; exact nI_1 k_47)  hP hD hS (lv_sub hl [0, 2, 3, 4] rfl) (by rw [L_X4_round_47, if_neg c_2, if_pos c_3] at hR_47; exact hR_47)
        exact loop_47 10 0 0 M1 _ _ _ (by omega) (Nat.zero_le _) nI_0.symm  hP hD hS (lv_sub hl [0, 1, 2, 3] rfl) rfl
      · have hk_4 := my_lt ex_4 (show (9 : Int32) = nI 9 from rfl) (by decide) hkN_4 c_1
        refine lv_aload_n hx hb dX4_round_10 rfl (lv_at hl 2 rfl) ?_
        refine va_get (D := D) (ci := 4) (v := .ref (q 5)) (C := RX4) (T := TX4) (N := 13) hx hb hts in_X4_round_RX4 hown hK.1 hP 0 rfl rfl 6 (by decide) (hts (.fieldLink RX4 25 "NineDancersModel" "dancing" "[I") (by decide +kernel)) (fun _ h9 => h9) rfl dX4_round_11 ?_
        refine lv_iload_n hx hb dX4_round_14 rfl (lv_at hl 0 rfl) ?_
        refine lv_aload_n hx hb dX4_round_15 rfl (lv_at hl 2 rfl) ?_
        refine lv_iload_n hx hb dX4_round_16 rfl (lv_at hl 0 rfl) ?_
        refine lv_iload_n hx hb dX4_round_17 rfl (lv_at hl 3 rfl) ?_
        refine ck_iD (wr := ([] : va_W)) (ws' := wM Y mo q M1) (va_runV (As := [.int i, .int n]) (rest := [.int i, .ref (q 5)]) ⟨hx, hb, hml, hown, hts⟩ (c_X4_dances l D Y H.size q M1 mo i n (by rw [ex_4]; exact vp_in_nI hk_4 (by decide)) h_n) (cwV 2 hts gX4_round_X4_dances rfl rfl rfl (by decide +kernel) ⟨Nat.le_of_ble_eq_true rfl, Nat.le_of_ble_eq_true rfl⟩) (pst_V hK hP hD [0, 1, 2, 3, 4, 5, 6, 7, 8, 9] rfl (by decide) (q0 := 0) rfl rfl) rfl rfl hl.1 rfl (lv_room (Nat.le_of_ble_eq_true rfl)) dX4_round_18 ⟨Nat.zero_le _, Nat.zero_le _⟩) hP hD hS hA [0, 1, 2, 3, 4, 5, 6, 7, 8, 9] [] [0, 1, 2, 3, 4, 5, 6, 7, 8, 9] rfl rfl (by decide) (by decide) rfl (by decide) (fun H locs hP hD hS => ?_)
        refine lv_if_eq (tgt := 28) hx hb dX4_round_21 (by decide) (fun c_6 => ?_) (fun c_6 => ?_)
        · refine lv_iconst (v := 0) hx hb dX4_round_28 (by decide) ?_
          refine va_iast (D := D) hx hb hK.1 hP hD hS 6 0 rfl rfl (by rw [ex_4]; exact vp_in_nI hk_4 (by decide)) dX4_round_29 (fun H locs hP hD hS => ?_)
          have hP : va_P D vwCl (wM Y mo q (T_X4_round_5 i M1)) H := hP
          have hD : va_D A (wM Y mo q (T_X4_round_5 i M1)) := hD
          obtain ⟨S_8, eS_8⟩ : ∃ z9, T_X4_round_5 i M1 = z9 := ⟨_, rfl⟩
          rw [eS_8] at hP hD
          refine lv_iload_n hx hb dX4_round_30 rfl (lv_at hl 1 rfl) ?_
          refine lv_aload_n hx hb dX4_round_31 rfl (lv_at hl 2 rfl) ?_
          refine va_get (D := D) (ci := 4) (v := .ref (q 5)) (C := RX4) (T := TX4) (N := 13) hx hb hts in_X4_round_RX4 hown hK.1 hP 0 rfl rfl 6 (by decide) (hts (.fieldLink RX4 25 "NineDancersModel" "dancing" "[I") (by decide +kernel)) (fun _ h9 => h9) rfl dX4_round_32 ?_
          refine lv_iload_n hx hb dX4_round_35 rfl (lv_at hl 0 rfl) ?_
          refine va_iald (D := D) hx hb hK.1 hP 6 0 rfl rfl (by rw [ex_4]; exact vp_in_nI hk_4 (by decide)) dX4_round_36 ?_
          refine lv_iadd hx hb dX4_round_37 ?_
          refine lv_istore_n (lv' := [(2, .int (nn + (S_8 5 i.toNatClampNeg))), (3, .int i), (0, .ref mo), (1, .int n)]) hx hb dX4_round_38 rfl hl (by decide) rfl (fun ls hl => ?_)
          refine lv_iinc (v := i + 1) (lv' := [(3, .int (i + 1)), (2, .int (nn + (S_8 5 i.toNatClampNeg))), (0, .ref mo), (1, .int n)]) hx hb dX4_round_39 hl (k := 1) rfl rfl (by decide) rfl (fun ls hl => ?_)
          refine lv_goto (tgt := 4) hx hb dX4_round_42 (by decide) ?_
          subst eS_8
          exact ih_4 (k_4 + 1) (i + 1) (nn + ((T_X4_round_5 i M1) 5 i.toNatClampNeg)) (T_X4_round_5 i M1) _ _ _ (by omega) (by omega) (by rw [ex_4]; exact nI_1 k_4)  hP hD hS (lv_sub hl [0, 1, 2, 3] rfl) (by rw [L_X4_round_4, if_neg c_1, if_pos c_6] at hR_4; exact hR_4)
        · refine lv_iconst (v := 1) hx hb dX4_round_24 (by decide) ?_
          refine lv_goto (tgt := 29) hx hb dX4_round_25 (by decide) ?_
          refine va_iast (D := D) hx hb hK.1 hP hD hS 6 0 rfl rfl (by rw [ex_4]; exact vp_in_nI hk_4 (by decide)) dX4_round_29 (fun H locs hP hD hS => ?_)
          have hP : va_P D vwCl (wM Y mo q (T_X4_round_6 i M1)) H := hP
          have hD : va_D A (wM Y mo q (T_X4_round_6 i M1)) := hD
          obtain ⟨S_9, eS_9⟩ : ∃ z9, T_X4_round_6 i M1 = z9 := ⟨_, rfl⟩
          rw [eS_9] at hP hD
          refine lv_iload_n hx hb dX4_round_30 rfl (lv_at hl 1 rfl) ?_
          refine lv_aload_n hx hb dX4_round_31 rfl (lv_at hl 2 rfl) ?_
          refine va_get (D := D) (ci := 4) (v := .ref (q 5)) (C := RX4) (T := TX4) (N := 13) hx hb hts in_X4_round_RX4 hown hK.1 hP 0 rfl rfl 6 (by decide) (hts (.fieldLink RX4 25 "NineDancersModel" "dancing" "[I") (by decide +kernel)) (fun _ h9 => h9) rfl dX4_round_32 ?_
          refine lv_iload_n hx hb dX4_round_35 rfl (lv_at hl 0 rfl) ?_
          refine va_iald (D := D) hx hb hK.1 hP 6 0 rfl rfl (by rw [ex_4]; exact vp_in_nI hk_4 (by decide)) dX4_round_36 ?_
          refine lv_iadd hx hb dX4_round_37 ?_
          refine lv_istore_n (lv' := [(2, .int (nn + (S_9 5 i.toNatClampNeg))), (3, .int i), (0, .ref mo), (1, .int n)]) hx hb dX4_round_38 rfl hl (by decide) rfl (fun ls hl => ?_)
          refine lv_iinc (v := i + 1) (lv' := [(3, .int (i + 1)), (2, .int (nn + (S_9 5 i.toNatClampNeg))), (0, .ref mo), (1, .int n)]) hx hb dX4_round_39 hl (k := 1) rfl rfl (by decide) rfl (fun ls hl => ?_)
          refine lv_goto (tgt := 4) hx hb dX4_round_42 (by decide) ?_
          subst eS_9
          exact ih_4 (k_4 + 1) (i + 1) (nn + ((T_X4_round_6 i M1) 5 i.toNatClampNeg)) (T_X4_round_6 i M1) _ _ _ (by omega) (by omega) (by rw [ex_4]; exact nI_1 k_4)  hP hD hS (lv_sub hl [0, 1, 2, 3] rfl) (by rw [L_X4_round_4, if_neg c_1, if_neg c_6] at hR_4; exact hR_4)
  exact loop_4 10 0 0 0 M _ _ _ (by omega) (Nat.zero_le _) nI_0.symm  hP hD hS (lv_sub hl [0, 1, 2, 3] rfl) rfl
def L_X4_sum_4 (M : Nat → Nat → Int32) (w : Int32) : Nat → (Int32) → (Int32) → (Int32)
  | 0, i, u => u
  | n_4 + 1, i, u => if 9 ≤ i then u else (L_X4_sum_4 M w n_4 (i + 1) (u + (M 0 (w + i).toNatClampNeg)))
def D_X4_sum (M : Nat → Nat → Int32) (w : Int32) : (Int32) := (L_X4_sum_4 M w 10 0 0)
set_option maxRecDepth 100000 in
theorem in_X4_sum_RX4 : ∀ w ∈ u_ws RX4 TX4 13, w ∈ wsX4_sum := by decide +kernel
set_option maxHeartbeats 4000000 in
set_option maxRecDepth 100000 in
theorem c_X4_sum (l : Launch) (D : va_G) (Y : YY) (sz : Nat) (q : Nat → Nat) (M : Nat → Nat → Int32) (mo : Nat) (w : Int32) (h_w : vp_in w 303) : Met l yX4_sum wsX4_sum ({ frames := 0, cells := 0, slots := 0, locals := 0 } : Room) (va_Pc [.ref mo, .int w] (Pst D Y sz (wM Y mo q M))) ((fun A : Nat → Prop => Qsi D (fun r9 w9 => r9 = D_X4_sum M w ∧ w9 = wM Y mo q M) A) (va_A (wM Y mo q M) sz)) 0 0 (va_A (wM Y mo q M) sz) := by
  refine ct_in (cc := cX4_sum) (maxL := 4) (ret := (some .int)) (Qc := fun A : Nat → Prop => Qsi D (fun r9 w9 => r9 = D_X4_sum M w ∧ w9 = wM Y mo q M) A) (by decide +kernel) rfl (Nat.le_of_ble_eq_true rfl) ?_
  intro p e s m below meth c A ls hx hb hr hts hown hml hlk hin hsz hA hP hD hK hS hl
  have hown : s.vm.findClass RX4 = some m.cls := hown
  have hl : lv_has ls 4 [(0, .ref mo), (1, .int w)] := hl
  show W p l e ({ frames := 0, cells := 0, slots := 0, locals := 0 } : Room) s m ([.ref mo, .int w] : List Value).toArray below meth c s.heap [] 0 0 (MQ below (Qsi D (fun r9 w9 => r9 = D_X4_sum M w ∧ w9 = wM Y mo q M) A) ([.ref mo, .int w] : List Value).toArray s 0 0 A) (F0 m 0 ls [])
  refine lv_iconst (v := 0) hx hb dX4_sum_0 (by decide) ?_
  refine lv_istore_n (lv' := [(2, .int 0), (0, .ref mo), (1, .int w)]) hx hb dX4_sum_1 rfl hl (by decide) rfl (fun ls hl => ?_)
  refine lv_iconst (v := 0) hx hb dX4_sum_2 (by decide) ?_
  refine lv_istore_n (lv' := [(3, .int 0), (2, .int 0), (0, .ref mo), (1, .int w)]) hx hb dX4_sum_3 rfl hl (by decide) rfl (fun ls hl => ?_)
  have loop_4 : ∀ (n_4 k_4 : Nat) (i : Int32) (u : Int32) (H : Heap) (locs : List Loc) (ls : Array Slot), 10 ≤ k_4 + n_4 → k_4 ≤ 9 → i = nI k_4 → va_P D vwCl (wM Y mo q M) H → va_D A (wM Y mo q M) → va_S A s.heap H locs → lv_has ls 4 [(3, .int i), (2, .int u), (0, .ref mo), (1, .int w)] → L_X4_sum_4 M w n_4 i u = L_X4_sum_4 M w 10 0 0 → W p l e ({ frames := 0, cells := 0, slots := 0, locals := 0 } : Room) s m ([.ref mo, .int w] : List Value).toArray below meth c H locs 0 0 (MQ below (Qsi D (fun r9 w9 => r9 = D_X4_sum M w ∧ w9 = wM Y mo q M) A) ([.ref mo, .int w] : List Value).toArray s 0 0 A) (F0 m 4 ls []) := by
    intro n_4
    induction n_4 with
    | zero => intro k_4 i u H locs ls hkf hkN_4 ex_4 hP hD hS hl hR_4; exact absurd hkf (by omega)
    | succ n_4 ih_4 =>
      intro k_4 i u H locs ls hkf hkN_4 ex_4 hP hD hS hl hR_4
      refine lv_iload_n hx hb dX4_sum_4 rfl (lv_at hl 0 rfl) ?_
      refine lv_bipush (v := 9) hx hb dX4_sum_5 (by decide) ?_
      refine lv_icmp_ge (tgt := 27) hx hb dX4_sum_7 (by decide) (fun c_1 => ?_) (fun c_1 => ?_)
      · have e8 : L_X4_sum_4 M w (n_4 + 1) i u = u := by rw [L_X4_sum_4, if_pos c_1]
        have e8 := hR_4.symm.trans e8
        have eu : L_X4_sum_4 M w 10 0 0 = u := by rw [e8]
        clear e8 hR_4 ih_4
        refine lv_iload_n hx hb dX4_sum_27 rfl (lv_at hl 1 rfl) ?_
        subst eu
        have e9 : D_X4_sum M w = (L_X4_sum_4 M w 10 0 0) := by rw [D_X4_sum]
        exact ret_i hx hb hr hlk hP hD hS dX4_sum_28 ⟨Nat.zero_le _, Nat.zero_le _⟩ ⟨e9.symm, rfl⟩
      · have hk_4 := my_lt ex_4 (show (9 : Int32) = nI 9 from rfl) (by decide) hkN_4 c_1
        refine lv_iload_n hx hb dX4_sum_10 rfl (lv_at hl 1 rfl) ?_
        refine lv_aload_n hx hb dX4_sum_11 rfl (lv_at hl 2 rfl) ?_
        refine va_get (D := D) (ci := 4) (v := .ref (q 0)) (C := RX4) (T := TX4) (N := 13) hx hb hts in_X4_sum_RX4 hown hK.1 hP 0 rfl rfl 0 (by decide) (hts (.fieldLink RX4 7 "NineDancersModel" "all" "[I") (by decide +kernel)) (fun _ h9 => h9) rfl dX4_sum_12 ?_
        refine lv_iload_n hx hb dX4_sum_15 rfl (lv_at hl 3 rfl) ?_
        refine lv_iload_n hx hb dX4_sum_16 rfl (lv_at hl 0 rfl) ?_
        refine lv_iadd hx hb dX4_sum_17 ?_
        refine va_iald (D := D) hx hb hK.1 hP 1 0 rfl rfl (my_wid (my_add h_w (by rw [ex_4]; exact vp_in_nI hk_4 (by decide)) (by decide) (by decide) : vp_in (w + i) 311) (by decide) (by decide)) dX4_sum_18 ?_
        refine lv_iadd hx hb dX4_sum_19 ?_
        refine lv_istore_n (lv' := [(2, .int (u + (M 0 (w + i).toNatClampNeg))), (3, .int i), (0, .ref mo), (1, .int w)]) hx hb dX4_sum_20 rfl hl (by decide) rfl (fun ls hl => ?_)
        refine lv_iinc (v := i + 1) (lv' := [(3, .int (i + 1)), (2, .int (u + (M 0 (w + i).toNatClampNeg))), (0, .ref mo), (1, .int w)]) hx hb dX4_sum_21 hl (k := 1) rfl rfl (by decide) rfl (fun ls hl => ?_)
        refine lv_goto (tgt := 4) hx hb dX4_sum_24 (by decide) ?_
        exact ih_4 (k_4 + 1) (i + 1) (u + (M 0 (w + i).toNatClampNeg)) _ _ _ (by omega) (by omega) (by rw [ex_4]; exact nI_1 k_4)  hP hD hS (lv_sub hl [0, 1, 2, 3] rfl) (by rw [L_X4_sum_4, if_neg c_1] at hR_4; exact hR_4)
  exact loop_4 10 0 0 0 _ _ _ (by omega) (Nat.zero_le _) nI_0.symm  hP hD hS (lv_sub hl [0, 1, 2, 3] rfl) rfl
def D_X4_isNew (M : Nat → Nat → Int32) (a : Int32) (b : Int32) : (Int32) := if (D_X4_isThere M a) = 0 then 0 else (if (D_X4_isThere M b) = 0 then 0 else (if (M 0 (150 + (D_X4_pairAt a b)).toNatClampNeg) = 0 then 1 else 0))
set_option maxRecDepth 100000 in
theorem in_X4_isNew_RX4 : ∀ w ∈ u_ws RX4 TX4 13, w ∈ wsX4_isNew := by decide +kernel
set_option maxHeartbeats 4000000 in
set_option maxRecDepth 100000 in
theorem c_X4_isNew (l : Launch) (D : va_G) (Y : YY) (sz : Nat) (q : Nat → Nat) (M : Nat → Nat → Int32) (mo : Nat) (a : Int32) (b : Int32) (h_a : vp_in a 9) (h_b : vp_in b 9) : Met l yX4_isNew wsX4_isNew ({ frames := 1, cells := 0, slots := 0, locals := 21 } : Room) (va_Pc [.ref mo, .int a, .int b] (Pst D Y sz (wM Y mo q M))) ((fun A : Nat → Prop => Qsi D (fun r9 w9 => r9 = D_X4_isNew M a b ∧ w9 = wM Y mo q M) A) (va_A (wM Y mo q M) sz)) 0 0 (va_A (wM Y mo q M) sz) := by
  refine ct_in (cc := cX4_isNew) (maxL := 3) (ret := (some .boolean)) (Qc := fun A : Nat → Prop => Qsi D (fun r9 w9 => r9 = D_X4_isNew M a b ∧ w9 = wM Y mo q M) A) (by decide +kernel) rfl (Nat.le_of_ble_eq_true rfl) ?_
  intro p e s m below meth c A ls hx hb hr hts hown hml hlk hin hsz hA hP hD hK hS hl
  have hown : s.vm.findClass RX4 = some m.cls := hown
  have hl : lv_has ls 3 [(0, .ref mo), (1, .int a), (2, .int b)] := hl
  show W p l e ({ frames := 1, cells := 0, slots := 0, locals := 21 } : Room) s m ([.ref mo, .int a, .int b] : List Value).toArray below meth c s.heap [] 0 0 (MQ below (Qsi D (fun r9 w9 => r9 = D_X4_isNew M a b ∧ w9 = wM Y mo q M) A) ([.ref mo, .int a, .int b] : List Value).toArray s 0 0 A) (F0 m 0 ls [])
  refine lv_aload_n hx hb dX4_isNew_0 rfl (lv_at hl 0 rfl) ?_
  refine lv_iload_n hx hb dX4_isNew_1 rfl (lv_at hl 1 rfl) ?_
  refine ck_iD (wr := ([] : va_W)) (ws' := wM Y mo q M) (va_runV (As := [.int a]) (rest := []) ⟨hx, hb, hml, hown, hts⟩ (c_X4_isThere l D Y s.heap.size q M mo a h_a) (cwV 1 hts gX4_isNew_X4_isThere rfl rfl rfl (by decide +kernel) ⟨Nat.le_of_ble_eq_true rfl, Nat.le_of_ble_eq_true rfl⟩) (pst_V hK hP hD [0, 1, 2, 3, 4, 5, 6, 7, 8, 9] rfl (by decide) (q0 := 0) rfl rfl) rfl rfl hl.1 rfl (lv_room (Nat.le_of_ble_eq_true rfl)) dX4_isNew_2 ⟨Nat.zero_le _, Nat.zero_le _⟩) hP hD hS hA [0, 1, 2, 3, 4, 5, 6, 7, 8, 9] [] [0, 1, 2, 3, 4, 5, 6, 7, 8, 9] rfl rfl (by decide) (by decide) rfl (by decide) (fun H locs hP hD hS => ?_)
  refine lv_if_eq (tgt := 37) hx hb dX4_isNew_5 (by decide) (fun c_1 => ?_) (fun c_1 => ?_)
  · refine lv_iconst (v := 0) hx hb dX4_isNew_37 (by decide) ?_
    have e9 : D_X4_isNew M a b = 0 := by rw [D_X4_isNew, if_pos c_1]
    exact ret_z hx hb hr rfl hlk hP hD hS dX4_isNew_38 ⟨Nat.zero_le _, Nat.zero_le _⟩ ⟨e9.symm, rfl⟩
  · refine lv_aload_n hx hb dX4_isNew_8 rfl (lv_at hl 0 rfl) ?_
    refine lv_iload_n hx hb dX4_isNew_9 rfl (lv_at hl 2 rfl) ?_
    refine ck_iD (wr := ([] : va_W)) (ws' := wM Y mo q M) (va_runV (As := [.int b]) (rest := []) ⟨hx, hb, hml, hown, hts⟩ (c_X4_isThere l D Y H.size q M mo b h_b) (cwV 1 hts gX4_isNew_X4_isThere rfl rfl rfl (by decide +kernel) ⟨Nat.le_of_ble_eq_true rfl, Nat.le_of_ble_eq_true rfl⟩) (pst_V hK hP hD [0, 1, 2, 3, 4, 5, 6, 7, 8, 9] rfl (by decide) (q0 := 0) rfl rfl) rfl rfl hl.1 rfl (lv_room (Nat.le_of_ble_eq_true rfl)) dX4_isNew_10 ⟨Nat.zero_le _, Nat.zero_le _⟩) hP hD hS hA [0, 1, 2, 3, 4, 5, 6, 7, 8, 9] [] [0, 1, 2, 3, 4, 5, 6, 7, 8, 9] rfl rfl (by decide) (by decide) rfl (by decide) (fun H locs hP hD hS => ?_)
    refine lv_if_eq (tgt := 37) hx hb dX4_isNew_13 (by decide) (fun c_2 => ?_) (fun c_2 => ?_)
    · refine lv_iconst (v := 0) hx hb dX4_isNew_37 (by decide) ?_
      have e9 : D_X4_isNew M a b = 0 := by rw [D_X4_isNew, if_neg c_1, if_pos c_2]
      exact ret_z hx hb hr rfl hlk hP hD hS dX4_isNew_38 ⟨Nat.zero_le _, Nat.zero_le _⟩ ⟨e9.symm, rfl⟩
    · refine lv_aload_n hx hb dX4_isNew_16 rfl (lv_at hl 0 rfl) ?_
      refine va_get (D := D) (ci := 4) (v := .ref (q 0)) (C := RX4) (T := TX4) (N := 13) hx hb hts in_X4_isNew_RX4 hown hK.1 hP 0 rfl rfl 0 (by decide) (hts (.fieldLink RX4 7 "NineDancersModel" "all" "[I") (by decide +kernel)) (fun _ h9 => h9) rfl dX4_isNew_17 ?_
      refine lv_sipush (v := 150) hx hb dX4_isNew_20 (by decide) ?_
      refine lv_iload_n hx hb dX4_isNew_23 rfl (lv_at hl 1 rfl) ?_
      refine lv_iload_n hx hb dX4_isNew_24 rfl (lv_at hl 2 rfl) ?_
      refine ck_iD (wr := wM Y mo q M) (ws' := wM Y mo q M) (va_runS (As := [.int a, .int b]) (rest := [.int 150, .ref (q 0)]) ⟨hx, hb, hml, hown, hts⟩ (c_X4_pairAt l D Y H.size a b) (va_cwS 2 hts gX4_isNew_X4_pairAt rfl rfl rfl (by decide +kernel) ⟨Nat.le_of_ble_eq_true rfl, Nat.le_of_ble_eq_true rfl⟩) (pst_S hK hP hD [] rfl (by decide)) rfl rfl hl.1 rfl (lv_room (Nat.le_of_ble_eq_true rfl)) dX4_isNew_25 ⟨Nat.zero_le _, Nat.zero_le _⟩) hP hD hS hA [] [0, 1, 2, 3, 4, 5, 6, 7, 8, 9] [0, 1, 2, 3, 4, 5, 6, 7, 8, 9] rfl rfl (by decide) (by decide) rfl (by decide) (fun H locs hP hD hS => ?_)
      refine lv_iadd hx hb dX4_isNew_28 ?_
      refine va_iald (D := D) hx hb hK.1 hP 1 0 rfl rfl (my_wid (my_off 150 (in_pairAt h_a h_b) (Nat.le_refl _) (by decide)) (by decide) (by decide)) dX4_isNew_29 ?_
      refine lv_if_ne (tgt := 37) hx hb dX4_isNew_30 (by decide) (fun c_3 => ?_) (fun c_3 => ?_)
      · refine lv_iconst (v := 0) hx hb dX4_isNew_37 (by decide) ?_
        have e9 : D_X4_isNew M a b = 0 := by rw [D_X4_isNew, if_neg c_1, if_neg c_2, if_neg c_3]
        exact ret_z hx hb hr rfl hlk hP hD hS dX4_isNew_38 ⟨Nat.zero_le _, Nat.zero_le _⟩ ⟨e9.symm, rfl⟩
      · refine lv_iconst (v := 1) hx hb dX4_isNew_33 (by decide) ?_
        refine lv_goto (tgt := 38) hx hb dX4_isNew_34 (by decide) ?_
        have e9 : D_X4_isNew M a b = 1 := by rw [D_X4_isNew, if_neg c_1, if_neg c_2, if_pos c_3]
        exact ret_z hx hb hr rfl hlk hP hD hS dX4_isNew_38 ⟨Nat.zero_le _, Nat.zero_le _⟩ ⟨e9.symm, rfl⟩
theorem z_X4_isNew (M : Nat → Nat → Int32) (a : Int32) (b : Int32) : D_X4_isNew M a b = 0 ∨ D_X4_isNew M a b = 1 := by unfold D_X4_isNew; (repeat' split) <;> simp
def L_X4_newPairs_14 (M : Nat → Nat → Int32) (i : Int32) (u : Int32) : Nat → (Int32) → (Int32) → (Int32)
  | 0, j, u1 => u1
  | n_14 + 1, j, u1 => if 9 ≤ j then u1 else (if (D_X4_isNew M i j) = 0 then (L_X4_newPairs_14 M i u n_14 (j + 1) (u1 + 0)) else (L_X4_newPairs_14 M i u n_14 (j + 1) (u1 + 1)))
def L_X4_newPairs_4 (M : Nat → Nat → Int32) : Nat → (Int32) → (Int32) → (Int32)
  | 0, i, u => u
  | n_4 + 1, i, u => if 9 ≤ i then u else (L_X4_newPairs_4 M n_4 (i + 1) (L_X4_newPairs_14 M i u 10 (i + 1) u))
def D_X4_newPairs (M : Nat → Nat → Int32)  : (Int32) := (L_X4_newPairs_4 M 10 0 0)
set_option maxHeartbeats 4000000 in
set_option maxRecDepth 100000 in
theorem c_X4_newPairs (l : Launch) (D : va_G) (Y : YY) (sz : Nat) (q : Nat → Nat) (M : Nat → Nat → Int32) (mo : Nat) : Met l yX4_newPairs wsX4_newPairs ({ frames := 2, cells := 0, slots := 0, locals := 43 } : Room) (va_Pc [.ref mo] (Pst D Y sz (wM Y mo q M))) ((fun A : Nat → Prop => Qsi D (fun r9 w9 => r9 = D_X4_newPairs M ∧ w9 = wM Y mo q M) A) (va_A (wM Y mo q M) sz)) 0 0 (va_A (wM Y mo q M) sz) := by
  refine ct_in (cc := cX4_newPairs) (maxL := 4) (ret := (some .int)) (Qc := fun A : Nat → Prop => Qsi D (fun r9 w9 => r9 = D_X4_newPairs M ∧ w9 = wM Y mo q M) A) (by decide +kernel) rfl (Nat.le_of_ble_eq_true rfl) ?_
  intro p e s m below meth c A ls hx hb hr hts hown hml hlk hin hsz hA hP hD hK hS hl
  have hown : s.vm.findClass RX4 = some m.cls := hown
  have hl : lv_has ls 4 [(0, .ref mo)] := hl
  show W p l e ({ frames := 2, cells := 0, slots := 0, locals := 43 } : Room) s m ([.ref mo] : List Value).toArray below meth c s.heap [] 0 0 (MQ below (Qsi D (fun r9 w9 => r9 = D_X4_newPairs M ∧ w9 = wM Y mo q M) A) ([.ref mo] : List Value).toArray s 0 0 A) (F0 m 0 ls [])
  refine lv_iconst (v := 0) hx hb dX4_newPairs_0 (by decide) ?_
  refine lv_istore_n (lv' := [(1, .int 0), (0, .ref mo)]) hx hb dX4_newPairs_1 rfl hl (by decide) rfl (fun ls hl => ?_)
  refine lv_iconst (v := 0) hx hb dX4_newPairs_2 (by decide) ?_
  refine lv_istore_n (lv' := [(2, .int 0), (1, .int 0), (0, .ref mo)]) hx hb dX4_newPairs_3 rfl hl (by decide) rfl (fun ls hl => ?_)
  have loop_4 : ∀ (n_4 k_4 : Nat) (i : Int32) (u : Int32) (H : Heap) (locs : List Loc) (ls : Array Slot), 10 ≤ k_4 + n_4 → k_4 ≤ 9 → i = nI k_4 → va_P D vwCl (wM Y mo q M) H → va_D A (wM Y mo q M) → va_S A s.heap H locs → lv_has ls 4 [(2, .int i), (1, .int u), (0, .ref mo)] → L_X4_newPairs_4 M n_4 i u = L_X4_newPairs_4 M 10 0 0 → W p l e ({ frames := 2, cells := 0, slots := 0, locals := 43 } : Room) s m ([.ref mo] : List Value).toArray below meth c H locs 0 0 (MQ below (Qsi D (fun r9 w9 => r9 = D_X4_newPairs M ∧ w9 = wM Y mo q M) A) ([.ref mo] : List Value).toArray s 0 0 A) (F0 m 4 ls []) := by
    intro n_4
    induction n_4 with
    | zero => intro k_4 i u H locs ls hkf hkN_4 ex_4 hP hD hS hl hR_4; exact absurd hkf (by omega)
    | succ n_4 ih_4 =>
      intro k_4 i u H locs ls hkf hkN_4 ex_4 hP hD hS hl hR_4
      refine lv_iload_n hx hb dX4_newPairs_4 rfl (lv_at hl 0 rfl) ?_
      refine lv_bipush (v := 9) hx hb dX4_newPairs_5 (by decide) ?_
      refine lv_icmp_ge (tgt := 49) hx hb dX4_newPairs_7 (by decide) (fun c_1 => ?_) (fun c_1 => ?_)
      · have e8 : L_X4_newPairs_4 M (n_4 + 1) i u = u := by rw [L_X4_newPairs_4, if_pos c_1]
        have e8 := hR_4.symm.trans e8
        have eu : L_X4_newPairs_4 M 10 0 0 = u := by rw [e8]
        clear e8 hR_4 ih_4
        refine lv_iload_n hx hb dX4_newPairs_49 rfl (lv_at hl 1 rfl) ?_
        subst eu
        have e9 : D_X4_newPairs M = (L_X4_newPairs_4 M 10 0 0) := by rw [D_X4_newPairs]
        exact ret_i hx hb hr hlk hP hD hS dX4_newPairs_50 ⟨Nat.zero_le _, Nat.zero_le _⟩ ⟨e9.symm, rfl⟩
      · have hk_4 := my_lt ex_4 (show (9 : Int32) = nI 9 from rfl) (by decide) hkN_4 c_1
        refine lv_iload_n hx hb dX4_newPairs_10 rfl (lv_at hl 0 rfl) ?_
        refine lv_iconst (v := 1) hx hb dX4_newPairs_11 (by decide) ?_
        refine lv_iadd hx hb dX4_newPairs_12 ?_
        refine lv_istore_n (lv' := [(3, .int (i + 1)), (2, .int i), (1, .int u), (0, .ref mo)]) hx hb dX4_newPairs_13 rfl hl (by decide) rfl (fun ls hl => ?_)
        have loop_14 : ∀ (n_14 k_14 : Nat) (j : Int32) (u1 : Int32) (H : Heap) (locs : List Loc) (ls : Array Slot), 10 ≤ k_14 + n_14 → k_14 ≤ 9 → j = nI k_14 → va_P D vwCl (wM Y mo q M) H → va_D A (wM Y mo q M) → va_S A s.heap H locs → lv_has ls 4 [(3, .int j), (2, .int i), (1, .int u1), (0, .ref mo)] → L_X4_newPairs_14 M i u n_14 j u1 = L_X4_newPairs_14 M i u 10 (i + 1) u → W p l e ({ frames := 2, cells := 0, slots := 0, locals := 43 } : Room) s m ([.ref mo] : List Value).toArray below meth c H locs 0 0 (MQ below (Qsi D (fun r9 w9 => r9 = D_X4_newPairs M ∧ w9 = wM Y mo q M) A) ([.ref mo] : List Value).toArray s 0 0 A) (F0 m 14 ls []) := by
          intro n_14
          induction n_14 with
          | zero => intro k_14 j u1 H locs ls hkf hkN_14 ex_14 hP hD hS hl hR_14; exact absurd hkf (by omega)
          | succ n_14 ih_14 =>
            intro k_14 j u1 H locs ls hkf hkN_14 ex_14 hP hD hS hl hR_14
            refine lv_iload_n hx hb dX4_newPairs_14 rfl (lv_at hl 0 rfl) ?_
            refine lv_bipush (v := 9) hx hb dX4_newPairs_15 (by decide) ?_
            refine lv_icmp_ge (tgt := 43) hx hb dX4_newPairs_17 (by decide) (fun c_2 => ?_) (fun c_2 => ?_)
            · have e8 : L_X4_newPairs_14 M i u (n_14 + 1) j u1 = u1 := by rw [L_X4_newPairs_14, if_pos c_2]
              have e8 := hR_14.symm.trans e8
              have eu1 : L_X4_newPairs_14 M i u 10 (i + 1) u = u1 := by rw [e8]
              clear e8 hR_14 ih_14
              refine lv_iinc (v := i + 1) (lv' := [(2, .int (i + 1)), (3, .int j), (1, .int u1), (0, .ref mo)]) hx hb dX4_newPairs_43 hl (k := 1) rfl rfl (by decide) rfl (fun ls hl => ?_)
              refine lv_goto (tgt := 4) hx hb dX4_newPairs_46 (by decide) ?_
              subst eu1
              exact ih_4 (k_4 + 1) (i + 1) (L_X4_newPairs_14 M i u 10 (i + 1) u) _ _ _ (by omega) (by omega) (by rw [ex_4]; exact nI_1 k_4)  hP hD hS (lv_sub hl [0, 2, 3] rfl) (by rw [L_X4_newPairs_4, if_neg c_1] at hR_4; exact hR_4)
            · have hk_14 := my_lt ex_14 (show (9 : Int32) = nI 9 from rfl) (by decide) hkN_14 c_2
              refine lv_iload_n hx hb dX4_newPairs_20 rfl (lv_at hl 2 rfl) ?_
              refine lv_aload_n hx hb dX4_newPairs_21 rfl (lv_at hl 3 rfl) ?_
              refine lv_iload_n hx hb dX4_newPairs_22 rfl (lv_at hl 1 rfl) ?_
              refine lv_iload_n hx hb dX4_newPairs_23 rfl (lv_at hl 0 rfl) ?_
              refine ck_iD (wr := ([] : va_W)) (ws' := wM Y mo q M) (va_runV (As := [.int i, .int j]) (rest := [.int u1]) ⟨hx, hb, hml, hown, hts⟩ (c_X4_isNew l D Y H.size q M mo i j (by rw [ex_4]; exact vp_in_nI hk_4 (by decide)) (by rw [ex_14]; exact vp_in_nI hk_14 (by decide))) (cwV 2 hts gX4_newPairs_X4_isNew rfl rfl rfl (by decide +kernel) ⟨Nat.le_of_ble_eq_true rfl, Nat.le_of_ble_eq_true rfl⟩) (pst_V hK hP hD [0, 1, 2, 3, 4, 5, 6, 7, 8, 9] rfl (by decide) (q0 := 0) rfl rfl) rfl rfl hl.1 rfl (lv_room (Nat.le_of_ble_eq_true rfl)) dX4_newPairs_24 ⟨Nat.zero_le _, Nat.zero_le _⟩) hP hD hS hA [0, 1, 2, 3, 4, 5, 6, 7, 8, 9] [] [0, 1, 2, 3, 4, 5, 6, 7, 8, 9] rfl rfl (by decide) (by decide) rfl (by decide) (fun H locs hP hD hS => ?_)
              refine lv_if_eq (tgt := 34) hx hb dX4_newPairs_27 (by decide) (fun c_3 => ?_) (fun c_3 => ?_)
              · refine lv_iconst (v := 0) hx hb dX4_newPairs_34 (by decide) ?_
                refine lv_iadd hx hb dX4_newPairs_35 ?_
                refine lv_istore_n (lv' := [(1, .int (u1 + 0)), (3, .int j), (2, .int i), (0, .ref mo)]) hx hb dX4_newPairs_36 rfl hl (by decide) rfl (fun ls hl => ?_)
                refine lv_iinc (v := j + 1) (lv' := [(3, .int (j + 1)), (1, .int (u1 + 0)), (2, .int i), (0, .ref mo)]) hx hb dX4_newPairs_37 hl (k := 1) rfl rfl (by decide) rfl (fun ls hl => ?_)
                refine lv_goto (tgt := 14) hx hb dX4_newPairs_40 (by decide) ?_
                exact ih_14 (k_14 + 1) (j + 1) (u1 + 0) _ _ _ (by omega) (by omega) (by rw [ex_14]; exact nI_1 k_14)  hP hD hS (lv_sub hl [0, 2, 1, 3] rfl) (by rw [L_X4_newPairs_14, if_neg c_2, if_pos c_3] at hR_14; exact hR_14)
              · refine lv_iconst (v := 1) hx hb dX4_newPairs_30 (by decide) ?_
                refine lv_goto (tgt := 35) hx hb dX4_newPairs_31 (by decide) ?_
                refine lv_iadd hx hb dX4_newPairs_35 ?_
                refine lv_istore_n (lv' := [(1, .int (u1 + 1)), (3, .int j), (2, .int i), (0, .ref mo)]) hx hb dX4_newPairs_36 rfl hl (by decide) rfl (fun ls hl => ?_)
                refine lv_iinc (v := j + 1) (lv' := [(3, .int (j + 1)), (1, .int (u1 + 1)), (2, .int i), (0, .ref mo)]) hx hb dX4_newPairs_37 hl (k := 1) rfl rfl (by decide) rfl (fun ls hl => ?_)
                refine lv_goto (tgt := 14) hx hb dX4_newPairs_40 (by decide) ?_
                exact ih_14 (k_14 + 1) (j + 1) (u1 + 1) _ _ _ (by omega) (by omega) (by rw [ex_14]; exact nI_1 k_14)  hP hD hS (lv_sub hl [0, 2, 1, 3] rfl) (by rw [L_X4_newPairs_14, if_neg c_2, if_neg c_3] at hR_14; exact hR_14)
        exact loop_14 10 (k_4 + 1) (i + 1) u _ _ _ (by omega) (by omega) (by rw [ex_4]; exact nI_1 k_4)  hP hD hS (lv_sub hl [0, 1, 2, 3] rfl) rfl
  exact loop_4 10 0 0 0 _ _ _ (by omega) (Nat.zero_le _) nI_0.symm  hP hD hS (lv_sub hl [0, 1, 2] rfl) rfl
def L_X4_metBy_4 (M : Nat → Nat → Int32) (v : Int32) : Nat → (Int32) → (Int32) → (Int32)
  | 0, i, u => u
  | n_4 + 1, i, u => if 9 ≤ i then u else (if (M 0 (150 + (D_X4_pairAt v i)).toNatClampNeg) ≤ 0 then (L_X4_metBy_4 M v n_4 (i + 1) (u ||| 0)) else (L_X4_metBy_4 M v n_4 (i + 1) (u ||| (1 <<< (i &&& 31)))))
def D_X4_metBy (M : Nat → Nat → Int32) (v : Int32) : (Int32) := (L_X4_metBy_4 M v 10 0 0)
set_option maxRecDepth 100000 in
theorem in_X4_metBy_RX4 : ∀ w ∈ u_ws RX4 TX4 13, w ∈ wsX4_metBy := by decide +kernel
set_option maxHeartbeats 4000000 in
set_option maxRecDepth 100000 in
theorem c_X4_metBy (l : Launch) (D : va_G) (Y : YY) (sz : Nat) (q : Nat → Nat) (M : Nat → Nat → Int32) (mo : Nat) (v : Int32) (h_v : vp_in v 9) : Met l yX4_metBy wsX4_metBy ({ frames := 1, cells := 0, slots := 0, locals := 21 } : Room) (va_Pc [.ref mo, .int v] (Pst D Y sz (wM Y mo q M))) ((fun A : Nat → Prop => Qsi D (fun r9 w9 => r9 = D_X4_metBy M v ∧ w9 = wM Y mo q M) A) (va_A (wM Y mo q M) sz)) 0 0 (va_A (wM Y mo q M) sz) := by
  refine ct_in (cc := cX4_metBy) (maxL := 4) (ret := (some .int)) (Qc := fun A : Nat → Prop => Qsi D (fun r9 w9 => r9 = D_X4_metBy M v ∧ w9 = wM Y mo q M) A) (by decide +kernel) rfl (Nat.le_of_ble_eq_true rfl) ?_
  intro p e s m below meth c A ls hx hb hr hts hown hml hlk hin hsz hA hP hD hK hS hl
  have hown : s.vm.findClass RX4 = some m.cls := hown
  have hl : lv_has ls 4 [(0, .ref mo), (1, .int v)] := hl
  show W p l e ({ frames := 1, cells := 0, slots := 0, locals := 21 } : Room) s m ([.ref mo, .int v] : List Value).toArray below meth c s.heap [] 0 0 (MQ below (Qsi D (fun r9 w9 => r9 = D_X4_metBy M v ∧ w9 = wM Y mo q M) A) ([.ref mo, .int v] : List Value).toArray s 0 0 A) (F0 m 0 ls [])
  refine lv_iconst (v := 0) hx hb dX4_metBy_0 (by decide) ?_
  refine lv_istore_n (lv' := [(2, .int 0), (0, .ref mo), (1, .int v)]) hx hb dX4_metBy_1 rfl hl (by decide) rfl (fun ls hl => ?_)
  refine lv_iconst (v := 0) hx hb dX4_metBy_2 (by decide) ?_
  refine lv_istore_n (lv' := [(3, .int 0), (2, .int 0), (0, .ref mo), (1, .int v)]) hx hb dX4_metBy_3 rfl hl (by decide) rfl (fun ls hl => ?_)
  have loop_4 : ∀ (n_4 k_4 : Nat) (i : Int32) (u : Int32) (H : Heap) (locs : List Loc) (ls : Array Slot), 10 ≤ k_4 + n_4 → k_4 ≤ 9 → i = nI k_4 → va_P D vwCl (wM Y mo q M) H → va_D A (wM Y mo q M) → va_S A s.heap H locs → lv_has ls 4 [(3, .int i), (2, .int u), (0, .ref mo), (1, .int v)] → L_X4_metBy_4 M v n_4 i u = L_X4_metBy_4 M v 10 0 0 → W p l e ({ frames := 1, cells := 0, slots := 0, locals := 21 } : Room) s m ([.ref mo, .int v] : List Value).toArray below meth c H locs 0 0 (MQ below (Qsi D (fun r9 w9 => r9 = D_X4_metBy M v ∧ w9 = wM Y mo q M) A) ([.ref mo, .int v] : List Value).toArray s 0 0 A) (F0 m 4 ls []) := by
    intro n_4
    induction n_4 with
    | zero => intro k_4 i u H locs ls hkf hkN_4 ex_4 hP hD hS hl hR_4; exact absurd hkf (by omega)
    | succ n_4 ih_4 =>
      intro k_4 i u H locs ls hkf hkN_4 ex_4 hP hD hS hl hR_4
      refine lv_iload_n hx hb dX4_metBy_4 rfl (lv_at hl 0 rfl) ?_
      refine lv_bipush (v := 9) hx hb dX4_metBy_5 (by decide) ?_
      refine lv_icmp_ge (tgt := 43) hx hb dX4_metBy_7 (by decide) (fun c_1 => ?_) (fun c_1 => ?_)
      · have e8 : L_X4_metBy_4 M v (n_4 + 1) i u = u := by rw [L_X4_metBy_4, if_pos c_1]
        have e8 := hR_4.symm.trans e8
        have eu : L_X4_metBy_4 M v 10 0 0 = u := by rw [e8]
        clear e8 hR_4 ih_4
        refine lv_iload_n hx hb dX4_metBy_43 rfl (lv_at hl 1 rfl) ?_
        subst eu
        have e9 : D_X4_metBy M v = (L_X4_metBy_4 M v 10 0 0) := by rw [D_X4_metBy]
        exact ret_i hx hb hr hlk hP hD hS dX4_metBy_44 ⟨Nat.zero_le _, Nat.zero_le _⟩ ⟨e9.symm, rfl⟩
      · have hk_4 := my_lt ex_4 (show (9 : Int32) = nI 9 from rfl) (by decide) hkN_4 c_1
        refine lv_iload_n hx hb dX4_metBy_10 rfl (lv_at hl 1 rfl) ?_
        refine lv_aload_n hx hb dX4_metBy_11 rfl (lv_at hl 2 rfl) ?_
        refine va_get (D := D) (ci := 4) (v := .ref (q 0)) (C := RX4) (T := TX4) (N := 13) hx hb hts in_X4_metBy_RX4 hown hK.1 hP 0 rfl rfl 0 (by decide) (hts (.fieldLink RX4 7 "NineDancersModel" "all" "[I") (by decide +kernel)) (fun _ h9 => h9) rfl dX4_metBy_12 ?_
        refine lv_sipush (v := 150) hx hb dX4_metBy_15 (by decide) ?_
        refine lv_iload_n hx hb dX4_metBy_18 rfl (lv_at hl 3 rfl) ?_
        refine lv_iload_n hx hb dX4_metBy_19 rfl (lv_at hl 0 rfl) ?_
        refine ck_iD (wr := wM Y mo q M) (ws' := wM Y mo q M) (va_runS (As := [.int v, .int i]) (rest := [.int 150, .ref (q 0), .int u]) ⟨hx, hb, hml, hown, hts⟩ (c_X4_pairAt l D Y H.size v i) (va_cwS 2 hts gX4_metBy_X4_pairAt rfl rfl rfl (by decide +kernel) ⟨Nat.le_of_ble_eq_true rfl, Nat.le_of_ble_eq_true rfl⟩) (pst_S hK hP hD [] rfl (by decide)) rfl rfl hl.1 rfl (lv_room (Nat.le_of_ble_eq_true rfl)) dX4_metBy_20 ⟨Nat.zero_le _, Nat.zero_le _⟩) hP hD hS hA [] [0, 1, 2, 3, 4, 5, 6, 7, 8, 9] [0, 1, 2, 3, 4, 5, 6, 7, 8, 9] rfl rfl (by decide) (by decide) rfl (by decide) (fun H locs hP hD hS => ?_)
        refine lv_iadd hx hb dX4_metBy_23 ?_
        refine va_iald (D := D) hx hb hK.1 hP 1 0 rfl rfl (my_wid (my_off 150 (in_pairAt h_v (by rw [ex_4]; exact vp_in_nI hk_4 (by decide))) (Nat.le_refl _) (by decide)) (by decide) (by decide)) dX4_metBy_24 ?_
        refine lv_if_le (tgt := 34) hx hb dX4_metBy_25 (by decide) (fun c_2 => ?_) (fun c_2 => ?_)
        · refine lv_iconst (v := 0) hx hb dX4_metBy_34 (by decide) ?_
          refine lv_ior hx hb dX4_metBy_35 ?_
          refine lv_istore_n (lv' := [(2, .int (u ||| 0)), (3, .int i), (0, .ref mo), (1, .int v)]) hx hb dX4_metBy_36 rfl hl (by decide) rfl (fun ls hl => ?_)
          refine lv_iinc (v := i + 1) (lv' := [(3, .int (i + 1)), (2, .int (u ||| 0)), (0, .ref mo), (1, .int v)]) hx hb dX4_metBy_37 hl (k := 1) rfl rfl (by decide) rfl (fun ls hl => ?_)
          refine lv_goto (tgt := 4) hx hb dX4_metBy_40 (by decide) ?_
          exact ih_4 (k_4 + 1) (i + 1) (u ||| 0) _ _ _ (by omega) (by omega) (by rw [ex_4]; exact nI_1 k_4)  hP hD hS (lv_sub hl [0, 1, 2, 3] rfl) (by rw [L_X4_metBy_4, if_neg c_1, if_pos c_2] at hR_4; exact hR_4)
        · refine lv_iconst (v := 1) hx hb dX4_metBy_28 (by decide) ?_
          refine lv_iload_n hx hb dX4_metBy_29 rfl (lv_at hl 0 rfl) ?_
          refine lv_ishl hx hb dX4_metBy_30 ?_
          refine lv_goto (tgt := 35) hx hb dX4_metBy_31 (by decide) ?_
          refine lv_ior hx hb dX4_metBy_35 ?_
          refine lv_istore_n (lv' := [(2, .int (u ||| (1 <<< (i &&& 31)))), (3, .int i), (0, .ref mo), (1, .int v)]) hx hb dX4_metBy_36 rfl hl (by decide) rfl (fun ls hl => ?_)
          refine lv_iinc (v := i + 1) (lv' := [(3, .int (i + 1)), (2, .int (u ||| (1 <<< (i &&& 31)))), (0, .ref mo), (1, .int v)]) hx hb dX4_metBy_37 hl (k := 1) rfl rfl (by decide) rfl (fun ls hl => ?_)
          refine lv_goto (tgt := 4) hx hb dX4_metBy_40 (by decide) ?_
          exact ih_4 (k_4 + 1) (i + 1) (u ||| (1 <<< (i &&& 31))) _ _ _ (by omega) (by omega) (by rw [ex_4]; exact nI_1 k_4)  hP hD hS (lv_sub hl [0, 1, 2, 3] rfl) (by rw [L_X4_metBy_4, if_neg c_1, if_neg c_2] at hR_4; exact hR_4)
  exact loop_4 10 0 0 0 _ _ _ (by omega) (Nat.zero_le _) nI_0.symm  hP hD hS (lv_sub hl [0, 1, 2, 3] rfl) rfl
def L_X4_mostOften_8 (M : Nat → Nat → Int32) (v : Int32) : Nat → (Int32) → (Int32) → (Int32) → (Int32) × (Int32)
  | 0, i, u, w => (u, w)
  | n_8 + 1, i, u, w => if 9 ≤ i then (u, w) else (if (M 0 (150 + (D_X4_pairAt v i)).toNatClampNeg) ≤ w then (if (M 0 (150 + (D_X4_pairAt v i)).toNatClampNeg) ≤ w then (L_X4_mostOften_8 M v n_8 (i + 1) u w) else (L_X4_mostOften_8 M v n_8 (i + 1) u (M 0 (150 + (D_X4_pairAt v i)).toNatClampNeg))) else (if (M 0 (150 + (D_X4_pairAt v i)).toNatClampNeg) ≤ w then (L_X4_mostOften_8 M v n_8 (i + 1) i w) else (L_X4_mostOften_8 M v n_8 (i + 1) i (M 0 (150 + (D_X4_pairAt v i)).toNatClampNeg))))
def D_X4_mostOften (M : Nat → Nat → Int32) (v : Int32) : (Int32) := ((L_X4_mostOften_8 M v 10 0 (-1000006) 0).1)
set_option maxRecDepth 100000 in
theorem in_X4_mostOften_RX4 : ∀ w ∈ u_ws RX4 TX4 13, w ∈ wsX4_mostOften := by decide +kernel
set_option maxHeartbeats 4000000 in
set_option maxRecDepth 100000 in
theorem c_X4_mostOften (l : Launch) (D : va_G) (Y : YY) (sz : Nat) (q : Nat → Nat) (M : Nat → Nat → Int32) (mo : Nat) (v : Int32) (h_v : vp_in v 9) : Met l yX4_mostOften wsX4_mostOften ({ frames := 1, cells := 0, slots := 0, locals := 21 } : Room) (va_Pc [.ref mo, .int v] (Pst D Y sz (wM Y mo q M))) ((fun A : Nat → Prop => Qsi D (fun r9 w9 => r9 = D_X4_mostOften M v ∧ w9 = wM Y mo q M) A) (va_A (wM Y mo q M) sz)) 0 0 (va_A (wM Y mo q M) sz) := by
  refine ct_in (cc := cX4_mostOften) (maxL := 6) (ret := (some .int)) (Qc := fun A : Nat → Prop => Qsi D (fun r9 w9 => r9 = D_X4_mostOften M v ∧ w9 = wM Y mo q M) A) (by decide +kernel) rfl (Nat.le_of_ble_eq_true rfl) ?_
  intro p e s m below meth c A ls hx hb hr hts hown hml hlk hin hsz hA hP hD hK hS hl
  have hown : s.vm.findClass RX4 = some m.cls := hown
  have hl : lv_has ls 6 [(0, .ref mo), (1, .int v)] := hl
  show W p l e ({ frames := 1, cells := 0, slots := 0, locals := 21 } : Room) s m ([.ref mo, .int v] : List Value).toArray below meth c s.heap [] 0 0 (MQ below (Qsi D (fun r9 w9 => r9 = D_X4_mostOften M v ∧ w9 = wM Y mo q M) A) ([.ref mo, .int v] : List Value).toArray s 0 0 A) (F0 m 0 ls [])
  refine lv_ldc (v := (-1000006)) hx hb hown (hts (.constant RX4 37 (-1000006)) (by decide +kernel)) dX4_mostOften_0 ?_
  refine lv_istore_n (lv' := [(2, .int (-1000006)), (0, .ref mo), (1, .int v)]) hx hb dX4_mostOften_2 rfl hl (by decide) rfl (fun ls hl => ?_)
  refine lv_iconst (v := 0) hx hb dX4_mostOften_3 (by decide) ?_
  refine lv_istore_n (lv' := [(3, .int 0), (2, .int (-1000006)), (0, .ref mo), (1, .int v)]) hx hb dX4_mostOften_4 rfl hl (by decide) rfl (fun ls hl => ?_)
  refine lv_iconst (v := 0) hx hb dX4_mostOften_5 (by decide) ?_
  refine lv_istore (lv' := [(4, .int 0), (3, .int 0), (2, .int (-1000006)), (0, .ref mo), (1, .int v)]) hx hb dX4_mostOften_6 hl (by decide) rfl (fun ls hl => ?_)
  have loop_8 : ∀ (n_8 k_8 : Nat) (i : Int32) (u : Int32) (w : Int32) (H : Heap) (locs : List Loc) (ls : Array Slot), 10 ≤ k_8 + n_8 → k_8 ≤ 9 → i = nI k_8 → va_P D vwCl (wM Y mo q M) H → va_D A (wM Y mo q M) → va_S A s.heap H locs → lv_has ls 6 [(4, .int i), (3, .int w), (2, .int u), (0, .ref mo), (1, .int v)] → L_X4_mostOften_8 M v n_8 i u w = L_X4_mostOften_8 M v 10 0 (-1000006) 0 → W p l e ({ frames := 1, cells := 0, slots := 0, locals := 21 } : Room) s m ([.ref mo, .int v] : List Value).toArray below meth c H locs 0 0 (MQ below (Qsi D (fun r9 w9 => r9 = D_X4_mostOften M v ∧ w9 = wM Y mo q M) A) ([.ref mo, .int v] : List Value).toArray s 0 0 A) (F0 m 8 ls []) := by
    intro n_8
    induction n_8 with
    | zero => intro k_8 i u w H locs ls hkf hkN_8 ex_8 hP hD hS hl hR_8; exact absurd hkf (by omega)
    | succ n_8 ih_8 =>
      intro k_8 i u w H locs ls hkf hkN_8 ex_8 hP hD hS hl hR_8
      refine lv_iload hx hb dX4_mostOften_8 (lv_at hl 0 rfl) ?_
      refine lv_bipush (v := 9) hx hb dX4_mostOften_10 (by decide) ?_
      refine lv_icmp_ge (tgt := 64) hx hb dX4_mostOften_12 (by decide) (fun c_1 => ?_) (fun c_1 => ?_)
      · have e8 : L_X4_mostOften_8 M v (n_8 + 1) i u w = (u, w) := by rw [L_X4_mostOften_8, if_pos c_1]
        have e8 := hR_8.symm.trans e8
        have eu : (L_X4_mostOften_8 M v 10 0 (-1000006) 0).1 = u := by rw [e8]
        have ew : (L_X4_mostOften_8 M v 10 0 (-1000006) 0).2 = w := by rw [e8]
        clear e8 hR_8 ih_8
        refine lv_iload_n hx hb dX4_mostOften_64 rfl (lv_at hl 2 rfl) ?_
        subst ew
        subst eu
        have e9 : D_X4_mostOften M v = ((L_X4_mostOften_8 M v 10 0 (-1000006) 0).1) := by rw [D_X4_mostOften]
        exact ret_i hx hb hr hlk hP hD hS dX4_mostOften_65 ⟨Nat.zero_le _, Nat.zero_le _⟩ ⟨e9.symm, rfl⟩
      · have hk_8 := my_lt ex_8 (show (9 : Int32) = nI 9 from rfl) (by decide) hkN_8 c_1
        refine lv_aload_n hx hb dX4_mostOften_15 rfl (lv_at hl 3 rfl) ?_
        refine va_get (D := D) (ci := 4) (v := .ref (q 0)) (C := RX4) (T := TX4) (N := 13) hx hb hts in_X4_mostOften_RX4 hown hK.1 hP 0 rfl rfl 0 (by decide) (hts (.fieldLink RX4 7 "NineDancersModel" "all" "[I") (by decide +kernel)) (fun _ h9 => h9) rfl dX4_mostOften_16 ?_
        refine lv_sipush (v := 150) hx hb dX4_mostOften_19 (by decide) ?_
        refine lv_iload_n hx hb dX4_mostOften_22 rfl (lv_at hl 4 rfl) ?_
        refine lv_iload hx hb dX4_mostOften_23 (lv_at hl 0 rfl) ?_
        refine ck_iD (wr := wM Y mo q M) (ws' := wM Y mo q M) (va_runS (As := [.int v, .int i]) (rest := [.int 150, .ref (q 0)]) ⟨hx, hb, hml, hown, hts⟩ (c_X4_pairAt l D Y H.size v i) (va_cwS 2 hts gX4_mostOften_X4_pairAt rfl rfl rfl (by decide +kernel) ⟨Nat.le_of_ble_eq_true rfl, Nat.le_of_ble_eq_true rfl⟩) (pst_S hK hP hD [] rfl (by decide)) rfl rfl hl.1 rfl (lv_room (Nat.le_of_ble_eq_true rfl)) dX4_mostOften_25 ⟨Nat.zero_le _, Nat.zero_le _⟩) hP hD hS hA [] [0, 1, 2, 3, 4, 5, 6, 7, 8, 9] [0, 1, 2, 3, 4, 5, 6, 7, 8, 9] rfl rfl (by decide) (by decide) rfl (by decide) (fun H locs hP hD hS => ?_)
        refine lv_iadd hx hb dX4_mostOften_28 ?_
        refine va_iald (D := D) hx hb hK.1 hP 1 0 rfl rfl (my_wid (my_off 150 (in_pairAt h_v (by rw [ex_8]; exact vp_in_nI hk_8 (by decide))) (Nat.le_refl _) (by decide)) (by decide) (by decide)) dX4_mostOften_29 ?_
        refine lv_istore (lv' := [(5, .int (M 0 (150 + (D_X4_pairAt v i)).toNatClampNeg)), (4, .int i), (3, .int w), (2, .int u), (0, .ref mo), (1, .int v)]) hx hb dX4_mostOften_30 hl (by decide) rfl (fun ls hl => ?_)
        refine lv_iload hx hb dX4_mostOften_32 (lv_at hl 0 rfl) ?_
        refine lv_iload_n hx hb dX4_mostOften_34 rfl (lv_at hl 2 rfl) ?_
        refine lv_icmp_le (tgt := 43) hx hb dX4_mostOften_35 (by decide) (fun c_2 => ?_) (fun c_2 => ?_)
        · refine lv_iload_n hx hb dX4_mostOften_43 rfl (lv_at hl 3 rfl) ?_
          refine lv_istore_n (lv' := [(2, .int u), (5, .int (M 0 (150 + (D_X4_pairAt v i)).toNatClampNeg)), (4, .int i), (3, .int w), (0, .ref mo), (1, .int v)]) hx hb dX4_mostOften_44 rfl hl (by decide) rfl (fun ls hl => ?_)
          refine lv_iload hx hb dX4_mostOften_45 (lv_at hl 1 rfl) ?_
          refine lv_iload_n hx hb dX4_mostOften_47 rfl (lv_at hl 3 rfl) ?_
          refine lv_icmp_le (tgt := 56) hx hb dX4_mostOften_48 (by decide) (fun c_3 => ?_) (fun c_3 => ?_)
          · refine lv_iload_n hx hb dX4_mostOften_56 rfl (lv_at hl 3 rfl) ?_
            refine lv_istore_n (lv' := [(3, .int w), (2, .int u), (5, .int (M 0 (150 + (D_X4_pairAt v i)).toNatClampNeg)), (4, .int i), (0, .ref mo), (1, .int v)]) hx hb dX4_mostOften_57 rfl hl (by decide) rfl (fun ls hl => ?_)
            refine lv_iinc (v := i + 1) (lv' := [(4, .int (i + 1)), (3, .int w), (2, .int u), (5, .int (M 0 (150 + (D_X4_pairAt v i)).toNatClampNeg)), (0, .ref mo), (1, .int v)]) hx hb dX4_mostOften_58 hl (k := 3) rfl rfl (by decide) rfl (fun ls hl => ?_)
            refine lv_goto (tgt := 8) hx hb dX4_mostOften_61 (by decide) ?_
            exact ih_8 (k_8 + 1) (i + 1) u w _ _ _ (by omega) (by omega) (by rw [ex_8]; exact nI_1 k_8)  hP hD hS (lv_sub hl [0, 1, 2, 4, 5] rfl) (by rw [L_X4_mostOften_8, if_neg c_1, if_pos c_2, if_pos c_3] at hR_8; exact hR_8)
          · refine lv_iload hx hb dX4_mostOften_51 (lv_at hl 1 rfl) ?_
            refine lv_goto (tgt := 57) hx hb dX4_mostOften_53 (by decide) ?_
            refine lv_istore_n (lv' := [(3, .int (M 0 (150 + (D_X4_pairAt v i)).toNatClampNeg)), (2, .int u), (5, .int (M 0 (150 + (D_X4_pairAt v i)).toNatClampNeg)), (4, .int i), (0, .ref mo), (1, .int v)]) hx hb dX4_mostOften_57 rfl hl (by decide) rfl (fun ls hl => ?_)
            refine lv_iinc (v := i + 1) (lv' := [(4, .int (i + 1)), (3, .int (M 0 (150 + (D_X4_pairAt v i)).toNatClampNeg)), (2, .int u), (5, .int (M 0 (150 + (D_X4_pairAt v i)).toNatClampNeg)), (0, .ref mo), (1, .int v)]) hx hb dX4_mostOften_58 hl (k := 3) rfl rfl (by decide) rfl (fun ls hl => ?_)
            refine lv_goto (tgt := 8) hx hb dX4_mostOften_61 (by decide) ?_
            exact ih_8 (k_8 + 1) (i + 1) u (M 0 (150 + (D_X4_pairAt v i)).toNatClampNeg) _ _ _ (by omega) (by omega) (by rw [ex_8]; exact nI_1 k_8)  hP hD hS (lv_sub hl [0, 1, 2, 4, 5] rfl) (by rw [L_X4_mostOften_8, if_neg c_1, if_pos c_2, if_neg c_3] at hR_8; exact hR_8)
        · refine lv_iload hx hb dX4_mostOften_38 (lv_at hl 1 rfl) ?_
          refine lv_goto (tgt := 44) hx hb dX4_mostOften_40 (by decide) ?_
          refine lv_istore_n (lv' := [(2, .int i), (5, .int (M 0 (150 + (D_X4_pairAt v i)).toNatClampNeg)), (4, .int i), (3, .int w), (0, .ref mo), (1, .int v)]) hx hb dX4_mostOften_44 rfl hl (by decide) rfl (fun ls hl => ?_)
          refine lv_iload hx hb dX4_mostOften_45 (lv_at hl 1 rfl) ?_
          refine lv_iload_n hx hb dX4_mostOften_47 rfl (lv_at hl 3 rfl) ?_
          refine lv_icmp_le (tgt := 56) hx hb dX4_mostOften_48 (by decide) (fun c_4 => ?_) (fun c_4 => ?_)
          · refine lv_iload_n hx hb dX4_mostOften_56 rfl (lv_at hl 3 rfl) ?_
            refine lv_istore_n (lv' := [(3, .int w), (2, .int i), (5, .int (M 0 (150 + (D_X4_pairAt v i)).toNatClampNeg)), (4, .int i), (0, .ref mo), (1, .int v)]) hx hb dX4_mostOften_57 rfl hl (by decide) rfl (fun ls hl => ?_)
            refine lv_iinc (v := i + 1) (lv' := [(4, .int (i + 1)), (3, .int w), (2, .int i), (5, .int (M 0 (150 + (D_X4_pairAt v i)).toNatClampNeg)), (0, .ref mo), (1, .int v)]) hx hb dX4_mostOften_58 hl (k := 3) rfl rfl (by decide) rfl (fun ls hl => ?_)
            refine lv_goto (tgt := 8) hx hb dX4_mostOften_61 (by decide) ?_
            exact ih_8 (k_8 + 1) (i + 1) i w _ _ _ (by omega) (by omega) (by rw [ex_8]; exact nI_1 k_8)  hP hD hS (lv_sub hl [0, 1, 2, 4, 5] rfl) (by rw [L_X4_mostOften_8, if_neg c_1, if_neg c_2, if_pos c_4] at hR_8; exact hR_8)
          · refine lv_iload hx hb dX4_mostOften_51 (lv_at hl 1 rfl) ?_
            refine lv_goto (tgt := 57) hx hb dX4_mostOften_53 (by decide) ?_
            refine lv_istore_n (lv' := [(3, .int (M 0 (150 + (D_X4_pairAt v i)).toNatClampNeg)), (2, .int i), (5, .int (M 0 (150 + (D_X4_pairAt v i)).toNatClampNeg)), (4, .int i), (0, .ref mo), (1, .int v)]) hx hb dX4_mostOften_57 rfl hl (by decide) rfl (fun ls hl => ?_)
            refine lv_iinc (v := i + 1) (lv' := [(4, .int (i + 1)), (3, .int (M 0 (150 + (D_X4_pairAt v i)).toNatClampNeg)), (2, .int i), (5, .int (M 0 (150 + (D_X4_pairAt v i)).toNatClampNeg)), (0, .ref mo), (1, .int v)]) hx hb dX4_mostOften_58 hl (k := 3) rfl rfl (by decide) rfl (fun ls hl => ?_)
            refine lv_goto (tgt := 8) hx hb dX4_mostOften_61 (by decide) ?_
            exact ih_8 (k_8 + 1) (i + 1) i (M 0 (150 + (D_X4_pairAt v i)).toNatClampNeg) _ _ _ (by omega) (by omega) (by rw [ex_8]; exact nI_1 k_8)  hP hD hS (lv_sub hl [0, 1, 2, 4, 5] rfl) (by rw [L_X4_mostOften_8, if_neg c_1, if_neg c_2, if_neg c_4] at hR_8; exact hR_8)
  exact loop_8 10 0 0 (-1000006) 0 _ _ _ (by omega) (Nat.zero_le _) nI_0.symm  hP hD hS (lv_sub hl [0, 1, 2, 3, 4] rfl) rfl
def V_X4_thoseThere_1 (M : Nat → Nat → Int32) (i : Int32) (u : Int32) : Int32 := u ||| ((M 0 (15 + i).toNatClampNeg) <<< (i &&& 31))
def L_X4_thoseThere_4 (M : Nat → Nat → Int32) : Nat → (Int32) → (Int32) → (Int32)
  | 0, i, u => u
  | n_4 + 1, i, u => if 9 ≤ i then u else (L_X4_thoseThere_4 M n_4 (i + 1) (V_X4_thoseThere_1 M i u))
def D_X4_thoseThere (M : Nat → Nat → Int32)  : (Int32) := (L_X4_thoseThere_4 M 10 0 0)
set_option maxRecDepth 100000 in
theorem in_X4_thoseThere_RX4 : ∀ w ∈ u_ws RX4 TX4 13, w ∈ wsX4_thoseThere := by decide +kernel
set_option maxHeartbeats 4000000 in
set_option maxRecDepth 100000 in
theorem c_X4_thoseThere (l : Launch) (D : va_G) (Y : YY) (sz : Nat) (q : Nat → Nat) (M : Nat → Nat → Int32) (mo : Nat) : Met l yX4_thoseThere wsX4_thoseThere ({ frames := 0, cells := 0, slots := 0, locals := 0 } : Room) (va_Pc [.ref mo] (Pst D Y sz (wM Y mo q M))) ((fun A : Nat → Prop => Qsi D (fun r9 w9 => r9 = D_X4_thoseThere M ∧ w9 = wM Y mo q M) A) (va_A (wM Y mo q M) sz)) 0 0 (va_A (wM Y mo q M) sz) := by
  refine ct_in (cc := cX4_thoseThere) (maxL := 3) (ret := (some .int)) (Qc := fun A : Nat → Prop => Qsi D (fun r9 w9 => r9 = D_X4_thoseThere M ∧ w9 = wM Y mo q M) A) (by decide +kernel) rfl (Nat.le_of_ble_eq_true rfl) ?_
  intro p e s m below meth c A ls hx hb hr hts hown hml hlk hin hsz hA hP hD hK hS hl
  have hown : s.vm.findClass RX4 = some m.cls := hown
  have hl : lv_has ls 3 [(0, .ref mo)] := hl
  show W p l e ({ frames := 0, cells := 0, slots := 0, locals := 0 } : Room) s m ([.ref mo] : List Value).toArray below meth c s.heap [] 0 0 (MQ below (Qsi D (fun r9 w9 => r9 = D_X4_thoseThere M ∧ w9 = wM Y mo q M) A) ([.ref mo] : List Value).toArray s 0 0 A) (F0 m 0 ls [])
  refine lv_iconst (v := 0) hx hb dX4_thoseThere_0 (by decide) ?_
  refine lv_istore_n (lv' := [(1, .int 0), (0, .ref mo)]) hx hb dX4_thoseThere_1 rfl hl (by decide) rfl (fun ls hl => ?_)
  refine lv_iconst (v := 0) hx hb dX4_thoseThere_2 (by decide) ?_
  refine lv_istore_n (lv' := [(2, .int 0), (1, .int 0), (0, .ref mo)]) hx hb dX4_thoseThere_3 rfl hl (by decide) rfl (fun ls hl => ?_)
  have loop_4 : ∀ (n_4 k_4 : Nat) (i : Int32) (u : Int32) (H : Heap) (locs : List Loc) (ls : Array Slot), 10 ≤ k_4 + n_4 → k_4 ≤ 9 → i = nI k_4 → va_P D vwCl (wM Y mo q M) H → va_D A (wM Y mo q M) → va_S A s.heap H locs → lv_has ls 3 [(2, .int i), (1, .int u), (0, .ref mo)] → L_X4_thoseThere_4 M n_4 i u = L_X4_thoseThere_4 M 10 0 0 → W p l e ({ frames := 0, cells := 0, slots := 0, locals := 0 } : Room) s m ([.ref mo] : List Value).toArray below meth c H locs 0 0 (MQ below (Qsi D (fun r9 w9 => r9 = D_X4_thoseThere M ∧ w9 = wM Y mo q M) A) ([.ref mo] : List Value).toArray s 0 0 A) (F0 m 4 ls []) := by
    intro n_4
    induction n_4 with
    | zero => intro k_4 i u H locs ls hkf hkN_4 ex_4 hP hD hS hl hR_4; exact absurd hkf (by omega)
    | succ n_4 ih_4 =>
      intro k_4 i u H locs ls hkf hkN_4 ex_4 hP hD hS hl hR_4
      refine lv_iload_n hx hb dX4_thoseThere_4 rfl (lv_at hl 0 rfl) ?_
      refine lv_bipush (v := 9) hx hb dX4_thoseThere_5 (by decide) ?_
      refine lv_icmp_ge (tgt := 30) hx hb dX4_thoseThere_7 (by decide) (fun c_1 => ?_) (fun c_1 => ?_)
      · have e8 : L_X4_thoseThere_4 M (n_4 + 1) i u = u := by rw [L_X4_thoseThere_4, if_pos c_1]
        have e8 := hR_4.symm.trans e8
        have eu : L_X4_thoseThere_4 M 10 0 0 = u := by rw [e8]
        clear e8 hR_4 ih_4
        refine lv_iload_n hx hb dX4_thoseThere_30 rfl (lv_at hl 1 rfl) ?_
        subst eu
        have e9 : D_X4_thoseThere M = (L_X4_thoseThere_4 M 10 0 0) := by rw [D_X4_thoseThere]
        exact ret_i hx hb hr hlk hP hD hS dX4_thoseThere_31 ⟨Nat.zero_le _, Nat.zero_le _⟩ ⟨e9.symm, rfl⟩
      · have hk_4 := my_lt ex_4 (show (9 : Int32) = nI 9 from rfl) (by decide) hkN_4 c_1
        refine lv_iload_n hx hb dX4_thoseThere_10 rfl (lv_at hl 1 rfl) ?_
        refine lv_aload_n hx hb dX4_thoseThere_11 rfl (lv_at hl 2 rfl) ?_
        refine va_get (D := D) (ci := 4) (v := .ref (q 0)) (C := RX4) (T := TX4) (N := 13) hx hb hts in_X4_thoseThere_RX4 hown hK.1 hP 0 rfl rfl 0 (by decide) (hts (.fieldLink RX4 7 "NineDancersModel" "all" "[I") (by decide +kernel)) (fun _ h9 => h9) rfl dX4_thoseThere_12 ?_
        refine lv_bipush (v := 15) hx hb dX4_thoseThere_15 (by decide) ?_
        refine lv_iload_n hx hb dX4_thoseThere_17 rfl (lv_at hl 0 rfl) ?_
        refine lv_iadd hx hb dX4_thoseThere_18 ?_
        refine va_iald (D := D) hx hb hK.1 hP 1 0 rfl rfl (my_wid (my_off 15 (by rw [ex_4]; exact vp_in_nI hk_4 (by decide)) (Nat.le_refl _) (by decide)) (by decide) (by decide)) dX4_thoseThere_19 ?_
        refine lv_iload_n hx hb dX4_thoseThere_20 rfl (lv_at hl 0 rfl) ?_
        refine lv_ishl hx hb dX4_thoseThere_21 ?_
        refine lv_ior hx hb dX4_thoseThere_22 ?_
        refine lv_istore_n (lv' := [(1, .int (V_X4_thoseThere_1 M i u)), (2, .int i), (0, .ref mo)]) hx hb dX4_thoseThere_23 rfl hl (by decide) rfl (fun ls hl => ?_)
        refine lv_iinc (v := i + 1) (lv' := [(2, .int (i + 1)), (1, .int (V_X4_thoseThere_1 M i u)), (0, .ref mo)]) hx hb dX4_thoseThere_24 hl (k := 1) rfl rfl (by decide) rfl (fun ls hl => ?_)
        refine lv_goto (tgt := 4) hx hb dX4_thoseThere_27 (by decide) ?_
        exact ih_4 (k_4 + 1) (i + 1) (V_X4_thoseThere_1 M i u) _ _ _ (by omega) (by omega) (by rw [ex_4]; exact nI_1 k_4)  hP hD hS (lv_sub hl [0, 1, 2] rfl) (by rw [L_X4_thoseThere_4, if_neg c_1] at hR_4; exact hR_4)
  exact loop_4 10 0 0 0 _ _ _ (by omega) (Nat.zero_le _) nI_0.symm  hP hD hS (lv_sub hl [0, 1, 2] rfl) rfl
def L_X4_joyBy_4 (M : Nat → Nat → Int32) (n : Int32) : Nat → (Int32) → (Int32) → (Int32)
  | 0, i, u => u
  | n_4 + 1, i, u => if 9 ≤ i then u else (if (D_X4_dances M i n) = 0 then (L_X4_joyBy_4 M n n_4 (i + 1) (u + 0)) else (L_X4_joyBy_4 M n n_4 (i + 1) (u + (D_X4_joyOf M i (D_X4_partnerBy i n)))))
def D_X4_joyBy (M : Nat → Nat → Int32) (n : Int32) : (Int32) := (L_X4_joyBy_4 M n 10 0 0)
set_option maxHeartbeats 4000000 in
set_option maxRecDepth 100000 in
theorem c_X4_joyBy (l : Launch) (D : va_G) (Y : YY) (sz : Nat) (q : Nat → Nat) (M : Nat → Nat → Int32) (mo : Nat) (n : Int32) (h_n : vp_in n 1000) : Met l yX4_joyBy wsX4_joyBy ({ frames := 3, cells := 0, slots := 0, locals := 65 } : Room) (va_Pc [.ref mo, .int n] (Pst D Y sz (wM Y mo q M))) ((fun A : Nat → Prop => Qsi D (fun r9 w9 => r9 = D_X4_joyBy M n ∧ w9 = wM Y mo q M) A) (va_A (wM Y mo q M) sz)) 0 0 (va_A (wM Y mo q M) sz) := by
  refine ct_in (cc := cX4_joyBy) (maxL := 4) (ret := (some .int)) (Qc := fun A : Nat → Prop => Qsi D (fun r9 w9 => r9 = D_X4_joyBy M n ∧ w9 = wM Y mo q M) A) (by decide +kernel) rfl (Nat.le_of_ble_eq_true rfl) ?_
  intro p e s m below meth c A ls hx hb hr hts hown hml hlk hin hsz hA hP hD hK hS hl
  have hown : s.vm.findClass RX4 = some m.cls := hown
  have hl : lv_has ls 4 [(0, .ref mo), (1, .int n)] := hl
  show W p l e ({ frames := 3, cells := 0, slots := 0, locals := 65 } : Room) s m ([.ref mo, .int n] : List Value).toArray below meth c s.heap [] 0 0 (MQ below (Qsi D (fun r9 w9 => r9 = D_X4_joyBy M n ∧ w9 = wM Y mo q M) A) ([.ref mo, .int n] : List Value).toArray s 0 0 A) (F0 m 0 ls [])
  refine lv_iconst (v := 0) hx hb dX4_joyBy_0 (by decide) ?_
  refine lv_istore_n (lv' := [(2, .int 0), (0, .ref mo), (1, .int n)]) hx hb dX4_joyBy_1 rfl hl (by decide) rfl (fun ls hl => ?_)
  refine lv_iconst (v := 0) hx hb dX4_joyBy_2 (by decide) ?_
  refine lv_istore_n (lv' := [(3, .int 0), (2, .int 0), (0, .ref mo), (1, .int n)]) hx hb dX4_joyBy_3 rfl hl (by decide) rfl (fun ls hl => ?_)
  have loop_4 : ∀ (n_4 k_4 : Nat) (i : Int32) (u : Int32) (H : Heap) (locs : List Loc) (ls : Array Slot), 10 ≤ k_4 + n_4 → k_4 ≤ 9 → i = nI k_4 → va_P D vwCl (wM Y mo q M) H → va_D A (wM Y mo q M) → va_S A s.heap H locs → lv_has ls 4 [(3, .int i), (2, .int u), (0, .ref mo), (1, .int n)] → L_X4_joyBy_4 M n n_4 i u = L_X4_joyBy_4 M n 10 0 0 → W p l e ({ frames := 3, cells := 0, slots := 0, locals := 65 } : Room) s m ([.ref mo, .int n] : List Value).toArray below meth c H locs 0 0 (MQ below (Qsi D (fun r9 w9 => r9 = D_X4_joyBy M n ∧ w9 = wM Y mo q M) A) ([.ref mo, .int n] : List Value).toArray s 0 0 A) (F0 m 4 ls []) := by
    intro n_4
    induction n_4 with
    | zero => intro k_4 i u H locs ls hkf hkN_4 ex_4 hP hD hS hl hR_4; exact absurd hkf (by omega)
    | succ n_4 ih_4 =>
      intro k_4 i u H locs ls hkf hkN_4 ex_4 hP hD hS hl hR_4
      refine lv_iload_n hx hb dX4_joyBy_4 rfl (lv_at hl 0 rfl) ?_
      refine lv_bipush (v := 9) hx hb dX4_joyBy_5 (by decide) ?_
      refine lv_icmp_ge (tgt := 42) hx hb dX4_joyBy_7 (by decide) (fun c_1 => ?_) (fun c_1 => ?_)
      · have e8 : L_X4_joyBy_4 M n (n_4 + 1) i u = u := by rw [L_X4_joyBy_4, if_pos c_1]
        have e8 := hR_4.symm.trans e8
        have eu : L_X4_joyBy_4 M n 10 0 0 = u := by rw [e8]
        clear e8 hR_4 ih_4
        refine lv_iload_n hx hb dX4_joyBy_42 rfl (lv_at hl 1 rfl) ?_
        subst eu
        have e9 : D_X4_joyBy M n = (L_X4_joyBy_4 M n 10 0 0) := by rw [D_X4_joyBy]
        exact ret_i hx hb hr hlk hP hD hS dX4_joyBy_43 ⟨Nat.zero_le _, Nat.zero_le _⟩ ⟨e9.symm, rfl⟩
      · have hk_4 := my_lt ex_4 (show (9 : Int32) = nI 9 from rfl) (by decide) hkN_4 c_1
        refine lv_iload_n hx hb dX4_joyBy_10 rfl (lv_at hl 1 rfl) ?_
        refine lv_aload_n hx hb dX4_joyBy_11 rfl (lv_at hl 2 rfl) ?_
        refine lv_iload_n hx hb dX4_joyBy_12 rfl (lv_at hl 0 rfl) ?_
        refine lv_iload_n hx hb dX4_joyBy_13 rfl (lv_at hl 3 rfl) ?_
        refine ck_iD (wr := ([] : va_W)) (ws' := wM Y mo q M) (va_runV (As := [.int i, .int n]) (rest := [.int u]) ⟨hx, hb, hml, hown, hts⟩ (c_X4_dances l D Y H.size q M mo i n (by rw [ex_4]; exact vp_in_nI hk_4 (by decide)) h_n) (cwV 2 hts gX4_joyBy_X4_dances rfl rfl rfl (by decide +kernel) ⟨Nat.le_of_ble_eq_true rfl, Nat.le_of_ble_eq_true rfl⟩) (pst_V hK hP hD [0, 1, 2, 3, 4, 5, 6, 7, 8, 9] rfl (by decide) (q0 := 0) rfl rfl) rfl rfl hl.1 rfl (lv_room (Nat.le_of_ble_eq_true rfl)) dX4_joyBy_14 ⟨Nat.zero_le _, Nat.zero_le _⟩) hP hD hS hA [0, 1, 2, 3, 4, 5, 6, 7, 8, 9] [] [0, 1, 2, 3, 4, 5, 6, 7, 8, 9] rfl rfl (by decide) (by decide) rfl (by decide) (fun H locs hP hD hS => ?_)
        refine lv_if_eq (tgt := 33) hx hb dX4_joyBy_17 (by decide) (fun c_2 => ?_) (fun c_2 => ?_)
        · refine lv_iconst (v := 0) hx hb dX4_joyBy_33 (by decide) ?_
          refine lv_iadd hx hb dX4_joyBy_34 ?_
          refine lv_istore_n (lv' := [(2, .int (u + 0)), (3, .int i), (0, .ref mo), (1, .int n)]) hx hb dX4_joyBy_35 rfl hl (by decide) rfl (fun ls hl => ?_)
          refine lv_iinc (v := i + 1) (lv' := [(3, .int (i + 1)), (2, .int (u + 0)), (0, .ref mo), (1, .int n)]) hx hb dX4_joyBy_36 hl (k := 1) rfl rfl (by decide) rfl (fun ls hl => ?_)
          refine lv_goto (tgt := 4) hx hb dX4_joyBy_39 (by decide) ?_
          exact ih_4 (k_4 + 1) (i + 1) (u + 0) _ _ _ (by omega) (by omega) (by rw [ex_4]; exact nI_1 k_4)  hP hD hS (lv_sub hl [0, 1, 2, 3] rfl) (by rw [L_X4_joyBy_4, if_neg c_1, if_pos c_2] at hR_4; exact hR_4)
        · refine lv_aload_n hx hb dX4_joyBy_20 rfl (lv_at hl 2 rfl) ?_
          refine lv_iload_n hx hb dX4_joyBy_21 rfl (lv_at hl 0 rfl) ?_
          refine lv_iload_n hx hb dX4_joyBy_22 rfl (lv_at hl 0 rfl) ?_
          refine lv_iload_n hx hb dX4_joyBy_23 rfl (lv_at hl 3 rfl) ?_
          refine ck_iD (wr := wM Y mo q M) (ws' := wM Y mo q M) (va_runS (As := [.int i, .int n]) (rest := [.int i, .ref mo, .int u]) ⟨hx, hb, hml, hown, hts⟩ (c_X4_partnerBy l D Y H.size i n) (va_cwS 2 hts gX4_joyBy_X4_partnerBy rfl rfl rfl (by decide +kernel) ⟨Nat.le_of_ble_eq_true rfl, Nat.le_of_ble_eq_true rfl⟩) (pst_S hK hP hD [] rfl (by decide)) rfl rfl hl.1 rfl (lv_room (Nat.le_of_ble_eq_true rfl)) dX4_joyBy_24 ⟨Nat.zero_le _, Nat.zero_le _⟩) hP hD hS hA [] [0, 1, 2, 3, 4, 5, 6, 7, 8, 9] [0, 1, 2, 3, 4, 5, 6, 7, 8, 9] rfl rfl (by decide) (by decide) rfl (by decide) (fun H locs hP hD hS => ?_)
          refine ck_iD (wr := ([] : va_W)) (ws' := wM Y mo q M) (va_runV (As := [.int i, .int (D_X4_partnerBy i n)]) (rest := [.int u]) ⟨hx, hb, hml, hown, hts⟩ (c_X4_joyOf l D Y H.size q M mo i (D_X4_partnerBy i n) (by rw [ex_4]; exact vp_in_nI hk_4 (by decide)) (in_partnerBy (by rw [ex_4]; exact vp_in_nI hk_4 (by decide)) h_n)) (cwV 2 hts gX4_joyBy_X4_joyOf rfl rfl rfl (by decide +kernel) ⟨Nat.le_of_ble_eq_true rfl, Nat.le_of_ble_eq_true rfl⟩) (pst_V hK hP hD [0, 1, 2, 3, 4, 5, 6, 7, 8, 9] rfl (by decide) (q0 := 0) rfl rfl) rfl rfl hl.1 rfl (lv_room (Nat.le_of_ble_eq_true rfl)) dX4_joyBy_27 ⟨Nat.zero_le _, Nat.zero_le _⟩) hP hD hS hA [0, 1, 2, 3, 4, 5, 6, 7, 8, 9] [] [0, 1, 2, 3, 4, 5, 6, 7, 8, 9] rfl rfl (by decide) (by decide) rfl (by decide) (fun H locs hP hD hS => ?_)
          refine lv_goto (tgt := 34) hx hb dX4_joyBy_30 (by decide) ?_
          refine lv_iadd hx hb dX4_joyBy_34 ?_
          refine lv_istore_n (lv' := [(2, .int (u + (D_X4_joyOf M i (D_X4_partnerBy i n)))), (3, .int i), (0, .ref mo), (1, .int n)]) hx hb dX4_joyBy_35 rfl hl (by decide) rfl (fun ls hl => ?_)
          refine lv_iinc (v := i + 1) (lv' := [(3, .int (i + 1)), (2, .int (u + (D_X4_joyOf M i (D_X4_partnerBy i n)))), (0, .ref mo), (1, .int n)]) hx hb dX4_joyBy_36 hl (k := 1) rfl rfl (by decide) rfl (fun ls hl => ?_)
          refine lv_goto (tgt := 4) hx hb dX4_joyBy_39 (by decide) ?_
          exact ih_4 (k_4 + 1) (i + 1) (u + (D_X4_joyOf M i (D_X4_partnerBy i n))) _ _ _ (by omega) (by omega) (by rw [ex_4]; exact nI_1 k_4)  hP hD hS (lv_sub hl [0, 1, 2, 3] rfl) (by rw [L_X4_joyBy_4, if_neg c_1, if_neg c_2] at hR_4; exact hR_4)
  exact loop_4 10 0 0 0 _ _ _ (by omega) (Nat.zero_le _) nI_0.symm  hP hD hS (lv_sub hl [0, 1, 2, 3] rfl) rfl
def L_X4_villagersBy_5 (M : Nat → Nat → Int32) (n : Int32) (w : Int32) : Nat → (Int32) → (Int32) → (Int32)
  | 0, i, u => u
  | n_5 + 1, i, u => if 9 ≤ i then u else (if w = 0 then (if (D_X4_dances M i n) = 0 then (L_X4_villagersBy_5 M n w n_5 (i + 1) (u + 0)) else (L_X4_villagersBy_5 M n w n_5 (i + 1) (u + 1))) else (if w = 2 then (if (D_X4_dances M i n) = 0 then (if (D_X4_isThere M i) = 0 then (L_X4_villagersBy_5 M n w n_5 (i + 1) (u + 0)) else (if (D_X4_partnerBy i n) = i then (L_X4_villagersBy_5 M n w n_5 (i + 1) (u + 0)) else (L_X4_villagersBy_5 M n w n_5 (i + 1) (u + 1)))) else (L_X4_villagersBy_5 M n w n_5 (i + 1) (u + 0))) else (if (D_X4_dances M i n) = 0 then (L_X4_villagersBy_5 M n w n_5 (i + 1) (u + 0)) else (if (M 0 (150 + (D_X4_pairAt i (D_X4_partnerBy i n))).toNatClampNeg) = 0 then (L_X4_villagersBy_5 M n w n_5 (i + 1) (u + 1)) else (L_X4_villagersBy_5 M n w n_5 (i + 1) (u + 0))))))
def D_X4_villagersBy (M : Nat → Nat → Int32) (n : Int32) (w : Int32) : (Int32) := (L_X4_villagersBy_5 M n w 10 0 0)
set_option maxRecDepth 100000 in
theorem in_X4_villagersBy_RX4 : ∀ w ∈ u_ws RX4 TX4 13, w ∈ wsX4_villagersBy := by decide +kernel
set_option maxHeartbeats 4000000 in
set_option maxRecDepth 100000 in
theorem c_X4_villagersBy (l : Launch) (D : va_G) (Y : YY) (sz : Nat) (q : Nat → Nat) (M : Nat → Nat → Int32) (mo : Nat) (n : Int32) (w : Int32) (h_n : vp_in n 1000) : Met l yX4_villagersBy wsX4_villagersBy ({ frames := 3, cells := 0, slots := 0, locals := 65 } : Room) (va_Pc [.ref mo, .int n, .int w] (Pst D Y sz (wM Y mo q M))) ((fun A : Nat → Prop => Qsi D (fun r9 w9 => r9 = D_X4_villagersBy M n w ∧ w9 = wM Y mo q M) A) (va_A (wM Y mo q M) sz)) 0 0 (va_A (wM Y mo q M) sz) := by
  refine ct_in (cc := cX4_villagersBy) (maxL := 7) (ret := (some .int)) (Qc := fun A : Nat → Prop => Qsi D (fun r9 w9 => r9 = D_X4_villagersBy M n w ∧ w9 = wM Y mo q M) A) (by decide +kernel) rfl (Nat.le_of_ble_eq_true rfl) ?_
  intro p e s m below meth c A ls hx hb hr hts hown hml hlk hin hsz hA hP hD hK hS hl
  have hown : s.vm.findClass RX4 = some m.cls := hown
  have hl : lv_has ls 7 [(0, .ref mo), (1, .int n), (2, .int w)] := hl
  show W p l e ({ frames := 3, cells := 0, slots := 0, locals := 65 } : Room) s m ([.ref mo, .int n, .int w] : List Value).toArray below meth c s.heap [] 0 0 (MQ below (Qsi D (fun r9 w9 => r9 = D_X4_villagersBy M n w ∧ w9 = wM Y mo q M) A) ([.ref mo, .int n, .int w] : List Value).toArray s 0 0 A) (F0 m 0 ls [])
  refine lv_iconst (v := 0) hx hb dX4_villagersBy_0 (by decide) ?_
  refine lv_istore_n (lv' := [(3, .int 0), (0, .ref mo), (1, .int n), (2, .int w)]) hx hb dX4_villagersBy_1 rfl hl (by decide) rfl (fun ls hl => ?_)
  refine lv_iconst (v := 0) hx hb dX4_villagersBy_2 (by decide) ?_
  refine lv_istore (lv' := [(4, .int 0), (3, .int 0), (0, .ref mo), (1, .int n), (2, .int w)]) hx hb dX4_villagersBy_3 hl (by decide) rfl (fun ls hl => ?_)
  have loop_5 : ∀ (n_5 k_5 : Nat) (i : Int32) (u : Int32) (H : Heap) (locs : List Loc) (ls : Array Slot), 10 ≤ k_5 + n_5 → k_5 ≤ 9 → i = nI k_5 → va_P D vwCl (wM Y mo q M) H → va_D A (wM Y mo q M) → va_S A s.heap H locs → lv_has ls 7 [(4, .int i), (3, .int u), (0, .ref mo), (1, .int n), (2, .int w)] → L_X4_villagersBy_5 M n w n_5 i u = L_X4_villagersBy_5 M n w 10 0 0 → W p l e ({ frames := 3, cells := 0, slots := 0, locals := 65 } : Room) s m ([.ref mo, .int n, .int w] : List Value).toArray below meth c H locs 0 0 (MQ below (Qsi D (fun r9 w9 => r9 = D_X4_villagersBy M n w ∧ w9 = wM Y mo q M) A) ([.ref mo, .int n, .int w] : List Value).toArray s 0 0 A) (F0 m 5 ls []) := by
    intro n_5
    induction n_5 with
    | zero => intro k_5 i u H locs ls hkf hkN_5 ex_5 hP hD hS hl hR_5; exact absurd hkf (by omega)
    | succ n_5 ih_5 =>
      intro k_5 i u H locs ls hkf hkN_5 ex_5 hP hD hS hl hR_5
      refine lv_iload hx hb dX4_villagersBy_5 (lv_at hl 0 rfl) ?_
      refine lv_bipush (v := 9) hx hb dX4_villagersBy_7 (by decide) ?_
      refine lv_icmp_ge (tgt := 108) hx hb dX4_villagersBy_9 (by decide) (fun c_1 => ?_) (fun c_1 => ?_)
      · have e8 : L_X4_villagersBy_5 M n w (n_5 + 1) i u = u := by rw [L_X4_villagersBy_5, if_pos c_1]
        have e8 := hR_5.symm.trans e8
        have eu : L_X4_villagersBy_5 M n w 10 0 0 = u := by rw [e8]
        clear e8 hR_5 ih_5
        refine lv_iload_n hx hb dX4_villagersBy_108 rfl (lv_at hl 1 rfl) ?_
        subst eu
        have e9 : D_X4_villagersBy M n w = (L_X4_villagersBy_5 M n w 10 0 0) := by rw [D_X4_villagersBy]
        exact ret_i hx hb hr hlk hP hD hS dX4_villagersBy_109 ⟨Nat.zero_le _, Nat.zero_le _⟩ ⟨e9.symm, rfl⟩
      · have hk_5 := my_lt ex_5 (show (9 : Int32) = nI 9 from rfl) (by decide) hkN_5 c_1
        refine lv_iload hx hb dX4_villagersBy_12 (lv_at hl 0 rfl) ?_
        refine lv_iload_n hx hb dX4_villagersBy_14 rfl (lv_at hl 3 rfl) ?_
        refine ck_iD (wr := wM Y mo q M) (ws' := wM Y mo q M) (va_runS (As := [.int i, .int n]) (rest := []) ⟨hx, hb, hml, hown, hts⟩ (c_X4_partnerBy l D Y H.size i n) (va_cwS 2 hts gX4_villagersBy_X4_partnerBy rfl rfl rfl (by decide +kernel) ⟨Nat.le_of_ble_eq_true rfl, Nat.le_of_ble_eq_true rfl⟩) (pst_S hK hP hD [] rfl (by decide)) rfl rfl hl.1 rfl (lv_room (Nat.le_of_ble_eq_true rfl)) dX4_villagersBy_15 ⟨Nat.zero_le _, Nat.zero_le _⟩) hP hD hS hA [] [0, 1, 2, 3, 4, 5, 6, 7, 8, 9] [0, 1, 2, 3, 4, 5, 6, 7, 8, 9] rfl rfl (by decide) (by decide) rfl (by decide) (fun H locs hP hD hS => ?_)
        refine lv_istore (lv' := [(5, .int (D_X4_partnerBy i n)), (4, .int i), (3, .int u), (0, .ref mo), (1, .int n), (2, .int w)]) hx hb dX4_villagersBy_18 hl (by decide) rfl (fun ls hl => ?_)
        refine lv_aload_n hx hb dX4_villagersBy_20 rfl (lv_at hl 3 rfl) ?_
        refine lv_iload hx hb dX4_villagersBy_21 (lv_at hl 1 rfl) ?_
        refine lv_iload_n hx hb dX4_villagersBy_23 rfl (lv_at hl 4 rfl) ?_
        refine ck_iD (wr := ([] : va_W)) (ws' := wM Y mo q M) (va_runV (As := [.int i, .int n]) (rest := []) ⟨hx, hb, hml, hown, hts⟩ (c_X4_dances l D Y H.size q M mo i n (by rw [ex_5]; exact vp_in_nI hk_5 (by decide)) h_n) (cwV 2 hts gX4_villagersBy_X4_dances rfl rfl rfl (by decide +kernel) ⟨Nat.le_of_ble_eq_true rfl, Nat.le_of_ble_eq_true rfl⟩) (pst_V hK hP hD [0, 1, 2, 3, 4, 5, 6, 7, 8, 9] rfl (by decide) (q0 := 0) rfl rfl) rfl rfl hl.1 rfl (lv_room (Nat.le_of_ble_eq_true rfl)) dX4_villagersBy_24 ⟨Nat.zero_le _, Nat.zero_le _⟩) hP hD hS hA [0, 1, 2, 3, 4, 5, 6, 7, 8, 9] [] [0, 1, 2, 3, 4, 5, 6, 7, 8, 9] rfl rfl (by decide) (by decide) rfl (by decide) (fun H locs hP hD hS => ?_)
        refine lv_istore (lv' := [(6, .int (D_X4_dances M i n)), (5, .int (D_X4_partnerBy i n)), (4, .int i), (3, .int u), (0, .ref mo), (1, .int n), (2, .int w)]) hx hb dX4_villagersBy_27 hl (by decide) rfl (fun ls hl => ?_)
        refine lv_iload_n hx hb dX4_villagersBy_29 rfl (lv_at hl 3 rfl) ?_
        refine lv_iload_n hx hb dX4_villagersBy_30 rfl (lv_at hl 6 rfl) ?_
        refine lv_if_ne (tgt := 42) hx hb dX4_villagersBy_31 (by decide) (fun c_2 => ?_) (fun c_2 => ?_)
        · refine lv_iload_n hx hb dX4_villagersBy_42 rfl (lv_at hl 6 rfl) ?_
          refine lv_iconst (v := 2) hx hb dX4_villagersBy_43 (by decide) ?_
          refine lv_icmp_ne (tgt := 71) hx hb dX4_villagersBy_44 (by decide) (fun c_3 => ?_) (fun c_3 => ?_)
          · refine lv_iload hx hb dX4_villagersBy_71 (lv_at hl 0 rfl) ?_
            refine lv_if_eq (tgt := 99) hx hb dX4_villagersBy_73 (by decide) (fun c_4 => ?_) (fun c_4 => ?_)
            · refine lv_iconst (v := 0) hx hb dX4_villagersBy_99 (by decide) ?_
              refine lv_iadd hx hb dX4_villagersBy_100 ?_
              refine lv_istore_n (lv' := [(3, .int (u + 0)), (6, .int (D_X4_dances M i n)), (5, .int (D_X4_partnerBy i n)), (4, .int i), (0, .ref mo), (1, .int n), (2, .int w)]) hx hb dX4_villagersBy_101 rfl hl (by decide) rfl (fun ls hl => ?_)
              refine lv_iinc (v := i + 1) (lv' := [(4, .int (i + 1)), (3, .int (u + 0)), (6, .int (D_X4_dances M i n)), (5, .int (D_X4_partnerBy i n)), (0, .ref mo), (1, .int n), (2, .int w)]) hx hb dX4_villagersBy_102 hl (k := 3) rfl rfl (by decide) rfl (fun ls hl => ?_)
              refine lv_goto (tgt := 5) hx hb dX4_villagersBy_105 (by decide) ?_
              exact ih_5 (k_5 + 1) (i + 1) (u + 0) _ _ _ (by omega) (by omega) (by rw [ex_5]; exact nI_1 k_5)  hP hD hS (lv_sub hl [0, 1, 4, 5, 6] rfl) (by rw [L_X4_villagersBy_5, if_neg c_1, if_neg c_2, if_neg c_3, if_pos c_4] at hR_5; exact hR_5)
            · refine lv_aload_n hx hb dX4_villagersBy_76 rfl (lv_at hl 4 rfl) ?_
              refine va_get (D := D) (ci := 4) (v := .ref (q 0)) (C := RX4) (T := TX4) (N := 13) hx hb hts in_X4_villagersBy_RX4 hown hK.1 hP 0 rfl rfl 0 (by decide) (hts (.fieldLink RX4 7 "NineDancersModel" "all" "[I") (by decide +kernel)) (fun _ h9 => h9) rfl dX4_villagersBy_77 ?_
              refine lv_sipush (v := 150) hx hb dX4_villagersBy_80 (by decide) ?_
              refine lv_iload hx hb dX4_villagersBy_83 (lv_at hl 2 rfl) ?_
              refine lv_iload hx hb dX4_villagersBy_85 (lv_at hl 1 rfl) ?_
              refine ck_iD (wr := wM Y mo q M) (ws' := wM Y mo q M) (va_runS (As := [.int i, .int (D_X4_partnerBy i n)]) (rest := [.int 150, .ref (q 0), .int u]) ⟨hx, hb, hml, hown, hts⟩ (c_X4_pairAt l D Y H.size i (D_X4_partnerBy i n)) (va_cwS 2 hts gX4_villagersBy_X4_pairAt rfl rfl rfl (by decide +kernel) ⟨Nat.le_of_ble_eq_true rfl, Nat.le_of_ble_eq_true rfl⟩) (pst_S hK hP hD [] rfl (by decide)) rfl rfl hl.1 rfl (lv_room (Nat.le_of_ble_eq_true rfl)) dX4_villagersBy_87 ⟨Nat.zero_le _, Nat.zero_le _⟩) hP hD hS hA [] [0, 1, 2, 3, 4, 5, 6, 7, 8, 9] [0, 1, 2, 3, 4, 5, 6, 7, 8, 9] rfl rfl (by decide) (by decide) rfl (by decide) (fun H locs hP hD hS => ?_)
              refine lv_iadd hx hb dX4_villagersBy_90 ?_
              refine va_iald (D := D) hx hb hK.1 hP 1 0 rfl rfl (my_wid (my_off 150 (in_pairAt (by rw [ex_5]; exact vp_in_nI hk_5 (by decide)) (in_partnerBy (by rw [ex_5]; exact vp_in_nI hk_5 (by decide)) h_n)) (Nat.le_refl _) (by decide)) (by decide) (by decide)) dX4_villagersBy_91 ?_
              refine lv_if_ne (tgt := 99) hx hb dX4_villagersBy_92 (by decide) (fun c_5 => ?_) (fun c_5 => ?_)
              · refine lv_iconst (v := 0) hx hb dX4_villagersBy_99 (by decide) ?_
                refine lv_iadd hx hb dX4_villagersBy_100 ?_
                refine lv_istore_n (lv' := [(3, .int (u + 0)), (6, .int (D_X4_dances M i n)), (5, .int (D_X4_partnerBy i n)), (4, .int i), (0, .ref mo), (1, .int n), (2, .int w)]) hx hb dX4_villagersBy_101 rfl hl (by decide) rfl (fun ls hl => ?_)
                refine lv_iinc (v := i + 1) (lv' := [(4, .int (i + 1)), (3, .int (u + 0)), (6, .int (D_X4_dances M i n)), (5, .int (D_X4_partnerBy i n)), (0, .ref mo), (1, .int n), (2, .int w)]) hx hb dX4_villagersBy_102 hl (k := 3) rfl rfl (by decide) rfl (fun ls hl => ?_)
                refine lv_goto (tgt := 5) hx hb dX4_villagersBy_105 (by decide) ?_
                exact ih_5 (k_5 + 1) (i + 1) (u + 0) _ _ _ (by omega) (by omega) (by rw [ex_5]; exact nI_1 k_5)  hP hD hS (lv_sub hl [0, 1, 4, 5, 6] rfl) (by rw [L_X4_villagersBy_5, if_neg c_1, if_neg c_2, if_neg c_3, if_neg c_4, if_neg c_5] at hR_5; exact hR_5)
              · refine lv_iconst (v := 1) hx hb dX4_villagersBy_95 (by decide) ?_
                refine lv_goto (tgt := 100) hx hb dX4_villagersBy_96 (by decide) ?_
                refine lv_iadd hx hb dX4_villagersBy_100 ?_
                refine lv_istore_n (lv' := [(3, .int (u + 1)), (6, .int (D_X4_dances M i n)), (5, .int (D_X4_partnerBy i n)), (4, .int i), (0, .ref mo), (1, .int n), (2, .int w)]) hx hb dX4_villagersBy_101 rfl hl (by decide) rfl (fun ls hl => ?_)
                refine lv_iinc (v := i + 1) (lv' := [(4, .int (i + 1)), (3, .int (u + 1)), (6, .int (D_X4_dances M i n)), (5, .int (D_X4_partnerBy i n)), (0, .ref mo), (1, .int n), (2, .int w)]) hx hb dX4_villagersBy_102 hl (k := 3) rfl rfl (by decide) rfl (fun ls hl => ?_)
                refine lv_goto (tgt := 5) hx hb dX4_villagersBy_105 (by decide) ?_
                exact ih_5 (k_5 + 1) (i + 1) (u + 1) _ _ _ (by omega) (by omega) (by rw [ex_5]; exact nI_1 k_5)  hP hD hS (lv_sub hl [0, 1, 4, 5, 6] rfl) (by rw [L_X4_villagersBy_5, if_neg c_1, if_neg c_2, if_neg c_3, if_neg c_4, if_pos c_5] at hR_5; exact hR_5)
          · refine lv_iload hx hb dX4_villagersBy_47 (lv_at hl 0 rfl) ?_
            refine lv_if_ne (tgt := 99) hx hb dX4_villagersBy_49 (by decide) (fun c_6 => ?_) (fun c_6 => ?_)
            · refine lv_iconst (v := 0) hx hb dX4_villagersBy_99 (by decide) ?_
              refine lv_iadd hx hb dX4_villagersBy_100 ?_
              refine lv_istore_n (lv' := [(3, .int (u + 0)), (6, .int (D_X4_dances M i n)), (5, .int (D_X4_partnerBy i n)), (4, .int i), (0, .ref mo), (1, .int n), (2, .int w)]) hx hb dX4_villagersBy_101 rfl hl (by decide) rfl (fun ls hl => ?_)
              refine lv_iinc (v := i + 1) (lv' := [(4, .int (i + 1)), (3, .int (u + 0)), (6, .int (D_X4_dances M i n)), (5, .int (D_X4_partnerBy i n)), (0, .ref mo), (1, .int n), (2, .int w)]) hx hb dX4_villagersBy_102 hl (k := 3) rfl rfl (by decide) rfl (fun ls hl => ?_)
              refine lv_goto (tgt := 5) hx hb dX4_villagersBy_105 (by decide) ?_
              exact ih_5 (k_5 + 1) (i + 1) (u + 0) _ _ _ (by omega) (by omega) (by rw [ex_5]; exact nI_1 k_5)  hP hD hS (lv_sub hl [0, 1, 4, 5, 6] rfl) (by rw [L_X4_villagersBy_5, if_neg c_1, if_neg c_2, if_pos c_3, if_neg c_6] at hR_5; exact hR_5)
            · refine lv_aload_n hx hb dX4_villagersBy_52 rfl (lv_at hl 4 rfl) ?_
              refine lv_iload hx hb dX4_villagersBy_53 (lv_at hl 2 rfl) ?_
              refine ck_iD (wr := ([] : va_W)) (ws' := wM Y mo q M) (va_runV (As := [.int i]) (rest := [.int u]) ⟨hx, hb, hml, hown, hts⟩ (c_X4_isThere l D Y H.size q M mo i (by rw [ex_5]; exact vp_in_nI hk_5 (by decide))) (cwV 1 hts gX4_villagersBy_X4_isThere rfl rfl rfl (by decide +kernel) ⟨Nat.le_of_ble_eq_true rfl, Nat.le_of_ble_eq_true rfl⟩) (pst_V hK hP hD [0, 1, 2, 3, 4, 5, 6, 7, 8, 9] rfl (by decide) (q0 := 0) rfl rfl) rfl rfl hl.1 rfl (lv_room (Nat.le_of_ble_eq_true rfl)) dX4_villagersBy_55 ⟨Nat.zero_le _, Nat.zero_le _⟩) hP hD hS hA [0, 1, 2, 3, 4, 5, 6, 7, 8, 9] [] [0, 1, 2, 3, 4, 5, 6, 7, 8, 9] rfl rfl (by decide) (by decide) rfl (by decide) (fun H locs hP hD hS => ?_)
              refine lv_if_eq (tgt := 99) hx hb dX4_villagersBy_58 (by decide) (fun c_7 => ?_) (fun c_7 => ?_)
              · refine lv_iconst (v := 0) hx hb dX4_villagersBy_99 (by decide) ?_
                refine lv_iadd hx hb dX4_villagersBy_100 ?_
                refine lv_istore_n (lv' := [(3, .int (u + 0)), (6, .int (D_X4_dances M i n)), (5, .int (D_X4_partnerBy i n)), (4, .int i), (0, .ref mo), (1, .int n), (2, .int w)]) hx hb dX4_villagersBy_101 rfl hl (by decide) rfl (fun ls hl => ?_)
                refine lv_iinc (v := i + 1) (lv' := [(4, .int (i + 1)), (3, .int (u + 0)), (6, .int (D_X4_dances M i n)), (5, .int (D_X4_partnerBy i n)), (0, .ref mo), (1, .int n), (2, .int w)]) hx hb dX4_villagersBy_102 hl (k := 3) rfl rfl (by decide) rfl (fun ls hl => ?_)
                refine lv_goto (tgt := 5) hx hb dX4_villagersBy_105 (by decide) ?_
                exact ih_5 (k_5 + 1) (i + 1) (u + 0) _ _ _ (by omega) (by omega) (by rw [ex_5]; exact nI_1 k_5)  hP hD hS (lv_sub hl [0, 1, 4, 5, 6] rfl) (by rw [L_X4_villagersBy_5, if_neg c_1, if_neg c_2, if_pos c_3, if_pos c_6, if_pos c_7] at hR_5; exact hR_5)
              · refine lv_iload hx hb dX4_villagersBy_61 (lv_at hl 1 rfl) ?_
                refine lv_iload hx hb dX4_villagersBy_63 (lv_at hl 2 rfl) ?_
                refine lv_icmp_eq (tgt := 99) hx hb dX4_villagersBy_65 (by decide) (fun c_8 => ?_) (fun c_8 => ?_)
                · refine lv_iconst (v := 0) hx hb dX4_villagersBy_99 (by decide) ?_
                  refine lv_iadd hx hb dX4_villagersBy_100 ?_
                  refine lv_istore_n (lv' := [(3, .int (u + 0)), (6, .int (D_X4_dances M i n)), (5, .int (D_X4_partnerBy i n)), (4, .int i), (0, .ref mo), (1, .int n), (2, .int w)]) hx hb dX4_villagersBy_101 rfl hl (by decide) rfl (fun ls hl => ?_)
                  refine lv_iinc (v := i + 1) (lv' := [(4, .int (i + 1)), (3, .int (u + 0)), (6, .int (D_X4_dances M i n)), (5, .int (D_X4_partnerBy i n)), (0, .ref mo), (1, .int n), (2, .int w)]) hx hb dX4_villagersBy_102 hl (k := 3) rfl rfl (by decide) rfl (fun ls hl => ?_)
                  refine lv_goto (tgt := 5) hx hb dX4_villagersBy_105 (by decide) ?_
                  exact ih_5 (k_5 + 1) (i + 1) (u + 0) _ _ _ (by omega) (by omega) (by rw [ex_5]; exact nI_1 k_5)  hP hD hS (lv_sub hl [0, 1, 4, 5, 6] rfl) (by rw [L_X4_villagersBy_5, if_neg c_1, if_neg c_2, if_pos c_3, if_pos c_6, if_neg c_7, if_pos c_8] at hR_5; exact hR_5)
                · refine lv_goto (tgt := 95) hx hb dX4_villagersBy_68 (by decide) ?_
                  refine lv_iconst (v := 1) hx hb dX4_villagersBy_95 (by decide) ?_
                  refine lv_goto (tgt := 100) hx hb dX4_villagersBy_96 (by decide) ?_
                  refine lv_iadd hx hb dX4_villagersBy_100 ?_
                  refine lv_istore_n (lv' := [(3, .int (u + 1)), (6, .int (D_X4_dances M i n)), (5, .int (D_X4_partnerBy i n)), (4, .int i), (0, .ref mo), (1, .int n), (2, .int w)]) hx hb dX4_villagersBy_101 rfl hl (by decide) rfl (fun ls hl => ?_)
                  refine lv_iinc (v := i + 1) (lv' := [(4, .int (i + 1)), (3, .int (u + 1)), (6, .int (D_X4_dances M i n)), (5, .int (D_X4_partnerBy i n)), (0, .ref mo), (1, .int n), (2, .int w)]) hx hb dX4_villagersBy_102 hl (k := 3) rfl rfl (by decide) rfl (fun ls hl => ?_)
                  refine lv_goto (tgt := 5) hx hb dX4_villagersBy_105 (by decide) ?_
                  exact ih_5 (k_5 + 1) (i + 1) (u + 1) _ _ _ (by omega) (by omega) (by rw [ex_5]; exact nI_1 k_5)  hP hD hS (lv_sub hl [0, 1, 4, 5, 6] rfl) (by rw [L_X4_villagersBy_5, if_neg c_1, if_neg c_2, if_pos c_3, if_pos c_6, if_neg c_7, if_neg c_8] at hR_5; exact hR_5)
        · refine lv_iload hx hb dX4_villagersBy_34 (lv_at hl 0 rfl) ?_
          refine lv_if_eq (tgt := 99) hx hb dX4_villagersBy_36 (by decide) (fun c_9 => ?_) (fun c_9 => ?_)
          · refine lv_iconst (v := 0) hx hb dX4_villagersBy_99 (by decide) ?_
            refine lv_iadd hx hb dX4_villagersBy_100 ?_
            refine lv_istore_n (lv' := [(3, .int (u + 0)), (6, .int (D_X4_dances M i n)), (5, .int (D_X4_partnerBy i n)), (4, .int i), (0, .ref mo), (1, .int n), (2, .int w)]) hx hb dX4_villagersBy_101 rfl hl (by decide) rfl (fun ls hl => ?_)
            refine lv_iinc (v := i + 1) (lv' := [(4, .int (i + 1)), (3, .int (u + 0)), (6, .int (D_X4_dances M i n)), (5, .int (D_X4_partnerBy i n)), (0, .ref mo), (1, .int n), (2, .int w)]) hx hb dX4_villagersBy_102 hl (k := 3) rfl rfl (by decide) rfl (fun ls hl => ?_)
            refine lv_goto (tgt := 5) hx hb dX4_villagersBy_105 (by decide) ?_
            exact ih_5 (k_5 + 1) (i + 1) (u + 0) _ _ _ (by omega) (by omega) (by rw [ex_5]; exact nI_1 k_5)  hP hD hS (lv_sub hl [0, 1, 4, 5, 6] rfl) (by rw [L_X4_villagersBy_5, if_neg c_1, if_pos c_2, if_pos c_9] at hR_5; exact hR_5)
          · refine lv_goto (tgt := 95) hx hb dX4_villagersBy_39 (by decide) ?_
            refine lv_iconst (v := 1) hx hb dX4_villagersBy_95 (by decide) ?_
            refine lv_goto (tgt := 100) hx hb dX4_villagersBy_96 (by decide) ?_
            refine lv_iadd hx hb dX4_villagersBy_100 ?_
            refine lv_istore_n (lv' := [(3, .int (u + 1)), (6, .int (D_X4_dances M i n)), (5, .int (D_X4_partnerBy i n)), (4, .int i), (0, .ref mo), (1, .int n), (2, .int w)]) hx hb dX4_villagersBy_101 rfl hl (by decide) rfl (fun ls hl => ?_)
            refine lv_iinc (v := i + 1) (lv' := [(4, .int (i + 1)), (3, .int (u + 1)), (6, .int (D_X4_dances M i n)), (5, .int (D_X4_partnerBy i n)), (0, .ref mo), (1, .int n), (2, .int w)]) hx hb dX4_villagersBy_102 hl (k := 3) rfl rfl (by decide) rfl (fun ls hl => ?_)
            refine lv_goto (tgt := 5) hx hb dX4_villagersBy_105 (by decide) ?_
            exact ih_5 (k_5 + 1) (i + 1) (u + 1) _ _ _ (by omega) (by omega) (by rw [ex_5]; exact nI_1 k_5)  hP hD hS (lv_sub hl [0, 1, 4, 5, 6] rfl) (by rw [L_X4_villagersBy_5, if_neg c_1, if_pos c_2, if_neg c_9] at hR_5; exact hR_5)
  exact loop_5 10 0 0 0 _ _ _ (by omega) (Nat.zero_le _) nI_0.symm  hP hD hS (lv_sub hl [0, 1, 2, 3, 4] rfl) rfl

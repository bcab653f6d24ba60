theorem my_pred {v : Int32} (h : vp_in v 60) (c : ¬ v = 0) : vp_in (v - 1) 60 := by
  obtain ⟨j, hj, rfl⟩ := vp_in_of h (by decide)
  cases j with
  | zero => exact absurd rfl c
  | succ j => rw [nI_pred]; exact vp_in_nI (by omega) (by decide)
theorem my_succ {P : Nat → Nat → Int32} {len : Nat} {v : Int32} (h : vp_in v 60) (hl : P 1 0 = nI len) (hL : len ≤ 60) (c : ¬ P 1 0 ≤ v + 1) : vp_in (v + 1) 60 := by
  obtain ⟨j, hj, rfl⟩ := vp_in_of h (by decide)
  rw [nI_1] at c ⊢
  have : j + 1 < len := by
    rcases Nat.lt_or_ge (j + 1) len with q | q
    · exact q
    · exact absurd (by rw [hl]; exact nI_le q (by omega)) c
  exact vp_in_nI (by omega) (by decide)
theorem my_dn2 {x : Int32} {len k : Nat} (ex : x = nI (len + k) + (-1)) (hk : len + k < 2 ^ 31) (c : ¬ x < nI len) : ∃ j : Nat, k = j + 1 ∧ x = nI (len + j) := by
  cases k with
  | zero =>
    exfalso
    apply c
    rw [ex]
    cases len with
    | zero => decide
    | succ n => rw [show n + 1 + 0 = n + 1 from rfl, pk_m1]; exact nI_lt (by omega) (by omega)
  | succ j => exact ⟨j, rfl, by rw [ex]; exact pk_m1 (len + j)⟩
theorem my_dn3 (len g : Nat) : nI len + nI g - 1 = nI (len + g) + (-1) := by rw [nI_add, Int32.sub_eq_add_neg]
theorem in_chars3 (ch : Int64) : ∀ (n : Nat) (i : Int32) (lf : Int64), vp_in i 9 → vp_in (L_X3_charactersIn_5 ch n i lf) 9 := by
  intro n
  induction n with
  | zero => intro i lf h; unfold L_X3_charactersIn_5 vp_in; decide
  | succ n ih =>
    intro i lf h
    rw [L_X3_charactersIn_5]
    split
    · exact h
    · split
      · exact h
      · rename_i h8
        split
        · unfold vp_in; decide
        · split
          · refine ih _ _ ?_
            obtain ⟨j, hj, rfl⟩ := vp_in_of h (by decide)
            have h9 : j < 8 := my_lt rfl (show (8 : Int32) = nI 8 from rfl) (by decide) (by omega) h8
            rw [nI_1]
            exact vp_in_nI (by omega) (by decide)
          · unfold vp_in; decide
theorem in_charsIn (ch : Int64) : vp_in (D_X3_charactersIn ch) 9 := in_chars3 ch _ _ _ (by unfold vp_in; decide)
def D_X1_isDigit  (c9 : Int32) : (Int32) := if c9 < 48 then 0 else (if 57 < c9 then 0 else 1)
set_option maxHeartbeats 4000000 in
set_option maxRecDepth 100000 in
theorem c_X1_isDigit (l : Launch) (D : va_G) (Y : YY) (sz : Nat) (c9 : Int32) : Met l yX1_isDigit wsX1_isDigit ({ frames := 0, cells := 0, slots := 0, locals := 0 } : Room) (va_Pc [.int c9] (Pst D Y sz (([] : va_W)))) ((fun A : Nat → Prop => Qsi D (fun r9 w9 => r9 = D_X1_isDigit c9 ∧ w9 = ([] : va_W)) A) (va_A (([] : va_W)) sz)) 0 0 (va_A (([] : va_W)) sz) := by
  refine ct_in (cc := cX1_isDigit) (maxL := 1) (ret := (some .boolean)) (Qc := fun A : Nat → Prop => Qsi D (fun r9 w9 => r9 = D_X1_isDigit c9 ∧ w9 = ([] : va_W)) A) (by decide +kernel) rfl (Nat.le_of_ble_eq_true rfl) ?_
  intro p e s m below meth c A ls hx hb hr hts hown hml hlk hin hsz hA hP hD hK hS hl
  have hown : s.vm.findClass RX1 = some m.cls := hown
  have hl : lv_has ls 1 [(0, .int c9)] := hl
  show W p l e ({ frames := 0, cells := 0, slots := 0, locals := 0 } : Room) s m ([.int c9] : List Value).toArray below meth c s.heap [] 0 0 (MQ below (Qsi D (fun r9 w9 => r9 = D_X1_isDigit c9 ∧ w9 = ([] : va_W)) A) ([.int c9] : List Value).toArray s 0 0 A) (F0 m 0 ls [])
  refine lv_iload_n hx hb dX1_isDigit_0 rfl (lv_at hl 0 rfl) ?_
  refine lv_bipush (v := 48) hx hb dX1_isDigit_1 (by decide) ?_
  refine lv_icmp_lt (tgt := 16) hx hb dX1_isDigit_3 (by decide) (fun c_1 => ?_) (fun c_1 => ?_)
  · refine lv_iconst (v := 0) hx hb dX1_isDigit_16 (by decide) ?_
    have e9 : D_X1_isDigit c9 = 0 := by rw [D_X1_isDigit, if_pos c_1]
    exact ret_z hx hb hr rfl hlk hP hD hS dX1_isDigit_17 ⟨Nat.zero_le _, Nat.zero_le _⟩ ⟨e9.symm, rfl⟩
  · refine lv_iload_n hx hb dX1_isDigit_6 rfl (lv_at hl 0 rfl) ?_
    refine lv_bipush (v := 57) hx hb dX1_isDigit_7 (by decide) ?_
    refine lv_icmp_gt (tgt := 16) hx hb dX1_isDigit_9 (by decide) (fun c_2 => ?_) (fun c_2 => ?_)
    · refine lv_iconst (v := 0) hx hb dX1_isDigit_16 (by decide) ?_
      have e9 : D_X1_isDigit c9 = 0 := by rw [D_X1_isDigit, if_neg c_1, if_pos c_2]
      exact ret_z hx hb hr rfl hlk hP hD hS dX1_isDigit_17 ⟨Nat.zero_le _, Nat.zero_le _⟩ ⟨e9.symm, rfl⟩
    · refine lv_iconst (v := 1) hx hb dX1_isDigit_12 (by decide) ?_
      refine lv_goto (tgt := 17) hx hb dX1_isDigit_13 (by decide) ?_
      have e9 : D_X1_isDigit c9 = 1 := by rw [D_X1_isDigit, if_neg c_1, if_neg c_2]
      exact ret_z hx hb hr rfl hlk hP hD hS dX1_isDigit_17 ⟨Nat.zero_le _, Nat.zero_le _⟩ ⟨e9.symm, rfl⟩
theorem z_X1_isDigit  (c9 : Int32) : D_X1_isDigit c9 = 0 ∨ D_X1_isDigit c9 = 1 := by unfold D_X1_isDigit; (repeat' split) <;> simp
def D_X1_canTakeDigit  (nu : Int32) (dg : Int32) : (Int32) := if dg = 0 then 1 else (if nu ≤ 0 then 0 else (if 3 ≤ dg then 0 else 1))
set_option maxHeartbeats 4000000 in
set_option maxRecDepth 100000 in
theorem c_X1_canTakeDigit (l : Launch) (D : va_G) (Y : YY) (sz : Nat) (nu : Int32) (dg : Int32) : Met l yX1_canTakeDigit wsX1_canTakeDigit ({ frames := 0, cells := 0, slots := 0, locals := 0 } : Room) (va_Pc [.int nu, .int dg] (Pst D Y sz (([] : va_W)))) ((fun A : Nat → Prop => Qsi D (fun r9 w9 => r9 = D_X1_canTakeDigit nu dg ∧ w9 = ([] : va_W)) A) (va_A (([] : va_W)) sz)) 0 0 (va_A (([] : va_W)) sz) := by
  refine ct_in (cc := cX1_canTakeDigit) (maxL := 2) (ret := (some .boolean)) (Qc := fun A : Nat → Prop => Qsi D (fun r9 w9 => r9 = D_X1_canTakeDigit nu dg ∧ w9 = ([] : va_W)) A) (by decide +kernel) rfl (Nat.le_of_ble_eq_true rfl) ?_
  intro p e s m below meth c A ls hx hb hr hts hown hml hlk hin hsz hA hP hD hK hS hl
  have hown : s.vm.findClass RX1 = some m.cls := hown
  have hl : lv_has ls 2 [(0, .int nu), (1, .int dg)] := hl
  show W p l e ({ frames := 0, cells := 0, slots := 0, locals := 0 } : Room) s m ([.int nu, .int dg] : List Value).toArray below meth c s.heap [] 0 0 (MQ below (Qsi D (fun r9 w9 => r9 = D_X1_canTakeDigit nu dg ∧ w9 = ([] : va_W)) A) ([.int nu, .int dg] : List Value).toArray s 0 0 A) (F0 m 0 ls [])
  refine lv_iload_n hx hb dX1_canTakeDigit_0 rfl (lv_at hl 1 rfl) ?_
  refine lv_if_eq (tgt := 13) hx hb dX1_canTakeDigit_1 (by decide) (fun c_1 => ?_) (fun c_1 => ?_)
  · refine lv_iconst (v := 1) hx hb dX1_canTakeDigit_13 (by decide) ?_
    refine lv_goto (tgt := 18) hx hb dX1_canTakeDigit_14 (by decide) ?_
    have e9 : D_X1_canTakeDigit nu dg = 1 := by rw [D_X1_canTakeDigit, if_pos c_1]
    exact ret_z hx hb hr rfl hlk hP hD hS dX1_canTakeDigit_18 ⟨Nat.zero_le _, Nat.zero_le _⟩ ⟨e9.symm, rfl⟩
  · refine lv_iload_n hx hb dX1_canTakeDigit_4 rfl (lv_at hl 0 rfl) ?_
    refine lv_if_le (tgt := 17) hx hb dX1_canTakeDigit_5 (by decide) (fun c_2 => ?_) (fun c_2 => ?_)
    · refine lv_iconst (v := 0) hx hb dX1_canTakeDigit_17 (by decide) ?_
      have e9 : D_X1_canTakeDigit nu dg = 0 := by rw [D_X1_canTakeDigit, if_neg c_1, if_pos c_2]
      exact ret_z hx hb hr rfl hlk hP hD hS dX1_canTakeDigit_18 ⟨Nat.zero_le _, Nat.zero_le _⟩ ⟨e9.symm, rfl⟩
    · refine lv_iload_n hx hb dX1_canTakeDigit_8 rfl (lv_at hl 1 rfl) ?_
      refine lv_iconst (v := 3) hx hb dX1_canTakeDigit_9 (by decide) ?_
      refine lv_icmp_ge (tgt := 17) hx hb dX1_canTakeDigit_10 (by decide) (fun c_3 => ?_) (fun c_3 => ?_)
      · refine lv_iconst (v := 0) hx hb dX1_canTakeDigit_17 (by decide) ?_
        have e9 : D_X1_canTakeDigit nu dg = 0 := by rw [D_X1_canTakeDigit, if_neg c_1, if_neg c_2, if_pos c_3]
        exact ret_z hx hb hr rfl hlk hP hD hS dX1_canTakeDigit_18 ⟨Nat.zero_le _, Nat.zero_le _⟩ ⟨e9.symm, rfl⟩
      · refine lv_iconst (v := 1) hx hb dX1_canTakeDigit_13 (by decide) ?_
        refine lv_goto (tgt := 18) hx hb dX1_canTakeDigit_14 (by decide) ?_
        have e9 : D_X1_canTakeDigit nu dg = 1 := by rw [D_X1_canTakeDigit, if_neg c_1, if_neg c_2, if_neg c_3]
        exact ret_z hx hb hr rfl hlk hP hD hS dX1_canTakeDigit_18 ⟨Nat.zero_le _, Nat.zero_le _⟩ ⟨e9.symm, rfl⟩
theorem z_X1_canTakeDigit  (nu : Int32) (dg : Int32) : D_X1_canTakeDigit nu dg = 0 ∨ D_X1_canTakeDigit nu dg = 1 := by unfold D_X1_canTakeDigit; (repeat' split) <;> simp
def L_X1_firstFault_9 (P : Nat → Nat → Int32) : Nat → (Int32) → (Int32) → (Int32) → (Int32) → (Int32)
  | 0, i, nu, dg, aft => 0
  | n_9 + 1, i, nu, dg, aft => if (P 1 0) ≤ i then (if dg ≤ 0 then (P 1 0) else (-1000006)) else (if (D_X1_isDigit (P 0 i.toNatClampNeg)) = 0 then (if (P 0 i.toNatClampNeg) = 42 then (if aft = 0 then (if dg = 1 then (if nu < 2 then (if (P 0 i.toNatClampNeg) = 44 then (if dg ≤ 0 then i else (L_X1_firstFault_9 P n_9 (i + 1) 0 0 0)) else i) else (L_X1_firstFault_9 P n_9 (i + 1) 0 0 1)) else (if (P 0 i.toNatClampNeg) = 44 then (if dg ≤ 0 then i else (L_X1_firstFault_9 P n_9 (i + 1) 0 0 0)) else i)) else (if (P 0 i.toNatClampNeg) = 44 then (if dg ≤ 0 then i else (L_X1_firstFault_9 P n_9 (i + 1) 0 0 0)) else i)) else (if (P 0 i.toNatClampNeg) = 44 then (if dg ≤ 0 then i else (L_X1_firstFault_9 P n_9 (i + 1) 0 0 0)) else i)) else (if (D_X1_canTakeDigit nu dg) = 0 then (if (P 0 i.toNatClampNeg) = 42 then (if aft = 0 then (if dg = 1 then (if nu < 2 then (if (P 0 i.toNatClampNeg) = 44 then (if dg ≤ 0 then i else (L_X1_firstFault_9 P n_9 (i + 1) 0 0 0)) else i) else (L_X1_firstFault_9 P n_9 (i + 1) 0 0 1)) else (if (P 0 i.toNatClampNeg) = 44 then (if dg ≤ 0 then i else (L_X1_firstFault_9 P n_9 (i + 1) 0 0 0)) else i)) else (if (P 0 i.toNatClampNeg) = 44 then (if dg ≤ 0 then i else (L_X1_firstFault_9 P n_9 (i + 1) 0 0 0)) else i)) else (if (P 0 i.toNatClampNeg) = 44 then (if dg ≤ 0 then i else (L_X1_firstFault_9 P n_9 (i + 1) 0 0 0)) else i)) else (L_X1_firstFault_9 P n_9 (i + 1) ((10 * nu) + ((P 0 i.toNatClampNeg) - 48)) (dg + 1) aft)))
def D_X1_firstFault (P : Nat → Nat → Int32)  : (Int32) := L_X1_firstFault_9 P 61 0 0 0 0
set_option maxRecDepth 100000 in
theorem in_X1_firstFault_RX1 : ∀ w ∈ u_ws RX1 TX1 2, w ∈ wsX1_firstFault := by decide +kernel
set_option maxHeartbeats 4000000 in
set_option maxRecDepth 100000 in
theorem c_X1_firstFault (l : Launch) (D : va_G) (Y : YY) (sz : Nat) (tx : Nat) (len : Nat) (P : Nat → Nat → Int32) (pp : Nat) (hlen : P 1 0 = nI len) (hL : len ≤ 60) : Met l yX1_firstFault wsX1_firstFault ({ frames := 1, cells := 0, slots := 0, locals := 21 } : Room) (va_Pc [.ref pp] (Pst D Y sz (wP Y pp tx P))) ((fun A : Nat → Prop => Qsi D (fun r9 w9 => r9 = D_X1_firstFault P ∧ w9 = wP Y pp tx P) A) (va_A (wP Y pp tx P) sz)) 0 0 (va_A (wP Y pp tx P) sz) := by
  refine ct_in (cc := cX1_firstFault) (maxL := 6) (ret := (some .int)) (Qc := fun A : Nat → Prop => Qsi D (fun r9 w9 => r9 = D_X1_firstFault P ∧ w9 = wP Y pp tx P) A) (by decide +kernel) rfl (Nat.le_of_ble_eq_true rfl) ?_
  intro p e s m below meth c A ls hx hb hr hts hown hml hlk hin hsz hA hP hD hK hS hl
  have hown : s.vm.findClass RX1 = some m.cls := hown
  have hl : lv_has ls 6 [(0, .ref pp)] := hl
  show W p l e ({ frames := 1, cells := 0, slots := 0, locals := 21 } : Room) s m ([.ref pp] : List Value).toArray below meth c s.heap [] 0 0 (MQ below (Qsi D (fun r9 w9 => r9 = D_X1_firstFault P ∧ w9 = wP Y pp tx P) A) ([.ref pp] : List Value).toArray s 0 0 A) (F0 m 0 ls [])
  refine lv_iconst (v := 0) hx hb dX1_firstFault_0 (by decide) ?_
  refine lv_istore_n (lv' := [(1, .int 0), (0, .ref pp)]) hx hb dX1_firstFault_1 rfl hl (by decide) rfl (fun ls hl => ?_)
  refine lv_iconst (v := 0) hx hb dX1_firstFault_2 (by decide) ?_
  refine lv_istore_n (lv' := [(2, .int 0), (1, .int 0), (0, .ref pp)]) hx hb dX1_firstFault_3 rfl hl (by decide) rfl (fun ls hl => ?_)
  refine lv_iconst (v := 0) hx hb dX1_firstFault_4 (by decide) ?_
  refine lv_istore_n (lv' := [(3, .int 0), (2, .int 0), (1, .int 0), (0, .ref pp)]) hx hb dX1_firstFault_5 rfl hl (by decide) rfl (fun ls hl => ?_)
  refine lv_iconst (v := 0) hx hb dX1_firstFault_6 (by decide) ?_
  refine lv_istore (lv' := [(4, .int 0), (3, .int 0), (2, .int 0), (1, .int 0), (0, .ref pp)]) hx hb dX1_firstFault_7 hl (by decide) rfl (fun ls hl => ?_)
  have loop_9 : ∀ (n_9 k_9 : Nat) (i : Int32) (nu : Int32) (dg : Int32) (aft : Int32) (H : Heap) (locs : List Loc) (ls : Array Slot), len + 1 ≤ k_9 + n_9 → k_9 ≤ len → i = nI k_9 → va_P D vwCl (wP Y pp tx P) H → va_D A (wP Y pp tx P) → va_S A s.heap H locs → lv_has ls 6 [(4, .int i), (3, .int aft), (2, .int dg), (1, .int nu), (0, .ref pp)] → L_X1_firstFault_9 P n_9 i nu dg aft = D_X1_firstFault P → W p l e ({ frames := 1, cells := 0, slots := 0, locals := 21 } : Room) s m ([.ref pp] : List Value).toArray below meth c H locs 0 0 (MQ below (Qsi D (fun r9 w9 => r9 = D_X1_firstFault P ∧ w9 = wP Y pp tx P) A) ([.ref pp] : List Value).toArray s 0 0 A) (F0 m 9 ls []) := by
    intro n_9
    induction n_9 with
    | zero => intro k_9 i nu dg aft H locs ls hkf hkN_9 ex_9 hP hD hS hl hR_9; exact absurd hkf (by omega)
    | succ n_9 ih_9 =>
      intro k_9 i nu dg aft H locs ls hkf hkN_9 ex_9 hP hD hS hl hR_9
      refine lv_iload hx hb dX1_firstFault_9 (lv_at hl 0 rfl) ?_
      refine lv_aload_n hx hb dX1_firstFault_11 rfl (lv_at hl 4 rfl) ?_
      refine va_get (D := D) (ci := 1) (v := .int (P 1 0)) (C := RX1) (T := TX1) (N := 2) hx hb hts in_X1_firstFault_RX1 hown hK.1 hP 0 rfl rfl 1 (by decide) (hts (.fieldLink RX1 15 "NineDancers$Pad" "length" "I") (by decide +kernel)) (fun _ h9 => h9) rfl dX1_firstFault_12 ?_
      refine lv_icmp_ge (tgt := 119) hx hb dX1_firstFault_15 (by decide) (fun c_1 => ?_) (fun c_1 => ?_)
      · refine lv_iload_n hx hb dX1_firstFault_119 rfl (lv_at hl 2 rfl) ?_
        refine lv_if_le (tgt := 128) hx hb dX1_firstFault_120 (by decide) (fun c_2 => ?_) (fun c_2 => ?_)
        · refine lv_aload_n hx hb dX1_firstFault_128 rfl (lv_at hl 4 rfl) ?_
          refine va_get (D := D) (ci := 1) (v := .int (P 1 0)) (C := RX1) (T := TX1) (N := 2) hx hb hts in_X1_firstFault_RX1 hown hK.1 hP 0 rfl rfl 1 (by decide) (hts (.fieldLink RX1 15 "NineDancers$Pad" "length" "I") (by decide +kernel)) (fun _ h9 => h9) rfl dX1_firstFault_129 ?_
          have e9 : L_X1_firstFault_9 P (n_9 + 1) i nu dg aft = P 1 0 := by rw [L_X1_firstFault_9, if_pos c_1, if_pos c_2]
          have e9 := hR_9.symm.trans e9
          exact ret_i hx hb hr hlk hP hD hS dX1_firstFault_132 ⟨Nat.zero_le _, Nat.zero_le _⟩ ⟨e9.symm, rfl⟩
        · refine lv_ldc (v := (-1000006)) hx hb hown (hts (.constant RX1 29 (-1000006)) (by decide +kernel)) dX1_firstFault_123 ?_
          refine lv_goto (tgt := 132) hx hb dX1_firstFault_125 (by decide) ?_
          have e9 : L_X1_firstFault_9 P (n_9 + 1) i nu dg aft = (-1000006) := by rw [L_X1_firstFault_9, if_pos c_1, if_neg c_2]
          have e9 := hR_9.symm.trans e9
          exact ret_i hx hb hr hlk hP hD hS dX1_firstFault_132 ⟨Nat.zero_le _, Nat.zero_le _⟩ ⟨e9.symm, rfl⟩
      · have hk_9 := my_lt ex_9 (show (P 1 0 : Int32) = nI len from hlen) (by omega) hkN_9 c_1
        refine lv_aload_n hx hb dX1_firstFault_18 rfl (lv_at hl 4 rfl) ?_
        refine va_get (D := D) (ci := 1) (v := .ref tx) (C := RX1) (T := TX1) (N := 2) hx hb hts in_X1_firstFault_RX1 hown hK.1 hP 0 rfl rfl 0 (by decide) (hts (.fieldLink RX1 9 "NineDancers$Pad" "text" "[C") (by decide +kernel)) (fun _ h9 => h9) rfl dX1_firstFault_19 ?_
        refine lv_iload hx hb dX1_firstFault_22 (lv_at hl 0 rfl) ?_
        refine va_cald (D := D) hx hb hK.1 hP 1 1 rfl rfl (show vp_in i 60 from by rw [ex_9]; exact vp_in_nI (by omega) (by decide)) dX1_firstFault_24 ?_
        refine lv_istore (lv' := [(5, .int (P 0 i.toNatClampNeg)), (4, .int i), (3, .int aft), (2, .int dg), (1, .int nu), (0, .ref pp)]) hx hb dX1_firstFault_25 hl (by decide) rfl (fun ls hl => ?_)
        refine lv_iload hx hb dX1_firstFault_27 (lv_at hl 0 rfl) ?_
        refine ck_iD (wr := wP Y pp tx P) (ws' := wP Y pp tx P) (va_runS (As := [.int (P 0 i.toNatClampNeg)]) (rest := []) ⟨hx, hb, hml, hown, hts⟩ (c_X1_isDigit l D Y H.size (P 0 i.toNatClampNeg)) (va_cwS 1 hts gX1_firstFault_X1_isDigit rfl rfl rfl (by decide +kernel) ⟨Nat.le_of_ble_eq_true rfl, Nat.le_of_ble_eq_true rfl⟩) (pst_S hK hP hD [] rfl (by decide)) rfl rfl hl.1 rfl (lv_room (Nat.le_of_ble_eq_true rfl)) dX1_firstFault_29 ⟨Nat.zero_le _, Nat.zero_le _⟩) hP hD hS hA [] [0, 1] [0, 1] rfl rfl (by decide) (by decide) rfl (by decide) (fun H locs hP hD hS => ?_)
        refine lv_if_eq (tgt := 60) hx hb dX1_firstFault_32 (by decide) (fun c_3 => ?_) (fun c_3 => ?_)
        · refine lv_iload hx hb dX1_firstFault_60 (lv_at hl 0 rfl) ?_
          refine lv_bipush (v := 42) hx hb dX1_firstFault_62 (by decide) ?_
          refine lv_icmp_ne (tgt := 90) hx hb dX1_firstFault_64 (by decide) (fun c_4 => ?_) (fun c_4 => ?_)
          · refine lv_iload hx hb dX1_firstFault_90 (lv_at hl 0 rfl) ?_
            refine lv_bipush (v := 44) hx hb dX1_firstFault_92 (by decide) ?_
            refine lv_icmp_ne (tgt := 110) hx hb dX1_firstFault_94 (by decide) (fun c_5 => ?_) (fun c_5 => ?_)
            · refine lv_iload hx hb dX1_firstFault_110 (lv_at hl 1 rfl) ?_
              have e9 : L_X1_firstFault_9 P (n_9 + 1) i nu dg aft = i := by rw [L_X1_firstFault_9, if_neg c_1, if_pos c_3, if_neg c_4, if_neg c_5]
              have e9 := hR_9.symm.trans e9
              exact ret_i hx hb hr hlk hP hD hS dX1_firstFault_112 ⟨Nat.zero_le _, Nat.zero_le _⟩ ⟨e9.symm, rfl⟩
            · refine lv_iload_n hx hb dX1_firstFault_97 rfl (lv_at hl 3 rfl) ?_
              refine lv_if_le (tgt := 110) hx hb dX1_firstFault_98 (by decide) (fun c_6 => ?_) (fun c_6 => ?_)
              · refine lv_iload hx hb dX1_firstFault_110 (lv_at hl 1 rfl) ?_
                have e9 : L_X1_firstFault_9 P (n_9 + 1) i nu dg aft = i := by rw [L_X1_firstFault_9, if_neg c_1, if_pos c_3, if_neg c_4, if_pos c_5, if_pos c_6]
                have e9 := hR_9.symm.trans e9
                exact ret_i hx hb hr hlk hP hD hS dX1_firstFault_112 ⟨Nat.zero_le _, Nat.zero_le _⟩ ⟨e9.symm, rfl⟩
              · refine lv_iconst (v := 0) hx hb dX1_firstFault_101 (by decide) ?_
                refine lv_istore_n (lv' := [(1, .int 0), (5, .int (P 0 i.toNatClampNeg)), (4, .int i), (3, .int aft), (2, .int dg), (0, .ref pp)]) hx hb dX1_firstFault_102 rfl hl (by decide) rfl (fun ls hl => ?_)
                refine lv_iconst (v := 0) hx hb dX1_firstFault_103 (by decide) ?_
                refine lv_istore_n (lv' := [(2, .int 0), (1, .int 0), (5, .int (P 0 i.toNatClampNeg)), (4, .int i), (3, .int aft), (0, .ref pp)]) hx hb dX1_firstFault_104 rfl hl (by decide) rfl (fun ls hl => ?_)
                refine lv_iconst (v := 0) hx hb dX1_firstFault_105 (by decide) ?_
                refine lv_istore_n (lv' := [(3, .int 0), (2, .int 0), (1, .int 0), (5, .int (P 0 i.toNatClampNeg)), (4, .int i), (0, .ref pp)]) hx hb dX1_firstFault_106 rfl hl (by decide) rfl (fun ls hl => ?_)
                refine lv_goto (tgt := 113) hx hb dX1_firstFault_107 (by decide) ?_
                refine lv_iinc (v := i + 1) (lv' := [(4, .int (i + 1)), (3, .int 0), (2, .int 0), (1, .int 0), (5, .int (P 0 i.toNatClampNeg)), (0, .ref pp)]) hx hb dX1_firstFault_113 hl (k := 4) rfl rfl (by decide) rfl (fun ls hl => ?_)
                refine lv_goto (tgt := 9) hx hb dX1_firstFault_116 (by decide) ?_
                exact ih_9 (k_9 + 1) (i + 1) 0 0 0 _ _ _ (by omega) (by omega) (by rw [ex_9]; exact nI_1 k_9)  hP hD hS (lv_sub hl [0, 1, 2, 3, 5] rfl) (by rw [L_X1_firstFault_9, if_neg c_1, if_pos c_3, if_neg c_4, if_pos c_5, if_neg c_6] at hR_9; exact hR_9)
          · refine lv_iload_n hx hb dX1_firstFault_67 rfl (lv_at hl 2 rfl) ?_
            refine lv_if_ne (tgt := 90) hx hb dX1_firstFault_68 (by decide) (fun c_7 => ?_) (fun c_7 => ?_)
            · refine lv_iload hx hb dX1_firstFault_90 (lv_at hl 0 rfl) ?_
              refine lv_bipush (v := 44) hx hb dX1_firstFault_92 (by decide) ?_
              refine lv_icmp_ne (tgt := 110) hx hb dX1_firstFault_94 (by decide) (fun c_8 => ?_) (fun c_8 => ?_)
              · refine lv_iload hx hb dX1_firstFault_110 (lv_at hl 1 rfl) ?_
                have e9 : L_X1_firstFault_9 P (n_9 + 1) i nu dg aft = i := by rw [L_X1_firstFault_9, if_neg c_1, if_pos c_3, if_pos c_4, if_neg c_7, if_neg c_8]
                have e9 := hR_9.symm.trans e9
                exact ret_i hx hb hr hlk hP hD hS dX1_firstFault_112 ⟨Nat.zero_le _, Nat.zero_le _⟩ ⟨e9.symm, rfl⟩
              · refine lv_iload_n hx hb dX1_firstFault_97 rfl (lv_at hl 3 rfl) ?_
                refine lv_if_le (tgt := 110) hx hb dX1_firstFault_98 (by decide) (fun c_9 => ?_) (fun c_9 => ?_)
                · refine lv_iload hx hb dX1_firstFault_110 (lv_at hl 1 rfl) ?_
                  have e9 : L_X1_firstFault_9 P (n_9 + 1) i nu dg aft = i := by rw [L_X1_firstFault_9, if_neg c_1, if_pos c_3, if_pos c_4, if_neg c_7, if_pos c_8, if_pos c_9]
                  have e9 := hR_9.symm.trans e9
                  exact ret_i hx hb hr hlk hP hD hS dX1_firstFault_112 ⟨Nat.zero_le _, Nat.zero_le _⟩ ⟨e9.symm, rfl⟩
                · refine lv_iconst (v := 0) hx hb dX1_firstFault_101 (by decide) ?_
                  refine lv_istore_n (lv' := [(1, .int 0), (5, .int (P 0 i.toNatClampNeg)), (4, .int i), (3, .int aft), (2, .int dg), (0, .ref pp)]) hx hb dX1_firstFault_102 rfl hl (by decide) rfl (fun ls hl => ?_)
                  refine lv_iconst (v := 0) hx hb dX1_firstFault_103 (by decide) ?_
                  refine lv_istore_n (lv' := [(2, .int 0), (1, .int 0), (5, .int (P 0 i.toNatClampNeg)), (4, .int i), (3, .int aft), (0, .ref pp)]) hx hb dX1_firstFault_104 rfl hl (by decide) rfl (fun ls hl => ?_)
                  refine lv_iconst (v := 0) hx hb dX1_firstFault_105 (by decide) ?_
                  refine lv_istore_n (lv' := [(3, .int 0), (2, .int 0), (1, .int 0), (5, .int (P 0 i.toNatClampNeg)), (4, .int i), (0, .ref pp)]) hx hb dX1_firstFault_106 rfl hl (by decide) rfl (fun ls hl => ?_)
                  refine lv_goto (tgt := 113) hx hb dX1_firstFault_107 (by decide) ?_
                  refine lv_iinc (v := i + 1) (lv' := [(4, .int (i + 1)), (3, .int 0), (2, .int 0), (1, .int 0), (5, .int (P 0 i.toNatClampNeg)), (0, .ref pp)]) hx hb dX1_firstFault_113 hl (k := 4) rfl rfl (by decide) rfl (fun ls hl => ?_)
                  refine lv_goto (tgt := 9) hx hb dX1_firstFault_116 (by decide) ?_
                  exact ih_9 (k_9 + 1) (i + 1) 0 0 0 _ _ _ (by omega) (by omega) (by rw [ex_9]; exact nI_1 k_9)  hP hD hS (lv_sub hl [0, 1, 2, 3, 5] rfl) (by rw [L_X1_firstFault_9, if_neg c_1, if_pos c_3, if_pos c_4, if_neg c_7, if_pos c_8, if_neg c_9] at hR_9; exact hR_9)
            · refine lv_iload_n hx hb dX1_firstFault_71 rfl (lv_at hl 3 rfl) ?_
              refine lv_iconst (v := 1) hx hb dX1_firstFault_72 (by decide) ?_
              refine lv_icmp_ne (tgt := 90) hx hb dX1_firstFault_73 (by decide) (fun c_10 => ?_) (fun c_10 => ?_)
              · refine lv_iload hx hb dX1_firstFault_90 (lv_at hl 0 rfl) ?_
                refine lv_bipush (v := 44) hx hb dX1_firstFault_92 (by decide) ?_
                refine lv_icmp_ne (tgt := 110) hx hb dX1_firstFault_94 (by decide) (fun c_11 => ?_) (fun c_11 => ?_)
                · refine lv_iload hx hb dX1_firstFault_110 (lv_at hl 1 rfl) ?_
                  have e9 : L_X1_firstFault_9 P (n_9 + 1) i nu dg aft = i := by rw [L_X1_firstFault_9, if_neg c_1, if_pos c_3, if_pos c_4, if_pos c_7, if_neg c_10, if_neg c_11]
                  have e9 := hR_9.symm.trans e9
                  exact ret_i hx hb hr hlk hP hD hS dX1_firstFault_112 ⟨Nat.zero_le _, Nat.zero_le _⟩ ⟨e9.symm, rfl⟩
                · refine lv_iload_n hx hb dX1_firstFault_97 rfl (lv_at hl 3 rfl) ?_
                  refine lv_if_le (tgt := 110) hx hb dX1_firstFault_98 (by decide) (fun c_12 => ?_) (fun c_12 => ?_)
                  · refine lv_iload hx hb dX1_firstFault_110 (lv_at hl 1 rfl) ?_
                    have e9 : L_X1_firstFault_9 P (n_9 + 1) i nu dg aft = i := by rw [L_X1_firstFault_9, if_neg c_1, if_pos c_3, if_pos c_4, if_pos c_7, if_neg c_10, if_pos c_11, if_pos c_12]
                    have e9 := hR_9.symm.trans e9
                    exact ret_i hx hb hr hlk hP hD hS dX1_firstFault_112 ⟨Nat.zero_le _, Nat.zero_le _⟩ ⟨e9.symm, rfl⟩
                  · refine lv_iconst (v := 0) hx hb dX1_firstFault_101 (by decide) ?_
                    refine lv_istore_n (lv' := [(1, .int 0), (5, .int (P 0 i.toNatClampNeg)), (4, .int i), (3, .int aft), (2, .int dg), (0, .ref pp)]) hx hb dX1_firstFault_102 rfl hl (by decide) rfl (fun ls hl => ?_)
                    refine lv_iconst (v := 0) hx hb dX1_firstFault_103 (by decide) ?_
                    refine lv_istore_n (lv' := [(2, .int 0), (1, .int 0), (5, .int (P 0 i.toNatClampNeg)), (4, .int i), (3, .int aft), (0, .ref pp)]) hx hb dX1_firstFault_104 rfl hl (by decide) rfl (fun ls hl => ?_)
                    refine lv_iconst (v := 0) hx hb dX1_firstFault_105 (by decide) ?_
                    refine lv_istore_n (lv' := [(3, .int 0), (2, .int 0), (1, .int 0), (5, .int (P 0 i.toNatClampNeg)), (4, .int i), (0, .ref pp)]) hx hb dX1_firstFault_106 rfl hl (by decide) rfl (fun ls hl => ?_)
                    refine lv_goto (tgt := 113) hx hb dX1_firstFault_107 (by decide) ?_
                    refine lv_iinc (v := i + 1) (lv' := [(4, .int (i + 1)), (3, .int 0), (2, .int 0), (1, .int 0), (5, .int (P 0 i.toNatClampNeg)), (0, .ref pp)]) hx hb dX1_firstFault_113 hl (k := 4) rfl rfl (by decide) rfl (fun ls hl => ?_)
                    refine lv_goto (tgt := 9) hx hb dX1_firstFault_116 (by decide) ?_
                    exact ih_9 (k_9 + 1) (i + 1) 0 0 0 _ _ _ (by omega) (by omega) (by rw [ex_9]; exact nI_1 k_9)  hP hD hS (lv_sub hl [0, 1, 2, 3, 5] rfl) (by rw [L_X1_firstFault_9, if_neg c_1, if_pos c_3, if_pos c_4, if_pos c_7, if_neg c_10, if_pos c_11, if_neg c_12] at hR_9; exact hR_9)
              · refine lv_iload_n hx hb dX1_firstFault_76 rfl (lv_at hl 4 rfl) ?_
                refine lv_iconst (v := 2) hx hb dX1_firstFault_77 (by decide) ?_
                refine lv_icmp_lt (tgt := 90) hx hb dX1_firstFault_78 (by decide) (fun c_13 => ?_) (fun c_13 => ?_)
                · refine lv_iload hx hb dX1_firstFault_90 (lv_at hl 0 rfl) ?_
                  refine lv_bipush (v := 44) hx hb dX1_firstFault_92 (by decide) ?_
                  refine lv_icmp_ne (tgt := 110) hx hb dX1_firstFault_94 (by decide) (fun c_14 => ?_) (fun c_14 => ?_)
                  · refine lv_iload hx hb dX1_firstFault_110 (lv_at hl 1 rfl) ?_
                    have e9 : L_X1_firstFault_9 P (n_9 + 1) i nu dg aft = i := by rw [L_X1_firstFault_9, if_neg c_1, if_pos c_3, if_pos c_4, if_pos c_7, if_pos c_10, if_pos c_13, if_neg c_14]
                    have e9 := hR_9.symm.trans e9
                    exact ret_i hx hb hr hlk hP hD hS dX1_firstFault_112 ⟨Nat.zero_le _, Nat.zero_le _⟩ ⟨e9.symm, rfl⟩
                  · refine lv_iload_n hx hb dX1_firstFault_97 rfl (lv_at hl 3 rfl) ?_
                    refine lv_if_le (tgt := 110) hx hb dX1_firstFault_98 (by decide) (fun c_15 => ?_) (fun c_15 => ?_)
                    · refine lv_iload hx hb dX1_firstFault_110 (lv_at hl 1 rfl) ?_
                      have e9 : L_X1_firstFault_9 P (n_9 + 1) i nu dg aft = i := by rw [L_X1_firstFault_9, if_neg c_1, if_pos c_3, if_pos c_4, if_pos c_7, if_pos c_10, if_pos c_13, if_pos c_14, if_pos c_15]
                      have e9 := hR_9.symm.trans e9
                      exact ret_i hx hb hr hlk hP hD hS dX1_firstFault_112 ⟨Nat.zero_le _, Nat.zero_le _⟩ ⟨e9.symm, rfl⟩
                    · refine lv_iconst (v := 0) hx hb dX1_firstFault_101 (by decide) ?_
                      refine lv_istore_n (lv' := [(1, .int 0), (5, .int (P 0 i.toNatClampNeg)), (4, .int i), (3, .int aft), (2, .int dg), (0, .ref pp)]) hx hb dX1_firstFault_102 rfl hl (by decide) rfl (fun ls hl => ?_)
                      refine lv_iconst (v := 0) hx hb dX1_firstFault_103 (by decide) ?_
                      refine lv_istore_n (lv' := [(2, .int 0), (1, .int 0), (5, .int (P 0 i.toNatClampNeg)), (4, .int i), (3, .int aft), (0, .ref pp)]) hx hb dX1_firstFault_104 rfl hl (by decide) rfl (fun ls hl => ?_)
                      refine lv_iconst (v := 0) hx hb dX1_firstFault_105 (by decide) ?_
                      refine lv_istore_n (lv' := [(3, .int 0), (2, .int 0), (1, .int 0), (5, .int (P 0 i.toNatClampNeg)), (4, .int i), (0, .ref pp)]) hx hb dX1_firstFault_106 rfl hl (by decide) rfl (fun ls hl => ?_)
                      refine lv_goto (tgt := 113) hx hb dX1_firstFault_107 (by decide) ?_
                      refine lv_iinc (v := i + 1) (lv' := [(4, .int (i + 1)), (3, .int 0), (2, .int 0), (1, .int 0), (5, .int (P 0 i.toNatClampNeg)), (0, .ref pp)]) hx hb dX1_firstFault_113 hl (k := 4) rfl rfl (by decide) rfl (fun ls hl => ?_)
                      refine lv_goto (tgt := 9) hx hb dX1_firstFault_116 (by decide) ?_
                      exact ih_9 (k_9 + 1) (i + 1) 0 0 0 _ _ _ (by omega) (by omega) (by rw [ex_9]; exact nI_1 k_9)  hP hD hS (lv_sub hl [0, 1, 2, 3, 5] rfl) (by rw [L_X1_firstFault_9, if_neg c_1, if_pos c_3, if_pos c_4, if_pos c_7, if_pos c_10, if_pos c_13, if_pos c_14, if_neg c_15] at hR_9; exact hR_9)
                · refine lv_iconst (v := 0) hx hb dX1_firstFault_81 (by decide) ?_
                  refine lv_istore_n (lv' := [(1, .int 0), (5, .int (P 0 i.toNatClampNeg)), (4, .int i), (3, .int aft), (2, .int dg), (0, .ref pp)]) hx hb dX1_firstFault_82 rfl hl (by decide) rfl (fun ls hl => ?_)
                  refine lv_iconst (v := 0) hx hb dX1_firstFault_83 (by decide) ?_
                  refine lv_istore_n (lv' := [(2, .int 0), (1, .int 0), (5, .int (P 0 i.toNatClampNeg)), (4, .int i), (3, .int aft), (0, .ref pp)]) hx hb dX1_firstFault_84 rfl hl (by decide) rfl (fun ls hl => ?_)
                  refine lv_iconst (v := 1) hx hb dX1_firstFault_85 (by decide) ?_
                  refine lv_istore_n (lv' := [(3, .int 1), (2, .int 0), (1, .int 0), (5, .int (P 0 i.toNatClampNeg)), (4, .int i), (0, .ref pp)]) hx hb dX1_firstFault_86 rfl hl (by decide) rfl (fun ls hl => ?_)
                  refine lv_goto (tgt := 113) hx hb dX1_firstFault_87 (by decide) ?_
                  refine lv_iinc (v := i + 1) (lv' := [(4, .int (i + 1)), (3, .int 1), (2, .int 0), (1, .int 0), (5, .int (P 0 i.toNatClampNeg)), (0, .ref pp)]) hx hb dX1_firstFault_113 hl (k := 4) rfl rfl (by decide) rfl (fun ls hl => ?_)
                  refine lv_goto (tgt := 9) hx hb dX1_firstFault_116 (by decide) ?_
                  exact ih_9 (k_9 + 1) (i + 1) 0 0 1 _ _ _ (by omega) (by omega) (by rw [ex_9]; exact nI_1 k_9)  hP hD hS (lv_sub hl [0, 1, 2, 3, 5] rfl) (by rw [L_X1_firstFault_9, if_neg c_1, if_pos c_3, if_pos c_4, if_pos c_7, if_pos c_10, if_neg c_13] at hR_9; exact hR_9)
        · refine lv_iload_n hx hb dX1_firstFault_35 rfl (lv_at hl 4 rfl) ?_
          refine lv_iload_n hx hb dX1_firstFault_36 rfl (lv_at hl 3 rfl) ?_
          refine ck_iD (wr := wP Y pp tx P) (ws' := wP Y pp tx P) (va_runS (As := [.int nu, .int dg]) (rest := []) ⟨hx, hb, hml, hown, hts⟩ (c_X1_canTakeDigit l D Y H.size nu dg) (va_cwS 2 hts gX1_firstFault_X1_canTakeDigit rfl rfl rfl (by decide +kernel) ⟨Nat.le_of_ble_eq_true rfl, Nat.le_of_ble_eq_true rfl⟩) (pst_S hK hP hD [] rfl (by decide)) rfl rfl hl.1 rfl (lv_room (Nat.le_of_ble_eq_true rfl)) dX1_firstFault_37 ⟨Nat.zero_le _, Nat.zero_le _⟩) hP hD hS hA [] [0, 1] [0, 1] rfl rfl (by decide) (by decide) rfl (by decide) (fun H locs hP hD hS => ?_)
          refine lv_if_eq (tgt := 60) hx hb dX1_firstFault_40 (by decide) (fun c_16 => ?_) (fun c_16 => ?_)
          · refine lv_iload hx hb dX1_firstFault_60 (lv_at hl 0 rfl) ?_
            refine lv_bipush (v := 42) hx hb dX1_firstFault_62 (by decide) ?_
            refine lv_icmp_ne (tgt := 90) hx hb dX1_firstFault_64 (by decide) (fun c_17 => ?_) (fun c_17 => ?_)
            · refine lv_iload hx hb dX1_firstFault_90 (lv_at hl 0 rfl) ?_
              refine lv_bipush (v := 44) hx hb dX1_firstFault_92 (by decide) ?_
              refine lv_icmp_ne (tgt := 110) hx hb dX1_firstFault_94 (by decide) (fun c_18 => ?_) (fun c_18 => ?_)
              · refine lv_iload hx hb dX1_firstFault_110 (lv_at hl 1 rfl) ?_
                have e9 : L_X1_firstFault_9 P (n_9 + 1) i nu dg aft = i := by rw [L_X1_firstFault_9, if_neg c_1, if_neg c_3, if_pos c_16, if_neg c_17, if_neg c_18]
                have e9 := hR_9.symm.trans e9
                exact ret_i hx hb hr hlk hP hD hS dX1_firstFault_112 ⟨Nat.zero_le _, Nat.zero_le _⟩ ⟨e9.symm, rfl⟩
              · refine lv_iload_n hx hb dX1_firstFault_97 rfl (lv_at hl 3 rfl) ?_
                refine lv_if_le (tgt := 110) hx hb dX1_firstFault_98 (by decide) (fun c_19 => ?_) (fun c_19 => ?_)
                · refine lv_iload hx hb dX1_firstFault_110 (lv_at hl 1 rfl) ?_
                  have e9 : L_X1_firstFault_9 P (n_9 + 1) i nu dg aft = i := by rw [L_X1_firstFault_9, if_neg c_1, if_neg c_3, if_pos c_16, if_neg c_17, if_pos c_18, if_pos c_19]
                  have e9 := hR_9.symm.trans e9
                  exact ret_i hx hb hr hlk hP hD hS dX1_firstFault_112 ⟨Nat.zero_le _, Nat.zero_le _⟩ ⟨e9.symm, rfl⟩
                · refine lv_iconst (v := 0) hx hb dX1_firstFault_101 (by decide) ?_
                  refine lv_istore_n (lv' := [(1, .int 0), (5, .int (P 0 i.toNatClampNeg)), (4, .int i), (3, .int aft), (2, .int dg), (0, .ref pp)]) hx hb dX1_firstFault_102 rfl hl (by decide) rfl (fun ls hl => ?_)
                  refine lv_iconst (v := 0) hx hb dX1_firstFault_103 (by decide) ?_
                  refine lv_istore_n (lv' := [(2, .int 0), (1, .int 0), (5, .int (P 0 i.toNatClampNeg)), (4, .int i), (3, .int aft), (0, .ref pp)]) hx hb dX1_firstFault_104 rfl hl (by decide) rfl (fun ls hl => ?_)
                  refine lv_iconst (v := 0) hx hb dX1_firstFault_105 (by decide) ?_
                  refine lv_istore_n (lv' := [(3, .int 0), (2, .int 0), (1, .int 0), (5, .int (P 0 i.toNatClampNeg)), (4, .int i), (0, .ref pp)]) hx hb dX1_firstFault_106 rfl hl (by decide) rfl (fun ls hl => ?_)
                  refine lv_goto (tgt := 113) hx hb dX1_firstFault_107 (by decide) ?_
                  refine lv_iinc (v := i + 1) (lv' := [(4, .int (i + 1)), (3, .int 0), (2, .int 0), (1, .int 0), (5, .int (P 0 i.toNatClampNeg)), (0, .ref pp)]) hx hb dX1_firstFault_113 hl (k := 4) rfl rfl (by decide) rfl (fun ls hl => ?_)
                  refine lv_goto (tgt := 9) hx hb dX1_firstFault_116 (by decide) ?_
                  exact ih_9 (k_9 + 1) (i + 1) 0 0 0 _ _ _ (by omega) (by omega) (by rw [ex_9]; exact nI_1 k_9)  hP hD hS (lv_sub hl [0, 1, 2, 3, 5] rfl) (by rw [L_X1_firstFault_9, if_neg c_1, if_neg c_3, if_pos c_16, if_neg c_17, if_pos c_18, if_neg c_19] at hR_9; exact hR_9)
            · refine lv_iload_n hx hb dX1_firstFault_67 rfl (lv_at hl 2 rfl) ?_
              refine lv_if_ne (tgt := 90) hx hb dX1_firstFault_68 (by decide) (fun c_20 => ?_) (fun c_20 => ?_)
              · refine lv_iload hx hb dX1_firstFault_90 (lv_at hl 0 rfl) ?_
                refine lv_bipush (v := 44) hx hb dX1_firstFault_92 (by decide) ?_
                refine lv_icmp_ne (tgt := 110) hx hb dX1_firstFault_94 (by decide) (fun c_21 => ?_) (fun c_21 => ?_)
                · refine lv_iload hx hb dX1_firstFault_110 (lv_at hl 1 rfl) ?_
                  have e9 : L_X1_firstFault_9 P (n_9 + 1) i nu dg aft = i := by rw [L_X1_firstFault_9, if_neg c_1, if_neg c_3, if_pos c_16, if_pos c_17, if_neg c_20, if_neg c_21]
                  have e9 := hR_9.symm.trans e9
                  exact ret_i hx hb hr hlk hP hD hS dX1_firstFault_112 ⟨Nat.zero_le _, Nat.zero_le _⟩ ⟨e9.symm, rfl⟩
                · refine lv_iload_n hx hb dX1_firstFault_97 rfl (lv_at hl 3 rfl) ?_
                  refine lv_if_le (tgt := 110) hx hb dX1_firstFault_98 (by decide) (fun c_22 => ?_) (fun c_22 => ?_)
                  · refine lv_iload hx hb dX1_firstFault_110 (lv_at hl 1 rfl) ?_
                    have e9 : L_X1_firstFault_9 P (n_9 + 1) i nu dg aft = i := by rw [L_X1_firstFault_9, if_neg c_1, if_neg c_3, if_pos c_16, if_pos c_17, if_neg c_20, if_pos c_21, if_pos c_22]
                    have e9 := hR_9.symm.trans e9
                    exact ret_i hx hb hr hlk hP hD hS dX1_firstFault_112 ⟨Nat.zero_le _, Nat.zero_le _⟩ ⟨e9.symm, rfl⟩
                  · refine lv_iconst (v := 0) hx hb dX1_firstFault_101 (by decide) ?_
                    refine lv_istore_n (lv' := [(1, .int 0), (5, .int (P 0 i.toNatClampNeg)), (4, .int i), (3, .int aft), (2, .int dg), (0, .ref pp)]) hx hb dX1_firstFault_102 rfl hl (by decide) rfl (fun ls hl => ?_)
                    refine lv_iconst (v := 0) hx hb dX1_firstFault_103 (by decide) ?_
                    refine lv_istore_n (lv' := [(2, .int 0), (1, .int 0), (5, .int (P 0 i.toNatClampNeg)), (4, .int i), (3, .int aft), (0, .ref pp)]) hx hb dX1_firstFault_104 rfl hl (by decide) rfl (fun ls hl => ?_)
                    refine lv_iconst (v := 0) hx hb dX1_firstFault_105 (by decide) ?_
                    refine lv_istore_n (lv' := [(3, .int 0), (2, .int 0), (1, .int 0), (5, .int (P 0 i.toNatClampNeg)), (4, .int i), (0, .ref pp)]) hx hb dX1_firstFault_106 rfl hl (by decide) rfl (fun ls hl => ?_)
                    refine lv_goto (tgt := 113) hx hb dX1_firstFault_107 (by decide) ?_
                    refine lv_iinc (v := i + 1) (lv' := [(4, .int (i + 1)), (3, .int 0), (2, .int 0), (1, .int 0), (5, .int (P 0 i.toNatClampNeg)), (0, .ref pp)]) hx hb dX1_firstFault_113 hl (k := 4) rfl rfl (by decide) rfl (fun ls hl => ?_)
                    refine lv_goto (tgt := 9) hx hb dX1_firstFault_116 (by decide) ?_
                    exact ih_9 (k_9 + 1) (i + 1) 0 0 0 _ _ _ (by omega) (by omega) (by rw [ex_9]; exact nI_1 k_9)  hP hD hS (lv_sub hl [0, 1, 2, 3, 5] rfl) (by rw [L_X1_firstFault_9, if_neg c_1, if_neg c_3, if_pos c_16, if_pos c_17, if_neg c_20, if_pos c_21, if_neg c_22] at hR_9; exact hR_9)
              · refine lv_iload_n hx hb dX1_firstFault_71 rfl (lv_at hl 3 rfl) ?_
                refine lv_iconst (v := 1) hx hb dX1_firstFault_72 (by decide) ?_
                refine lv_icmp_ne (tgt := 90) hx hb dX1_firstFault_73 (by decide) (fun c_23 => ?_) (fun c_23 => ?_)
                · refine lv_iload hx hb dX1_firstFault_90 (lv_at hl 0 rfl) ?_
                  refine lv_bipush (v := 44) hx hb dX1_firstFault_92 (by decide) ?_
                  refine lv_icmp_ne (tgt := 110) hx hb dX1_firstFault_94 (by decide) (fun c_24 => ?_) (fun c_24 => ?_)
                  · refine lv_iload hx hb dX1_firstFault_110 (lv_at hl 1 rfl) ?_
                    have e9 : L_X1_firstFault_9 P (n_9 + 1) i nu dg aft = i := by rw [L_X1_firstFault_9, if_neg c_1, if_neg c_3, if_pos c_16, if_pos c_17, if_pos c_20, if_neg c_23, if_neg c_24]
                    have e9 := hR_9.symm.trans e9
                    exact ret_i hx hb hr hlk hP hD hS dX1_firstFault_112 ⟨Nat.zero_le _, Nat.zero_le _⟩ ⟨e9.symm, rfl⟩
                  · refine lv_iload_n hx hb dX1_firstFault_97 rfl (lv_at hl 3 rfl) ?_
                    refine lv_if_le (tgt := 110) hx hb dX1_firstFault_98 (by decide) (fun c_25 => ?_) (fun c_25 => ?_)
                    · refine lv_iload hx hb dX1_firstFault_110 (lv_at hl 1 rfl) ?_
                      have e9 : L_X1_firstFault_9 P (n_9 + 1) i nu dg aft = i := by rw [L_X1_firstFault_9, if_neg c_1, if_neg c_3, if_pos c_16, if_pos c_17, if_pos c_20, if_neg c_23, if_pos c_24, if_pos c_25]
                      have e9 := hR_9.symm.trans e9
                      exact ret_i hx hb hr hlk hP hD hS dX1_firstFault_112 ⟨Nat.zero_le _, Nat.zero_le _⟩ ⟨e9.symm, rfl⟩
                    · refine lv_iconst (v := 0) hx hb dX1_firstFault_101 (by decide) ?_
                      refine lv_istore_n (lv' := [(1, .int 0), (5, .int (P 0 i.toNatClampNeg)), (4, .int i), (3, .int aft), (2, .int dg), (0, .ref pp)]) hx hb dX1_firstFault_102 rfl hl (by decide) rfl (fun ls hl => ?_)
                      refine lv_iconst (v := 0) hx hb dX1_firstFault_103 (by decide) ?_
                      refine lv_istore_n (lv' := [(2, .int 0), (1, .int 0), (5, .int (P 0 i.toNatClampNeg)), (4, .int i), (3, .int aft), (0, .ref pp)]) hx hb dX1_firstFault_104 rfl hl (by decide) rfl (fun ls hl => ?_)
                      refine lv_iconst (v := 0) hx hb dX1_firstFault_105 (by decide) ?_
                      refine lv_istore_n (lv' := [(3, .int 0), (2, .int 0), (1, .int 0), (5, .int (P 0 i.toNatClampNeg)), (4, .int i), (0, .ref pp)]) hx hb dX1_firstFault_106 rfl hl (by decide) rfl (fun ls hl => ?_)
                      refine lv_goto (tgt := 113) hx hb dX1_firstFault_107 (by decide) ?_
                      refine lv_iinc (v := i + 1) (lv' := [(4, .int (i + 1)), (3, .int 0), (2, .int 0), (1, .int 0), (5, .int (P 0 i.toNatClampNeg)), (0, .ref pp)]) hx hb dX1_firstFault_113 hl (k := 4) rfl rfl (by decide) rfl (fun ls hl => ?_)
                      refine lv_goto (tgt := 9) hx hb dX1_firstFault_116 (by decide) ?_
                      exact ih_9 (k_9 + 1) (i + 1) 0 0 0 _ _ _ (by omega) (by omega) (by rw [ex_9]; exact nI_1 k_9)  hP hD hS (lv_sub hl [0, 1, 2, 3, 5] rfl) (by rw [L_X1_firstFault_9, if_neg c_1, if_neg c_3, if_pos c_16, if_pos c_17, if_pos c_20, if_neg c_23, if_pos c_24, if_neg c_25] at hR_9; exact hR_9)
                · refine lv_iload_n hx hb dX1_firstFault_76 rfl (lv_at hl 4 rfl) ?_
                  refine lv_iconst (v := 2) hx hb dX1_firstFault_77 (by decide) ?_
                  refine lv_icmp_lt (tgt := 90) hx hb dX1_firstFault_78 (by decide) (fun c_26 => ?_) (fun c_26 => ?_)
                  · refine lv_iload hx hb dX1_firstFault_90 (lv_at hl 0 rfl) ?_
                    refine lv_bipush (v := 44) hx hb dX1_firstFault_92 (by decide) ?_
                    refine lv_icmp_ne (tgt := 110) hx hb dX1_firstFault_94 (by decide) (fun c_27 => ?_) (fun c_27 => ?_)
                    · refine lv_iload hx hb dX1_firstFault_110 (lv_at hl 1 rfl) ?_
                      have e9 : L_X1_firstFault_9 P (n_9 + 1) i nu dg aft = i := by rw [L_X1_firstFault_9, if_neg c_1, if_neg c_3, if_pos c_16, if_pos c_17, if_pos c_20, if_pos c_23, if_pos c_26, if_neg c_27]
                      have e9 := hR_9.symm.trans e9
                      exact ret_i hx hb hr hlk hP hD hS dX1_firstFault_112 ⟨Nat.zero_le _, Nat.zero_le _⟩ ⟨e9.symm, rfl⟩
                    · refine lv_iload_n hx hb dX1_firstFault_97 rfl (lv_at hl 3 rfl) ?_
                      refine lv_if_le (tgt := 110) hx hb dX1_firstFault_98 (by decide) (fun c_28 => ?_) (fun c_28 => ?_)
                      · refine lv_iload hx hb dX1_firstFault_110 (lv_at hl 1 rfl) ?_
                        have e9 : L_X1_firstFault_9 P (n_9 + 1) i nu dg aft = i := by rw [L_X1_firstFault_9, if_neg c_1, if_neg c_3, if_pos c_16, if_pos c_17, if_pos c_20, if_pos c_23, if_pos c_26, if_pos c_27, if_pos c_28]
                        have e9 := hR_9.symm.trans e9
                        exact ret_i hx hb hr hlk hP hD hS dX1_firstFault_112 ⟨Nat.zero_le _, Nat.zero_le _⟩ ⟨e9.symm, rfl⟩
                      · refine lv_iconst (v := 0) hx hb dX1_firstFault_101 (by decide) ?_
                        refine lv_istore_n (lv' := [(1, .int 0), (5, .int (P 0 i.toNatClampNeg)), (4, .int i), (3, .int aft), (2, .int dg), (0, .ref pp)]) hx hb dX1_firstFault_102 rfl hl (by decide) rfl (fun ls hl => ?_)
                        refine lv_iconst (v := 0) hx hb dX1_firstFault_103 (by decide) ?_
                        refine lv_istore_n (lv' := [(2, .int 0), (1, .int 0), (5, .int (P 0 i.toNatClampNeg)), (4, .int i), (3, .int aft), (0, .ref pp)]) hx hb dX1_firstFault_104 rfl hl (by decide) rfl (fun ls hl => ?_)
                        refine lv_iconst (v := 0) hx hb dX1_firstFault_105 (by decide) ?_
                        refine lv_istore_n (lv' := [(3, .int 0), (2, .int 0), (1, .int 0), (5, .int (P 0 i.toNatClampNeg)), (4, .int i), (0, .ref pp)]) hx hb dX1_firstFault_106 rfl hl (by decide) rfl (fun ls hl => ?_)
                        refine lv_goto (tgt := 113) hx hb dX1_firstFault_107 (by decide) ?_
                        refine lv_iinc (v := i + 1) (lv' := [(4, .int (i + 1)), (3, .int 0), (2, .int 0), (1, .int 0), (5, .int (P 0 i.toNatClampNeg)), (0, .ref pp)]) hx hb dX1_firstFault_113 hl (k := 4) rfl rfl (by decide) rfl (fun ls hl => ?_)
                        refine lv_goto (tgt := 9) hx hb dX1_firstFault_116 (by decide) ?_
                        exact ih_9 (k_9 + 1) (i + 1) 0 0 0 _ _ _ (by omega) (by omega) (by rw [ex_9]; exact nI_1 k_9)  hP hD hS (lv_sub hl [0, 1, 2, 3, 5] rfl) (by rw [L_X1_firstFault_9, if_neg c_1, if_neg c_3, if_pos c_16, if_pos c_17, if_pos c_20, if_pos c_23, if_pos c_26, if_pos c_27, if_neg c_28] at hR_9; exact hR_9)
                  · refine lv_iconst (v := 0) hx hb dX1_firstFault_81 (by decide) ?_
                    refine lv_istore_n (lv' := [(1, .int 0), (5, .int (P 0 i.toNatClampNeg)), (4, .int i), (3, .int aft), (2, .int dg), (0, .ref pp)]) hx hb dX1_firstFault_82 rfl hl (by decide) rfl (fun ls hl => ?_)
                    refine lv_iconst (v := 0) hx hb dX1_firstFault_83 (by decide) ?_
                    refine lv_istore_n (lv' := [(2, .int 0), (1, .int 0), (5, .int (P 0 i.toNatClampNeg)), (4, .int i), (3, .int aft), (0, .ref pp)]) hx hb dX1_firstFault_84 rfl hl (by decide) rfl (fun ls hl => ?_)
                    refine lv_iconst (v := 1) hx hb dX1_firstFault_85 (by decide) ?_
                    refine lv_istore_n (lv' := [(3, .int 1), (2, .int 0), (1, .int 0), (5, .int (P 0 i.toNatClampNeg)), (4, .int i), (0, .ref pp)]) hx hb dX1_firstFault_86 rfl hl (by decide) rfl (fun ls hl => ?_)
                    refine lv_goto (tgt := 113) hx hb dX1_firstFault_87 (by decide) ?_
                    refine lv_iinc (v := i + 1) (lv' := [(4, .int (i + 1)), (3, .int 1), (2, .int 0), (1, .int 0), (5, .int (P 0 i.toNatClampNeg)), (0, .ref pp)]) hx hb dX1_firstFault_113 hl (k := 4) rfl rfl (by decide) rfl (fun ls hl => ?_)
                    refine lv_goto (tgt := 9) hx hb dX1_firstFault_116 (by decide) ?_
                    exact ih_9 (k_9 + 1) (i + 1) 0 0 1 _ _ _ (by omega) (by omega) (by rw [ex_9]; exact nI_1 k_9)  hP hD hS (lv_sub hl [0, 1, 2, 3, 5] rfl) (by rw [L_X1_firstFault_9, if_neg c_1, if_neg c_3, if_pos c_16, if_pos c_17, if_pos c_20, if_pos c_23, if_neg c_26] at hR_9; exact hR_9)
          · refine lv_bipush (v := 10) hx hb dX1_firstFault_43 (by decide) ?_
            refine lv_iload_n hx hb dX1_firstFault_45 rfl (lv_at hl 4 rfl) ?_
            refine lv_imul hx hb dX1_firstFault_46 ?_
            refine lv_iload hx hb dX1_firstFault_47 (lv_at hl 0 rfl) ?_
            refine lv_bipush (v := 48) hx hb dX1_firstFault_49 (by decide) ?_
            refine lv_isub hx hb dX1_firstFault_51 ?_
            refine lv_iadd hx hb dX1_firstFault_52 ?_
            refine lv_istore_n (lv' := [(1, .int ((10 * nu) + ((P 0 i.toNatClampNeg) - 48))), (5, .int (P 0 i.toNatClampNeg)), (4, .int i), (3, .int aft), (2, .int dg), (0, .ref pp)]) hx hb dX1_firstFault_53 rfl hl (by decide) rfl (fun ls hl => ?_)
            refine lv_iinc (v := dg + 1) (lv' := [(2, .int (dg + 1)), (1, .int ((10 * nu) + ((P 0 i.toNatClampNeg) - 48))), (5, .int (P 0 i.toNatClampNeg)), (4, .int i), (3, .int aft), (0, .ref pp)]) hx hb dX1_firstFault_54 hl (k := 4) rfl rfl (by decide) rfl (fun ls hl => ?_)
            refine lv_goto (tgt := 113) hx hb dX1_firstFault_57 (by decide) ?_
            refine lv_iinc (v := i + 1) (lv' := [(4, .int (i + 1)), (2, .int (dg + 1)), (1, .int ((10 * nu) + ((P 0 i.toNatClampNeg) - 48))), (5, .int (P 0 i.toNatClampNeg)), (3, .int aft), (0, .ref pp)]) hx hb dX1_firstFault_113 hl (k := 3) rfl rfl (by decide) rfl (fun ls hl => ?_)
            refine lv_goto (tgt := 9) hx hb dX1_firstFault_116 (by decide) ?_
            exact ih_9 (k_9 + 1) (i + 1) ((10 * nu) + ((P 0 i.toNatClampNeg) - 48)) (dg + 1) aft _ _ _ (by omega) (by omega) (by rw [ex_9]; exact nI_1 k_9)  hP hD hS (lv_sub hl [0, 4, 1, 2, 5] rfl) (by rw [L_X1_firstFault_9, if_neg c_1, if_neg c_3, if_neg c_16] at hR_9; exact hR_9)
  exact loop_9 61 0 0 0 0 0 _ _ _ (by omega) (Nat.zero_le _) nI_0.symm  hP hD hS (lv_sub hl [0, 1, 2, 3, 4] rfl) (by rw [D_X1_firstFault])
def D_X1_startsCall (P : Nat → Nat → Int32) (v : Int32) : (Int32) := if v = 0 then 1 else (if (P 0 (v - 1).toNatClampNeg) = 44 then 1 else 0)
set_option maxRecDepth 100000 in
theorem in_X1_startsCall_RX1 : ∀ w ∈ u_ws RX1 TX1 2, w ∈ wsX1_startsCall := by decide +kernel
set_option maxHeartbeats 4000000 in
set_option maxRecDepth 100000 in
theorem c_X1_startsCall (l : Launch) (D : va_G) (Y : YY) (sz : Nat) (tx : Nat) (len : Nat) (P : Nat → Nat → Int32) (pp : Nat) (v : Int32) (hlen : P 1 0 = nI len) (hL : len ≤ 60) (hv : vp_in v 60) : Met l yX1_startsCall wsX1_startsCall ({ frames := 0, cells := 0, slots := 0, locals := 0 } : Room) (va_Pc [.ref pp, .int v] (Pst D Y sz (wP Y pp tx P))) ((fun A : Nat → Prop => Qsi D (fun r9 w9 => r9 = D_X1_startsCall P v ∧ w9 = wP Y pp tx P) A) (va_A (wP Y pp tx P) sz)) 0 0 (va_A (wP Y pp tx P) sz) := by
  refine ct_in (cc := cX1_startsCall) (maxL := 2) (ret := (some .boolean)) (Qc := fun A : Nat → Prop => Qsi D (fun r9 w9 => r9 = D_X1_startsCall P v ∧ w9 = wP Y pp tx P) A) (by decide +kernel) rfl (Nat.le_of_ble_eq_true rfl) ?_
  intro p e s m below meth c A ls hx hb hr hts hown hml hlk hin hsz hA hP hD hK hS hl
  have hown : s.vm.findClass RX1 = some m.cls := hown
  have hl : lv_has ls 2 [(0, .ref pp), (1, .int v)] := hl
  show W p l e ({ frames := 0, cells := 0, slots := 0, locals := 0 } : Room) s m ([.ref pp, .int v] : List Value).toArray below meth c s.heap [] 0 0 (MQ below (Qsi D (fun r9 w9 => r9 = D_X1_startsCall P v ∧ w9 = wP Y pp tx P) A) ([.ref pp, .int v] : List Value).toArray s 0 0 A) (F0 m 0 ls [])
  refine lv_iload_n hx hb dX1_startsCall_0 rfl (lv_at hl 1 rfl) ?_
  refine lv_if_eq (tgt := 17) hx hb dX1_startsCall_1 (by decide) (fun c_1 => ?_) (fun c_1 => ?_)
  · refine lv_iconst (v := 1) hx hb dX1_startsCall_17 (by decide) ?_
    refine lv_goto (tgt := 22) hx hb dX1_startsCall_18 (by decide) ?_
    have e9 : D_X1_startsCall P v = 1 := by rw [D_X1_startsCall, if_pos c_1]
    exact ret_z hx hb hr rfl hlk hP hD hS dX1_startsCall_22 ⟨Nat.zero_le _, Nat.zero_le _⟩ ⟨e9.symm, rfl⟩
  · refine lv_aload_n hx hb dX1_startsCall_4 rfl (lv_at hl 0 rfl) ?_
    refine va_get (D := D) (ci := 1) (v := .ref tx) (C := RX1) (T := TX1) (N := 2) hx hb hts in_X1_startsCall_RX1 hown hK.1 hP 0 rfl rfl 0 (by decide) (hts (.fieldLink RX1 9 "NineDancers$Pad" "text" "[C") (by decide +kernel)) (fun _ h9 => h9) rfl dX1_startsCall_5 ?_
    refine lv_iload_n hx hb dX1_startsCall_8 rfl (lv_at hl 1 rfl) ?_
    refine lv_iconst (v := 1) hx hb dX1_startsCall_9 (by decide) ?_
    refine lv_isub hx hb dX1_startsCall_10 ?_
    refine va_cald (D := D) hx hb hK.1 hP 1 1 rfl rfl (my_pred hv c_1) dX1_startsCall_11 ?_
    refine lv_bipush (v := 44) hx hb dX1_startsCall_12 (by decide) ?_
    refine lv_icmp_ne (tgt := 21) hx hb dX1_startsCall_14 (by decide) (fun c_2 => ?_) (fun c_2 => ?_)
    · refine lv_iconst (v := 0) hx hb dX1_startsCall_21 (by decide) ?_
      have e9 : D_X1_startsCall P v = 0 := by rw [D_X1_startsCall, if_neg c_1, if_neg c_2]
      exact ret_z hx hb hr rfl hlk hP hD hS dX1_startsCall_22 ⟨Nat.zero_le _, Nat.zero_le _⟩ ⟨e9.symm, rfl⟩
    · refine lv_iconst (v := 1) hx hb dX1_startsCall_17 (by decide) ?_
      refine lv_goto (tgt := 22) hx hb dX1_startsCall_18 (by decide) ?_
      have e9 : D_X1_startsCall P v = 1 := by rw [D_X1_startsCall, if_neg c_1, if_pos c_2]
      exact ret_z hx hb hr rfl hlk hP hD hS dX1_startsCall_22 ⟨Nat.zero_le _, Nat.zero_le _⟩ ⟨e9.symm, rfl⟩
theorem z_X1_startsCall (P : Nat → Nat → Int32) (v : Int32) : D_X1_startsCall P v = 0 ∨ D_X1_startsCall P v = 1 := by unfold D_X1_startsCall; (repeat' split) <;> simp
def D_X1_hasTimes (P : Nat → Nat → Int32) (v : Int32) : (Int32) := if (P 1 0) ≤ (v + 1) then 0 else (if (P 0 (v + 1).toNatClampNeg) = 42 then 1 else 0)
set_option maxRecDepth 100000 in
theorem in_X1_hasTimes_RX1 : ∀ w ∈ u_ws RX1 TX1 2, w ∈ wsX1_hasTimes := by decide +kernel
set_option maxHeartbeats 4000000 in
set_option maxRecDepth 100000 in
theorem c_X1_hasTimes (l : Launch) (D : va_G) (Y : YY) (sz : Nat) (tx : Nat) (len : Nat) (P : Nat → Nat → Int32) (pp : Nat) (v : Int32) (hlen : P 1 0 = nI len) (hL : len ≤ 60) (hv : vp_in v 60) : Met l yX1_hasTimes wsX1_hasTimes ({ frames := 0, cells := 0, slots := 0, locals := 0 } : Room) (va_Pc [.ref pp, .int v] (Pst D Y sz (wP Y pp tx P))) ((fun A : Nat → Prop => Qsi D (fun r9 w9 => r9 = D_X1_hasTimes P v ∧ w9 = wP Y pp tx P) A) (va_A (wP Y pp tx P) sz)) 0 0 (va_A (wP Y pp tx P) sz) := by
  refine ct_in (cc := cX1_hasTimes) (maxL := 2) (ret := (some .boolean)) (Qc := fun A : Nat → Prop => Qsi D (fun r9 w9 => r9 = D_X1_hasTimes P v ∧ w9 = wP Y pp tx P) A) (by decide +kernel) rfl (Nat.le_of_ble_eq_true rfl) ?_
  intro p e s m below meth c A ls hx hb hr hts hown hml hlk hin hsz hA hP hD hK hS hl
  have hown : s.vm.findClass RX1 = some m.cls := hown
  have hl : lv_has ls 2 [(0, .ref pp), (1, .int v)] := hl
  show W p l e ({ frames := 0, cells := 0, slots := 0, locals := 0 } : Room) s m ([.ref pp, .int v] : List Value).toArray below meth c s.heap [] 0 0 (MQ below (Qsi D (fun r9 w9 => r9 = D_X1_hasTimes P v ∧ w9 = wP Y pp tx P) A) ([.ref pp, .int v] : List Value).toArray s 0 0 A) (F0 m 0 ls [])
  refine lv_iload_n hx hb dX1_hasTimes_0 rfl (lv_at hl 1 rfl) ?_
  refine lv_iconst (v := 1) hx hb dX1_hasTimes_1 (by decide) ?_
  refine lv_iadd hx hb dX1_hasTimes_2 ?_
  refine lv_aload_n hx hb dX1_hasTimes_3 rfl (lv_at hl 0 rfl) ?_
  refine va_get (D := D) (ci := 1) (v := .int (P 1 0)) (C := RX1) (T := TX1) (N := 2) hx hb hts in_X1_hasTimes_RX1 hown hK.1 hP 0 rfl rfl 1 (by decide) (hts (.fieldLink RX1 15 "NineDancers$Pad" "length" "I") (by decide +kernel)) (fun _ h9 => h9) rfl dX1_hasTimes_4 ?_
  refine lv_icmp_ge (tgt := 27) hx hb dX1_hasTimes_7 (by decide) (fun c_1 => ?_) (fun c_1 => ?_)
  · refine lv_iconst (v := 0) hx hb dX1_hasTimes_27 (by decide) ?_
    have e9 : D_X1_hasTimes P v = 0 := by rw [D_X1_hasTimes, if_pos c_1]
    exact ret_z hx hb hr rfl hlk hP hD hS dX1_hasTimes_28 ⟨Nat.zero_le _, Nat.zero_le _⟩ ⟨e9.symm, rfl⟩
  · refine lv_aload_n hx hb dX1_hasTimes_10 rfl (lv_at hl 0 rfl) ?_
    refine va_get (D := D) (ci := 1) (v := .ref tx) (C := RX1) (T := TX1) (N := 2) hx hb hts in_X1_hasTimes_RX1 hown hK.1 hP 0 rfl rfl 0 (by decide) (hts (.fieldLink RX1 9 "NineDancers$Pad" "text" "[C") (by decide +kernel)) (fun _ h9 => h9) rfl dX1_hasTimes_11 ?_
    refine lv_iload_n hx hb dX1_hasTimes_14 rfl (lv_at hl 1 rfl) ?_
    refine lv_iconst (v := 1) hx hb dX1_hasTimes_15 (by decide) ?_
    refine lv_iadd hx hb dX1_hasTimes_16 ?_
    refine va_cald (D := D) hx hb hK.1 hP 1 1 rfl rfl (my_succ hv hlen hL c_1) dX1_hasTimes_17 ?_
    refine lv_bipush (v := 42) hx hb dX1_hasTimes_18 (by decide) ?_
    refine lv_icmp_ne (tgt := 27) hx hb dX1_hasTimes_20 (by decide) (fun c_2 => ?_) (fun c_2 => ?_)
    · refine lv_iconst (v := 0) hx hb dX1_hasTimes_27 (by decide) ?_
      have e9 : D_X1_hasTimes P v = 0 := by rw [D_X1_hasTimes, if_neg c_1, if_neg c_2]
      exact ret_z hx hb hr rfl hlk hP hD hS dX1_hasTimes_28 ⟨Nat.zero_le _, Nat.zero_le _⟩ ⟨e9.symm, rfl⟩
    · refine lv_iconst (v := 1) hx hb dX1_hasTimes_23 (by decide) ?_
      refine lv_goto (tgt := 28) hx hb dX1_hasTimes_24 (by decide) ?_
      have e9 : D_X1_hasTimes P v = 1 := by rw [D_X1_hasTimes, if_neg c_1, if_pos c_2]
      exact ret_z hx hb hr rfl hlk hP hD hS dX1_hasTimes_28 ⟨Nat.zero_le _, Nat.zero_le _⟩ ⟨e9.symm, rfl⟩
theorem z_X1_hasTimes (P : Nat → Nat → Int32) (v : Int32) : D_X1_hasTimes P v = 0 ∨ D_X1_hasTimes P v = 1 := by unfold D_X1_hasTimes; (repeat' split) <;> simp
def D_X1_timesAt (P : Nat → Nat → Int32) (v : Int32) : (Int32) := if (D_X1_hasTimes P v) = 0 then 1 else (P 0 v.toNatClampNeg) - 48
set_option maxRecDepth 100000 in
theorem in_X1_timesAt_RX1 : ∀ w ∈ u_ws RX1 TX1 2, w ∈ wsX1_timesAt := by decide +kernel
set_option maxHeartbeats 4000000 in
set_option maxRecDepth 100000 in
theorem c_X1_timesAt (l : Launch) (D : va_G) (Y : YY) (sz : Nat) (tx : Nat) (len : Nat) (P : Nat → Nat → Int32) (pp : Nat) (v : Int32) (hlen : P 1 0 = nI len) (hL : len ≤ 60) (hv : vp_in v 60) : Met l yX1_timesAt wsX1_timesAt ({ frames := 1, cells := 0, slots := 0, locals := 21 } : Room) (va_Pc [.ref pp, .int v] (Pst D Y sz (wP Y pp tx P))) ((fun A : Nat → Prop => Qsi D (fun r9 w9 => r9 = D_X1_timesAt P v ∧ w9 = wP Y pp tx P) A) (va_A (wP Y pp tx P) sz)) 0 0 (va_A (wP Y pp tx P) sz) := by
  refine ct_in (cc := cX1_timesAt) (maxL := 2) (ret := (some .int)) (Qc := fun A : Nat → Prop => Qsi D (fun r9 w9 => r9 = D_X1_timesAt P v ∧ w9 = wP Y pp tx P) A) (by decide +kernel) rfl (Nat.le_of_ble_eq_true rfl) ?_
  intro p e s m below meth c A ls hx hb hr hts hown hml hlk hin hsz hA hP hD hK hS hl
  have hown : s.vm.findClass RX1 = some m.cls := hown
  have hl : lv_has ls 2 [(0, .ref pp), (1, .int v)] := hl
  show W p l e ({ frames := 1, cells := 0, slots := 0, locals := 21 } : Room) s m ([.ref pp, .int v] : List Value).toArray below meth c s.heap [] 0 0 (MQ below (Qsi D (fun r9 w9 => r9 = D_X1_timesAt P v ∧ w9 = wP Y pp tx P) A) ([.ref pp, .int v] : List Value).toArray s 0 0 A) (F0 m 0 ls [])
  refine lv_aload_n hx hb dX1_timesAt_0 rfl (lv_at hl 0 rfl) ?_
  refine lv_iload_n hx hb dX1_timesAt_1 rfl (lv_at hl 1 rfl) ?_
  refine ck_iD (wr := ([] : va_W)) (ws' := wP Y pp tx P) (va_runV (As := [.int v]) (rest := []) ⟨hx, hb, hml, hown, hts⟩ (c_X1_hasTimes l D Y s.heap.size tx len P pp v hlen hL hv) (cwV 1 hts gX1_timesAt_X1_hasTimes rfl rfl rfl (by decide +kernel) ⟨Nat.le_of_ble_eq_true rfl, Nat.le_of_ble_eq_true rfl⟩) (pst_V hK hP hD [0, 1] rfl (by decide) (q0 := 0) rfl rfl) rfl rfl hl.1 rfl (lv_room (Nat.le_of_ble_eq_true rfl)) dX1_timesAt_2 ⟨Nat.zero_le _, Nat.zero_le _⟩) hP hD hS hA [0, 1] [] [0, 1] rfl rfl (by decide) (by decide) rfl (by decide) (fun H locs hP hD hS => ?_)
  refine lv_if_eq (tgt := 20) hx hb dX1_timesAt_5 (by decide) (fun c_1 => ?_) (fun c_1 => ?_)
  · refine lv_iconst (v := 1) hx hb dX1_timesAt_20 (by decide) ?_
    have e9 : D_X1_timesAt P v = 1 := by rw [D_X1_timesAt, if_pos c_1]
    exact ret_i hx hb hr hlk hP hD hS dX1_timesAt_21 ⟨Nat.zero_le _, Nat.zero_le _⟩ ⟨e9.symm, rfl⟩
  · refine lv_aload_n hx hb dX1_timesAt_8 rfl (lv_at hl 0 rfl) ?_
    refine va_get (D := D) (ci := 1) (v := .ref tx) (C := RX1) (T := TX1) (N := 2) hx hb hts in_X1_timesAt_RX1 hown hK.1 hP 0 rfl rfl 0 (by decide) (hts (.fieldLink RX1 9 "NineDancers$Pad" "text" "[C") (by decide +kernel)) (fun _ h9 => h9) rfl dX1_timesAt_9 ?_
    refine lv_iload_n hx hb dX1_timesAt_12 rfl (lv_at hl 1 rfl) ?_
    refine va_cald (D := D) hx hb hK.1 hP 1 1 rfl rfl hv dX1_timesAt_13 ?_
    refine lv_bipush (v := 48) hx hb dX1_timesAt_14 (by decide) ?_
    refine lv_isub hx hb dX1_timesAt_16 ?_
    refine lv_goto (tgt := 21) hx hb dX1_timesAt_17 (by decide) ?_
    have e9 : D_X1_timesAt P v = (P 0 v.toNatClampNeg) - 48 := by rw [D_X1_timesAt, if_neg c_1]
    exact ret_i hx hb hr hlk hP hD hS dX1_timesAt_21 ⟨Nat.zero_le _, Nat.zero_le _⟩ ⟨e9.symm, rfl⟩
theorem ta1 {P : Nat → Nat → Int32} {v : Int32} (h : D_X1_hasTimes P v = 0) : D_X1_timesAt P v = 1 := by unfold D_X1_timesAt; rw [if_pos h]
def L_X1_roundsInAll_4 (P : Nat → Nat → Int32) : Nat → (Int32) → (Int32) → (Int32)
  | 0, i, u => u
  | n_4 + 1, i, u => if (P 1 0) ≤ i then u else (if (D_X1_startsCall P i) = 0 then (L_X1_roundsInAll_4 P n_4 (i + 1) u) else (L_X1_roundsInAll_4 P n_4 (i + 1) (u + (D_X1_timesAt P i))))
def D_X1_roundsInAll (P : Nat → Nat → Int32)  : (Int32) := (L_X1_roundsInAll_4 P 61 0 0)
set_option maxRecDepth 100000 in
theorem in_X1_roundsInAll_RX1 : ∀ w ∈ u_ws RX1 TX1 2, w ∈ wsX1_roundsInAll := by decide +kernel
set_option maxHeartbeats 4000000 in
set_option maxRecDepth 100000 in
theorem c_X1_roundsInAll (l : Launch) (D : va_G) (Y : YY) (sz : Nat) (tx : Nat) (len : Nat) (P : Nat → Nat → Int32) (pp : Nat) (hlen : P 1 0 = nI len) (hL : len ≤ 60) : Met l yX1_roundsInAll wsX1_roundsInAll ({ frames := 2, cells := 0, slots := 0, locals := 42 } : Room) (va_Pc [.ref pp] (Pst D Y sz (wP Y pp tx P))) ((fun A : Nat → Prop => Qsi D (fun r9 w9 => r9 = D_X1_roundsInAll P ∧ w9 = wP Y pp tx P) A) (va_A (wP Y pp tx P) sz)) 0 0 (va_A (wP Y pp tx P) sz) := by
  refine ct_in (cc := cX1_roundsInAll) (maxL := 3) (ret := (some .int)) (Qc := fun A : Nat → Prop => Qsi D (fun r9 w9 => r9 = D_X1_roundsInAll P ∧ w9 = wP Y pp tx P) A) (by decide +kernel) rfl (Nat.le_of_ble_eq_true rfl) ?_
  intro p e s m below meth c A ls hx hb hr hts hown hml hlk hin hsz hA hP hD hK hS hl
  have hown : s.vm.findClass RX1 = some m.cls := hown
  have hl : lv_has ls 3 [(0, .ref pp)] := hl
  show W p l e ({ frames := 2, cells := 0, slots := 0, locals := 42 } : Room) s m ([.ref pp] : List Value).toArray below meth c s.heap [] 0 0 (MQ below (Qsi D (fun r9 w9 => r9 = D_X1_roundsInAll P ∧ w9 = wP Y pp tx P) A) ([.ref pp] : List Value).toArray s 0 0 A) (F0 m 0 ls [])
  refine lv_iconst (v := 0) hx hb dX1_roundsInAll_0 (by decide) ?_
  refine lv_istore_n (lv' := [(1, .int 0), (0, .ref pp)]) hx hb dX1_roundsInAll_1 rfl hl (by decide) rfl (fun ls hl => ?_)
  refine lv_iconst (v := 0) hx hb dX1_roundsInAll_2 (by decide) ?_
  refine lv_istore_n (lv' := [(2, .int 0), (1, .int 0), (0, .ref pp)]) hx hb dX1_roundsInAll_3 rfl hl (by decide) rfl (fun ls hl => ?_)
  have loop_4 : ∀ (n_4 k_4 : Nat) (i : Int32) (u : Int32) (H : Heap) (locs : List Loc) (ls : Array Slot), len + 1 ≤ k_4 + n_4 → k_4 ≤ len → i = nI k_4 → va_P D vwCl (wP Y pp tx P) H → va_D A (wP Y pp tx P) → va_S A s.heap H locs → lv_has ls 3 [(2, .int i), (1, .int u), (0, .ref pp)] → L_X1_roundsInAll_4 P n_4 i u = L_X1_roundsInAll_4 P 61 0 0 → W p l e ({ frames := 2, cells := 0, slots := 0, locals := 42 } : Room) s m ([.ref pp] : List Value).toArray below meth c H locs 0 0 (MQ below (Qsi D (fun r9 w9 => r9 = D_X1_roundsInAll P ∧ w9 = wP Y pp tx P) A) ([.ref pp] : List Value).toArray s 0 0 A) (F0 m 4 ls []) := by
    intro n_4
    induction n_4 with
    | zero => intro k_4 i u H locs ls hkf hkN_4 ex_4 hP hD hS hl hR_4; exact absurd hkf (by omega)
    | succ n_4 ih_4 =>
      intro k_4 i u H locs ls hkf hkN_4 ex_4 hP hD hS hl hR_4
      refine lv_iload_n hx hb dX1_roundsInAll_4 rfl (lv_at hl 0 rfl) ?_
      refine lv_aload_n hx hb dX1_roundsInAll_5 rfl (lv_at hl 2 rfl) ?_
      refine va_get (D := D) (ci := 1) (v := .int (P 1 0)) (C := RX1) (T := TX1) (N := 2) hx hb hts in_X1_roundsInAll_RX1 hown hK.1 hP 0 rfl rfl 1 (by decide) (hts (.fieldLink RX1 15 "NineDancers$Pad" "length" "I") (by decide +kernel)) (fun _ h9 => h9) rfl dX1_roundsInAll_6 ?_
      refine lv_icmp_ge (tgt := 34) hx hb dX1_roundsInAll_9 (by decide) (fun c_1 => ?_) (fun c_1 => ?_)
      · have e8 : L_X1_roundsInAll_4 P (n_4 + 1) i u = u := by rw [L_X1_roundsInAll_4, if_pos c_1]
        have e8 := hR_4.symm.trans e8
        have eu : L_X1_roundsInAll_4 P 61 0 0 = u := by rw [e8]
        clear e8 hR_4 ih_4
        refine lv_iload_n hx hb dX1_roundsInAll_34 rfl (lv_at hl 1 rfl) ?_
        subst eu
        have e9 : D_X1_roundsInAll P = (L_X1_roundsInAll_4 P 61 0 0) := by rw [D_X1_roundsInAll]
        exact ret_i hx hb hr hlk hP hD hS dX1_roundsInAll_35 ⟨Nat.zero_le _, Nat.zero_le _⟩ ⟨e9.symm, rfl⟩
      · have hk_4 := my_lt ex_4 (show (P 1 0 : Int32) = nI len from hlen) (by omega) hkN_4 c_1
        refine lv_aload_n hx hb dX1_roundsInAll_12 rfl (lv_at hl 2 rfl) ?_
        refine lv_iload_n hx hb dX1_roundsInAll_13 rfl (lv_at hl 0 rfl) ?_
        refine ck_iD (wr := ([] : va_W)) (ws' := wP Y pp tx P) (va_runV (As := [.int i]) (rest := []) ⟨hx, hb, hml, hown, hts⟩ (c_X1_startsCall l D Y H.size tx len P pp i hlen hL (show vp_in i 60 from by rw [ex_4]; exact vp_in_nI (by omega) (by decide))) (cwV 1 hts gX1_roundsInAll_X1_startsCall rfl rfl rfl (by decide +kernel) ⟨Nat.le_of_ble_eq_true rfl, Nat.le_of_ble_eq_true rfl⟩) (pst_V hK hP hD [0, 1] rfl (by decide) (q0 := 0) rfl rfl) rfl rfl hl.1 rfl (lv_room (Nat.le_of_ble_eq_true rfl)) dX1_roundsInAll_14 ⟨Nat.zero_le _, Nat.zero_le _⟩) hP hD hS hA [0, 1] [] [0, 1] rfl rfl (by decide) (by decide) rfl (by decide) (fun H locs hP hD hS => ?_)
        refine lv_if_eq (tgt := 28) hx hb dX1_roundsInAll_17 (by decide) (fun c_2 => ?_) (fun c_2 => ?_)
        · refine lv_iinc (v := i + 1) (lv' := [(2, .int (i + 1)), (1, .int u), (0, .ref pp)]) hx hb dX1_roundsInAll_28 hl (k := 0) rfl rfl (by decide) rfl (fun ls hl => ?_)
          refine lv_goto (tgt := 4) hx hb dX1_roundsInAll_31 (by decide) ?_
          exact ih_4 (k_4 + 1) (i + 1) u _ _ _ (by omega) (by omega) (by rw [ex_4]; exact nI_1 k_4)  hP hD hS (lv_sub hl [0, 1, 2] rfl) (by rw [L_X1_roundsInAll_4, if_neg c_1, if_pos c_2] at hR_4; exact hR_4)
        · refine lv_iload_n hx hb dX1_roundsInAll_20 rfl (lv_at hl 1 rfl) ?_
          refine lv_aload_n hx hb dX1_roundsInAll_21 rfl (lv_at hl 2 rfl) ?_
          refine lv_iload_n hx hb dX1_roundsInAll_22 rfl (lv_at hl 0 rfl) ?_
          refine ck_iD (wr := ([] : va_W)) (ws' := wP Y pp tx P) (va_runV (As := [.int i]) (rest := [.int u]) ⟨hx, hb, hml, hown, hts⟩ (c_X1_timesAt l D Y H.size tx len P pp i hlen hL (show vp_in i 60 from by rw [ex_4]; exact vp_in_nI (by omega) (by decide))) (cwV 1 hts gX1_roundsInAll_X1_timesAt rfl rfl rfl (by decide +kernel) ⟨Nat.le_of_ble_eq_true rfl, Nat.le_of_ble_eq_true rfl⟩) (pst_V hK hP hD [0, 1] rfl (by decide) (q0 := 0) rfl rfl) rfl rfl hl.1 rfl (lv_room (Nat.le_of_ble_eq_true rfl)) dX1_roundsInAll_23 ⟨Nat.zero_le _, Nat.zero_le _⟩) hP hD hS hA [0, 1] [] [0, 1] rfl rfl (by decide) (by decide) rfl (by decide) (fun H locs hP hD hS => ?_)
          refine lv_iadd hx hb dX1_roundsInAll_26 ?_
          refine lv_istore_n (lv' := [(1, .int (u + (D_X1_timesAt P i))), (2, .int i), (0, .ref pp)]) hx hb dX1_roundsInAll_27 rfl hl (by decide) rfl (fun ls hl => ?_)
          refine lv_iinc (v := i + 1) (lv' := [(2, .int (i + 1)), (1, .int (u + (D_X1_timesAt P i))), (0, .ref pp)]) hx hb dX1_roundsInAll_28 hl (k := 1) rfl rfl (by decide) rfl (fun ls hl => ?_)
          refine lv_goto (tgt := 4) hx hb dX1_roundsInAll_31 (by decide) ?_
          exact ih_4 (k_4 + 1) (i + 1) (u + (D_X1_timesAt P i)) _ _ _ (by omega) (by omega) (by rw [ex_4]; exact nI_1 k_4)  hP hD hS (lv_sub hl [0, 1, 2] rfl) (by rw [L_X1_roundsInAll_4, if_neg c_1, if_neg c_2] at hR_4; exact hR_4)
  exact loop_4 61 0 0 0 _ _ _ (by omega) (Nat.zero_le _) nI_0.symm  hP hD hS (lv_sub hl [0, 1, 2] rfl) rfl
def L_X1_numberAt_21 (P : Nat → Nat → Int32) (v : Int32) : Nat → (Int32) → (Int32) → (Int32)
  | 0, i, nu => nu
  | n_21 + 1, i, nu => if (P 1 0) ≤ i then nu else (if (D_X1_isDigit (P 0 i.toNatClampNeg)) = 0 then nu else (L_X1_numberAt_21 P v n_21 (i + 1) ((10 * nu) + ((P 0 i.toNatClampNeg) - 48))))
def D_X1_numberAt (P : Nat → Nat → Int32) (v : Int32) : (Int32) := (L_X1_numberAt_21 P v 61 v 0)
set_option maxRecDepth 100000 in
theorem in_X1_numberAt_RX1 : ∀ w ∈ u_ws RX1 TX1 2, w ∈ wsX1_numberAt := by decide +kernel
set_option maxHeartbeats 4000000 in
set_option maxRecDepth 100000 in
theorem c_X1_numberAt (l : Launch) (D : va_G) (Y : YY) (sz : Nat) (tx : Nat) (len : Nat) (P : Nat → Nat → Int32) (pp : Nat) (v : Int32) (hlen : P 1 0 = nI len) (hL : len ≤ 60) (hv : vp_in v 60) (hnt : D_X1_hasTimes P v = 0) (hva : ∃ j : Nat, j < len ∧ v = nI j) : Met l yX1_numberAt wsX1_numberAt ({ frames := 1, cells := 0, slots := 0, locals := 21 } : Room) (va_Pc [.ref pp, .int v] (Pst D Y sz (wP Y pp tx P))) ((fun A : Nat → Prop => Qsi D (fun r9 w9 => r9 = D_X1_numberAt P v ∧ w9 = wP Y pp tx P) A) (va_A (wP Y pp tx P) sz)) 0 0 (va_A (wP Y pp tx P) sz) := by
  refine ct_in (cc := cX1_numberAt) (maxL := 5) (ret := (some .int)) (Qc := fun A : Nat → Prop => Qsi D (fun r9 w9 => r9 = D_X1_numberAt P v ∧ w9 = wP Y pp tx P) A) (by decide +kernel) rfl (Nat.le_of_ble_eq_true rfl) ?_
  intro p e s m below meth c A ls hx hb hr hts hown hml hlk hin hsz hA hP hD hK hS hl
  have hown : s.vm.findClass RX1 = some m.cls := hown
  have hl : lv_has ls 5 [(0, .ref pp), (1, .int v)] := hl
  show W p l e ({ frames := 1, cells := 0, slots := 0, locals := 21 } : Room) s m ([.ref pp, .int v] : List Value).toArray below meth c s.heap [] 0 0 (MQ below (Qsi D (fun r9 w9 => r9 = D_X1_numberAt P v ∧ w9 = wP Y pp tx P) A) ([.ref pp, .int v] : List Value).toArray s 0 0 A) (F0 m 0 ls [])
  refine lv_iconst (v := 0) hx hb dX1_numberAt_0 (by decide) ?_
  refine lv_istore_n (lv' := [(2, .int 0), (0, .ref pp), (1, .int v)]) hx hb dX1_numberAt_1 rfl hl (by decide) rfl (fun ls hl => ?_)
  refine lv_aload_n hx hb dX1_numberAt_2 rfl (lv_at hl 1 rfl) ?_
  refine lv_iload_n hx hb dX1_numberAt_3 rfl (lv_at hl 2 rfl) ?_
  refine ck_iD (wr := ([] : va_W)) (ws' := wP Y pp tx P) (va_runV (As := [.int v]) (rest := []) ⟨hx, hb, hml, hown, hts⟩ (c_X1_hasTimes l D Y s.heap.size tx len P pp v hlen hL hv) (cwV 1 hts gX1_numberAt_X1_hasTimes rfl rfl rfl (by decide +kernel) ⟨Nat.le_of_ble_eq_true rfl, Nat.le_of_ble_eq_true rfl⟩) (pst_V hK hP hD [0, 1] rfl (by decide) (q0 := 0) rfl rfl) rfl rfl hl.1 rfl (lv_room (Nat.le_of_ble_eq_true rfl)) dX1_numberAt_4 ⟨Nat.zero_le _, Nat.zero_le _⟩) hP hD hS hA [0, 1] [] [0, 1] rfl rfl (by decide) (by decide) rfl (by decide) (fun H locs hP hD hS => ?_)
  refine lv_if_eq (tgt := 16) hx hb dX1_numberAt_7 (by decide) (fun c_1 => ?_) (fun c_1 => ?_)
  · refine lv_iload_n hx hb dX1_numberAt_16 rfl (lv_at hl 2 rfl) ?_
    refine lv_istore_n (lv' := [(3, .int v), (2, .int 0), (0, .ref pp), (1, .int v)]) hx hb dX1_numberAt_17 rfl hl (by decide) rfl (fun ls hl => ?_)
    refine lv_iload_n hx hb dX1_numberAt_18 rfl (lv_at hl 0 rfl) ?_
    refine lv_istore (lv' := [(4, .int v), (3, .int v), (2, .int 0), (0, .ref pp), (1, .int v)]) hx hb dX1_numberAt_19 hl (by decide) rfl (fun ls hl => ?_)
    obtain ⟨va, hva1, eva⟩ := hva
    have loop_21 : ∀ (n_21 k_21 : Nat) (i : Int32) (nu : Int32) (H : Heap) (locs : List Loc) (ls : Array Slot), len + 1 ≤ k_21 + n_21 → k_21 ≤ len → i = nI k_21 → va_P D vwCl (wP Y pp tx P) H → va_D A (wP Y pp tx P) → va_S A s.heap H locs → lv_has ls 5 [(4, .int i), (3, .int v), (2, .int nu), (0, .ref pp), (1, .int v)] → L_X1_numberAt_21 P v n_21 i nu = L_X1_numberAt_21 P v 61 v 0 → W p l e ({ frames := 1, cells := 0, slots := 0, locals := 21 } : Room) s m ([.ref pp, .int v] : List Value).toArray below meth c H locs 0 0 (MQ below (Qsi D (fun r9 w9 => r9 = D_X1_numberAt P v ∧ w9 = wP Y pp tx P) A) ([.ref pp, .int v] : List Value).toArray s 0 0 A) (F0 m 21 ls []) := by
      intro n_21
      induction n_21 with
      | zero => intro k_21 i nu H locs ls hkf hkN_21 ex_21 hP hD hS hl hR_21; exact absurd hkf (by omega)
      | succ n_21 ih_21 =>
        intro k_21 i nu H locs ls hkf hkN_21 ex_21 hP hD hS hl hR_21
        refine lv_iload hx hb dX1_numberAt_21 (lv_at hl 0 rfl) ?_
        refine lv_aload_n hx hb dX1_numberAt_23 rfl (lv_at hl 3 rfl) ?_
        refine va_get (D := D) (ci := 1) (v := .int (P 1 0)) (C := RX1) (T := TX1) (N := 2) hx hb hts in_X1_numberAt_RX1 hown hK.1 hP 0 rfl rfl 1 (by decide) (hts (.fieldLink RX1 15 "NineDancers$Pad" "length" "I") (by decide +kernel)) (fun _ h9 => h9) rfl dX1_numberAt_24 ?_
        refine lv_icmp_ge (tgt := 65) hx hb dX1_numberAt_27 (by decide) (fun c_2 => ?_) (fun c_2 => ?_)
        · have e8 : L_X1_numberAt_21 P v (n_21 + 1) i nu = nu := by rw [L_X1_numberAt_21, if_pos c_2]
          have e8 := hR_21.symm.trans e8
          have enu : L_X1_numberAt_21 P v 61 v 0 = nu := by rw [e8]
          clear e8 hR_21 ih_21
          refine lv_iload_n hx hb dX1_numberAt_65 rfl (lv_at hl 2 rfl) ?_
          subst enu
          have e9 : D_X1_numberAt P v = (L_X1_numberAt_21 P v 61 v 0) := by rw [D_X1_numberAt]
          exact ret_i hx hb hr hlk hP hD hS dX1_numberAt_66 ⟨Nat.zero_le _, Nat.zero_le _⟩ ⟨e9.symm, rfl⟩
        · have hk_21 := my_lt ex_21 (show (P 1 0 : Int32) = nI len from hlen) (by omega) hkN_21 c_2
          refine lv_aload_n hx hb dX1_numberAt_30 rfl (lv_at hl 3 rfl) ?_
          refine va_get (D := D) (ci := 1) (v := .ref tx) (C := RX1) (T := TX1) (N := 2) hx hb hts in_X1_numberAt_RX1 hown hK.1 hP 0 rfl rfl 0 (by decide) (hts (.fieldLink RX1 9 "NineDancers$Pad" "text" "[C") (by decide +kernel)) (fun _ h9 => h9) rfl dX1_numberAt_31 ?_
          refine lv_iload hx hb dX1_numberAt_34 (lv_at hl 0 rfl) ?_
          refine va_cald (D := D) hx hb hK.1 hP 1 1 rfl rfl (show vp_in i 60 from by rw [ex_21]; exact vp_in_nI (by omega) (by decide)) dX1_numberAt_36 ?_
          refine ck_iD (wr := wP Y pp tx P) (ws' := wP Y pp tx P) (va_runS (As := [.int (P 0 i.toNatClampNeg)]) (rest := []) ⟨hx, hb, hml, hown, hts⟩ (c_X1_isDigit l D Y H.size (P 0 i.toNatClampNeg)) (va_cwS 1 hts gX1_numberAt_X1_isDigit rfl rfl rfl (by decide +kernel) ⟨Nat.le_of_ble_eq_true rfl, Nat.le_of_ble_eq_true rfl⟩) (pst_S hK hP hD [] rfl (by decide)) rfl rfl hl.1 rfl (lv_room (Nat.le_of_ble_eq_true rfl)) dX1_numberAt_37 ⟨Nat.zero_le _, Nat.zero_le _⟩) hP hD hS hA [] [0, 1] [0, 1] rfl rfl (by decide) (by decide) rfl (by decide) (fun H locs hP hD hS => ?_)
          refine lv_if_eq (tgt := 65) hx hb dX1_numberAt_40 (by decide) (fun c_3 => ?_) (fun c_3 => ?_)
          · have e8 : L_X1_numberAt_21 P v (n_21 + 1) i nu = nu := by rw [L_X1_numberAt_21, if_neg c_2, if_pos c_3]
            have e8 := hR_21.symm.trans e8
            have enu : L_X1_numberAt_21 P v 61 v 0 = nu := by rw [e8]
            clear e8 hR_21 ih_21
            refine lv_iload_n hx hb dX1_numberAt_65 rfl (lv_at hl 2 rfl) ?_
            subst enu
            have e9 : D_X1_numberAt P v = (L_X1_numberAt_21 P v 61 v 0) := by rw [D_X1_numberAt]
            exact ret_i hx hb hr hlk hP hD hS dX1_numberAt_66 ⟨Nat.zero_le _, Nat.zero_le _⟩ ⟨e9.symm, rfl⟩
          · refine lv_bipush (v := 10) hx hb dX1_numberAt_43 (by decide) ?_
            refine lv_iload_n hx hb dX1_numberAt_45 rfl (lv_at hl 2 rfl) ?_
            refine lv_imul hx hb dX1_numberAt_46 ?_
            refine lv_aload_n hx hb dX1_numberAt_47 rfl (lv_at hl 3 rfl) ?_
            refine va_get (D := D) (ci := 1) (v := .ref tx) (C := RX1) (T := TX1) (N := 2) hx hb hts in_X1_numberAt_RX1 hown hK.1 hP 0 rfl rfl 0 (by decide) (hts (.fieldLink RX1 9 "NineDancers$Pad" "text" "[C") (by decide +kernel)) (fun _ h9 => h9) rfl dX1_numberAt_48 ?_
            refine lv_iload hx hb dX1_numberAt_51 (lv_at hl 0 rfl) ?_
            refine va_cald (D := D) hx hb hK.1 hP 1 1 rfl rfl (show vp_in i 60 from by rw [ex_21]; exact vp_in_nI (by omega) (by decide)) dX1_numberAt_53 ?_
            refine lv_bipush (v := 48) hx hb dX1_numberAt_54 (by decide) ?_
            refine lv_isub hx hb dX1_numberAt_56 ?_
            refine lv_iadd hx hb dX1_numberAt_57 ?_
            refine lv_istore_n (lv' := [(2, .int ((10 * nu) + ((P 0 i.toNatClampNeg) - 48))), (4, .int i), (3, .int v), (0, .ref pp), (1, .int v)]) hx hb dX1_numberAt_58 rfl hl (by decide) rfl (fun ls hl => ?_)
            refine lv_iinc (v := i + 1) (lv' := [(4, .int (i + 1)), (2, .int ((10 * nu) + ((P 0 i.toNatClampNeg) - 48))), (3, .int v), (0, .ref pp), (1, .int v)]) hx hb dX1_numberAt_59 hl (k := 1) rfl rfl (by decide) rfl (fun ls hl => ?_)
            refine lv_goto (tgt := 21) hx hb dX1_numberAt_62 (by decide) ?_
            exact ih_21 (k_21 + 1) (i + 1) ((10 * nu) + ((P 0 i.toNatClampNeg) - 48)) _ _ _ (by omega) (by omega) (by rw [ex_21]; exact nI_1 k_21)  hP hD hS (lv_sub hl [0, 2, 1, 3, 4] rfl) (by rw [L_X1_numberAt_21, if_neg c_2, if_neg c_3] at hR_21; exact hR_21)
    exact loop_21 61 va v 0 _ _ _ (by omega) (by omega) eva  hP hD hS (lv_sub hl [0, 1, 2, 3, 4] rfl) rfl
  · exact absurd c_1 (fun q => q hnt)
def T_X1_append_2 (ch : Int64) (gv : Int32) (i : Int32) (P1 : Nat → Nat → Int32) : Nat → Nat → Int32 := s2 P1 0 i.toNatClampNeg (vp_nar .char ((((((ch.toUInt64 >>> ((8 * ((((P1 1 0) + gv) - 1) - i)).toInt64.toUInt64 &&& Int64.toUInt64 63)).toInt64) &&& 255).toInt32).toUInt32 % 65536).toInt32))
def L_X1_append_10 (P : Nat → Nat → Int32) (ch : Int64) (gv : Int32) : Nat → (Int32) → (Nat → Nat → Int32) → (Nat → Nat → Int32)
  | 0, i, P1 => P1
  | n_10 + 1, i, P1 => if i < (P1 1 0) then P1 else (L_X1_append_10 P ch gv n_10 (i + (-1)) (T_X1_append_2 ch gv i P1))
def T_X1_append_1 (gv : Int32) (P1 : Nat → Nat → Int32) : Nat → Nat → Int32 := s2 P1 1 0 ((P1 1 0) + gv)
def D_X1_append (P : Nat → Nat → Int32) (ch : Int64) (gv : Int32) : (Nat → Nat → Int32) := (T_X1_append_1 gv (L_X1_append_10 P ch gv 10 (((P 1 0) + gv) - 1) P))
set_option maxRecDepth 100000 in
theorem in_X1_append_RX1 : ∀ w ∈ u_ws RX1 TX1 2, w ∈ wsX1_append := by decide +kernel
set_option maxHeartbeats 4000000 in
set_option maxRecDepth 100000 in
theorem c_X1_append (l : Launch) (D : va_G) (Y : YY) (sz : Nat) (tx : Nat) (len : Nat) (P : Nat → Nat → Int32) (pp : Nat) (ch : Int64) (gv : Int32) (hlen : P 1 0 = nI len) (hL : len ≤ 60) (hg : vp_in gv 9) (hlg : P 1 0 + gv ≤ 60) : Met l yX1_append wsX1_append ({ frames := 0, cells := 0, slots := 0, locals := 0 } : Room) (va_Pc [.ref pp, .long ch, .int gv] (Pst D Y sz (wP Y pp tx P))) ((fun A : Nat → Prop => Qsv D (fun w9 => w9 = wP Y pp tx (D_X1_append P ch gv)) A) (va_A (wP Y pp tx P) sz)) 0 0 (va_A (wP Y pp tx P) sz) := by
  refine ct_in (cc := cX1_append) (maxL := 5) (ret := none) (Qc := fun A : Nat → Prop => Qsv D (fun w9 => w9 = wP Y pp tx (D_X1_append P ch gv)) A) (by decide +kernel) rfl (Nat.le_of_ble_eq_true rfl) ?_
  intro p e s m below meth c A ls hx hb hr hts hown hml hlk hin hsz hA hP hD hK hS hl
  have hown : s.vm.findClass RX1 = some m.cls := hown
  have hl : lv_has ls 5 [(0, .ref pp), (1, .long ch), (3, .int gv)] := hl
  show W p l e ({ frames := 0, cells := 0, slots := 0, locals := 0 } : Room) s m ([.ref pp, .long ch, .int gv] : List Value).toArray below meth c s.heap [] 0 0 (MQ below (Qsv D (fun w9 => w9 = wP Y pp tx (D_X1_append P ch gv)) A) ([.ref pp, .long ch, .int gv] : List Value).toArray s 0 0 A) (F0 m 0 ls [])
  refine lv_aload_n hx hb dX1_append_0 rfl (lv_at hl 0 rfl) ?_
  refine va_get (D := D) (ci := 1) (v := .int (P 1 0)) (C := RX1) (T := TX1) (N := 2) hx hb hts in_X1_append_RX1 hown hK.1 hP 0 rfl rfl 1 (by decide) (hts (.fieldLink RX1 15 "NineDancers$Pad" "length" "I") (by decide +kernel)) (fun _ h9 => h9) rfl dX1_append_1 ?_
  refine lv_iload_n hx hb dX1_append_4 rfl (lv_at hl 2 rfl) ?_
  refine lv_iadd hx hb dX1_append_5 ?_
  refine lv_iconst (v := 1) hx hb dX1_append_6 (by decide) ?_
  refine lv_isub hx hb dX1_append_7 ?_
  refine lv_istore (lv' := [(4, .int (((P 1 0) + gv) - 1)), (0, .ref pp), (1, .long ch), (3, .int gv)]) hx hb dX1_append_8 hl (by decide) rfl (fun ls hl => ?_)
  obtain ⟨g0, hg0, eg0⟩ := vp_in_of hg (by decide)
  have hlg0 : len + g0 ≤ 60 := by rw [hlen, eg0, nI_add] at hlg; exact (nI_leI (b := 60) (by omega) (by decide)).mp hlg
  have loop_10 : ∀ (n_10 k_10 : Nat) (i : Int32) (P1 : Nat → Nat → Int32) (H : Heap) (locs : List Loc) (ls : Array Slot), k_10 + 1 ≤ n_10 → k_10 ≤ g0 → i = nI (len + k_10) + (-1) → (P1 1 0 = nI len) → va_P D vwCl (wP Y pp tx P1) H → va_D A (wP Y pp tx P1) → va_S A s.heap H locs → lv_has ls 5 [(4, .int i), (0, .ref pp), (1, .long ch), (3, .int gv)] → L_X1_append_10 P ch gv n_10 i P1 = L_X1_append_10 P ch gv 10 (((P 1 0) + gv) - 1) P → W p l e ({ frames := 0, cells := 0, slots := 0, locals := 0 } : Room) s m ([.ref pp, .long ch, .int gv] : List Value).toArray below meth c H locs 0 0 (MQ below (Qsv D (fun w9 => w9 = wP Y pp tx (D_X1_append P ch gv)) A) ([.ref pp, .long ch, .int gv] : List Value).toArray s 0 0 A) (F0 m 10 ls []) := by
    intro n_10
    induction n_10 with
    | zero => intro k_10 i P1 H locs ls hkf hkN_10 ex_10 hM hP hD hS hl hR_10; exact absurd hkf (by omega)
    | succ n_10 ih_10 =>
      intro k_10 i P1 H locs ls hkf hkN_10 ex_10 hM hP hD hS hl hR_10
      refine lv_iload hx hb dX1_append_10 (lv_at hl 0 rfl) ?_
      refine lv_aload_n hx hb dX1_append_12 rfl (lv_at hl 1 rfl) ?_
      refine va_get (D := D) (ci := 1) (v := .int (P1 1 0)) (C := RX1) (T := TX1) (N := 2) hx hb hts in_X1_append_RX1 hown hK.1 hP 0 rfl rfl 1 (by decide) (hts (.fieldLink RX1 15 "NineDancers$Pad" "length" "I") (by decide +kernel)) (fun _ h9 => h9) rfl dX1_append_13 ?_
      refine lv_icmp_lt (tgt := 54) hx hb dX1_append_16 (by decide) (fun c_1 => ?_) (fun c_1 => ?_)
      · have e8 : L_X1_append_10 P ch gv (n_10 + 1) i P1 = P1 := by rw [L_X1_append_10, if_pos c_1]
        have e8 := hR_10.symm.trans e8
        have eP1 : L_X1_append_10 P ch gv 10 (((P 1 0) + gv) - 1) P = P1 := by rw [e8]
        clear e8 hR_10 ih_10
        refine lv_aload_n hx hb dX1_append_54 rfl (lv_at hl 1 rfl) ?_
        refine lv_dup hx hb dX1_append_55 rfl ?_
        refine va_get (D := D) (ci := 1) (v := .int (P1 1 0)) (C := RX1) (T := TX1) (N := 2) hx hb hts in_X1_append_RX1 hown hK.1 hP 0 rfl rfl 1 (by decide) (hts (.fieldLink RX1 15 "NineDancers$Pad" "length" "I") (by decide +kernel)) (fun _ h9 => h9) rfl dX1_append_56 ?_
        refine lv_iload_n hx hb dX1_append_59 rfl (lv_at hl 3 rfl) ?_
        refine lv_iadd hx hb dX1_append_60 ?_
        refine va_put (D := D) (ci := 1) (v := .int ((P1 1 0) + gv)) (ty := .int) (C := RX1) (T := TX1) (N := 2) hx hb hts in_X1_append_RX1 tyX1 tyX1_ok nmX1 hown hK.1 hP hD hS 0 rfl rfl 1 (by decide) (hts (.fieldLink RX1 15 "NineDancers$Pad" "length" "I") (by decide +kernel)) (fun _ h9 => h9) rfl (by decide +kernel) rfl rfl (Nat.le_of_ble_eq_true rfl) dX1_append_61 (fun H locs hP hD hS => ?_)
        have hP : va_P D vwCl (wP Y pp tx (T_X1_append_1 gv P1)) H := hP
        have hD : va_D A (wP Y pp tx (T_X1_append_1 gv P1)) := hD
        obtain ⟨S_1, eS_1⟩ : ∃ z9, T_X1_append_1 gv P1 = z9 := ⟨_, rfl⟩
        rw [eS_1] at hP hD
        subst eS_1
        subst eP1
        have e9 : D_X1_append P ch gv = (T_X1_append_1 gv (L_X1_append_10 P ch gv 10 (((P 1 0) + gv) - 1) P)) := by rw [D_X1_append]
        exact ret_v hx hb hr hlk hP hD hS dX1_append_64 ⟨Nat.zero_le _, Nat.zero_le _⟩ (by rw [e9])
      · obtain ⟨j_10, hj_10, ej_10⟩ := my_dn2 ex_10 (by omega) (by rw [hM] at c_1; assumption)
        refine lv_aload_n hx hb dX1_append_19 rfl (lv_at hl 1 rfl) ?_
        refine va_get (D := D) (ci := 1) (v := .ref tx) (C := RX1) (T := TX1) (N := 2) hx hb hts in_X1_append_RX1 hown hK.1 hP 0 rfl rfl 0 (by decide) (hts (.fieldLink RX1 9 "NineDancers$Pad" "text" "[C") (by decide +kernel)) (fun _ h9 => h9) rfl dX1_append_20 ?_
        refine lv_iload hx hb dX1_append_23 (lv_at hl 0 rfl) ?_
        refine lv_lload_n hx hb dX1_append_25 rfl (lv_at hl 2 rfl) ?_
        refine lv_bipush (v := 8) hx hb dX1_append_26 (by decide) ?_
        refine lv_aload_n hx hb dX1_append_28 rfl (lv_at hl 1 rfl) ?_
        refine va_get (D := D) (ci := 1) (v := .int (P1 1 0)) (C := RX1) (T := TX1) (N := 2) hx hb hts in_X1_append_RX1 hown hK.1 hP 0 rfl rfl 1 (by decide) (hts (.fieldLink RX1 15 "NineDancers$Pad" "length" "I") (by decide +kernel)) (fun _ h9 => h9) rfl dX1_append_29 ?_
        refine lv_iload_n hx hb dX1_append_32 rfl (lv_at hl 3 rfl) ?_
        refine lv_iadd hx hb dX1_append_33 ?_
        refine lv_iconst (v := 1) hx hb dX1_append_34 (by decide) ?_
        refine lv_isub hx hb dX1_append_35 ?_
        refine lv_iload hx hb dX1_append_36 (lv_at hl 0 rfl) ?_
        refine lv_isub hx hb dX1_append_38 ?_
        refine lv_imul hx hb dX1_append_39 ?_
        refine lv_lushr (v := (ch.toUInt64 >>> ((8 * ((((P1 1 0) + gv) - 1) - i)).toInt64.toUInt64 &&& Int64.toUInt64 63)).toInt64) hx hb dX1_append_40 rfl ?_
        refine lv_ldc2 (v := 255) hx hb hown (hts (.constantLong RX1 19 (255)) (by decide +kernel)) dX1_append_41 ?_
        refine lv_land hx hb dX1_append_44 ?_
        refine lv_l2i (v := (((ch.toUInt64 >>> ((8 * ((((P1 1 0) + gv) - 1) - i)).toInt64.toUInt64 &&& Int64.toUInt64 63)).toInt64) &&& 255).toInt32) hx hb dX1_append_45 rfl ?_
        refine lv_i2c (v := (((((ch.toUInt64 >>> ((8 * ((((P1 1 0) + gv) - 1) - i)).toInt64.toUInt64 &&& Int64.toUInt64 63)).toInt64) &&& 255).toInt32).toUInt32 % 65536).toInt32) hx hb dX1_append_46 rfl ?_
        refine va_cast (D := D) hx hb hK.1 hP hD hS 1 1 rfl rfl (show vp_in i 60 from by rw [ej_10]; exact vp_in_nI (by omega) (by decide)) dX1_append_47 (fun H locs hP hD hS => ?_)
        have hP : va_P D vwCl (wP Y pp tx (T_X1_append_2 ch gv i P1)) H := hP
        have hD : va_D A (wP Y pp tx (T_X1_append_2 ch gv i P1)) := hD
        obtain ⟨S_2, eS_2⟩ : ∃ z9, T_X1_append_2 ch gv i P1 = z9 := ⟨_, rfl⟩
        rw [eS_2] at hP hD
        refine lv_iinc (v := i + (-1)) (lv' := [(4, .int (i + (-1))), (0, .ref pp), (1, .long ch), (3, .int gv)]) hx hb dX1_append_48 hl (k := 0) rfl rfl (by decide) rfl (fun ls hl => ?_)
        refine lv_goto (tgt := 10) hx hb dX1_append_51 (by decide) ?_
        subst eS_2
        exact ih_10 j_10 (i + (-1)) (T_X1_append_2 ch gv i P1) _ _ _ (by omega) (by omega) (by rw [ej_10]) hM hP hD hS (lv_sub hl [0, 1, 2, 3] rfl) (by rw [L_X1_append_10, if_neg c_1] at hR_10; exact hR_10)
  exact loop_10 10 g0 (((P 1 0) + gv) - 1) P _ _ _ (by omega) (by omega) (by rw [hlen, eg0]; exact my_dn3 len g0) hlen hP hD hS (lv_sub hl [0, 1, 2, 3] rfl) rfl
def D_X3_put (P : Nat → Nat → Int32) (ch : Int64) : (Int32) × (Nat → Nat → Int32) := if (D_X3_charactersIn ch) = 0 then ((-1000002), P) else (if ((P 1 0) + (D_X3_charactersIn ch)) ≤ 60 then ((D_X1_append P ch (D_X3_charactersIn ch)) 1 0, (D_X1_append P ch (D_X3_charactersIn ch))) else ((-1000004), P))
set_option maxRecDepth 100000 in
theorem in_X3_put_RX1 : ∀ w ∈ u_ws RX1 TX1 2, w ∈ wsX3_put := by decide +kernel
set_option maxRecDepth 100000 in
theorem in_X3_put_RX3 : ∀ w ∈ u_ws RX3 TX3 5, w ∈ wsX3_put := by decide +kernel
set_option maxHeartbeats 4000000 in
set_option maxRecDepth 100000 in
theorem c_X3_put (l : Launch) (D : va_G) (Y : YY) (sz : Nat) (r : Nat) (tr : Nat) (pp : Nat) (h : Nat) (sl : Nat) (tx : Nat) (len : Nat) (P : Nat → Nat → Int32) (x : Nat) (ch : Int64) (hlen : P 1 0 = nI len) (hL : len ≤ 60) : Met l yX3_put wsX3_put ({ frames := 1, cells := 0, slots := 0, locals := 26 } : Room) (va_Pc [.ref x, .long ch] (Pst D Y sz (wX x r tr pp h sl ++ wP Y pp tx P))) ((fun A : Nat → Prop => Qsi D (fun r9 w9 => r9 = (D_X3_put P ch).1 ∧ w9 = wX x r tr pp h sl ++ wP Y pp tx ((D_X3_put P ch).2)) A) (va_A (wX x r tr pp h sl ++ wP Y pp tx P) sz)) 0 0 (va_A (wX x r tr pp h sl ++ wP Y pp tx P) sz) := by
  refine ct_in (cc := cX3_put) (maxL := 4) (ret := (some .int)) (Qc := fun A : Nat → Prop => Qsi D (fun r9 w9 => r9 = (D_X3_put P ch).1 ∧ w9 = wX x r tr pp h sl ++ wP Y pp tx ((D_X3_put P ch).2)) A) (by decide +kernel) rfl (Nat.le_of_ble_eq_true rfl) ?_
  intro p e s m below meth c A ls hx hb hr hts hown hml hlk hin hsz hA hP hD hK hS hl
  have hown : s.vm.findClass RX3 = some m.cls := hown
  have hl : lv_has ls 4 [(0, .ref x), (1, .long ch)] := hl
  show W p l e ({ frames := 1, cells := 0, slots := 0, locals := 26 } : Room) s m ([.ref x, .long ch] : List Value).toArray below meth c s.heap [] 0 0 (MQ below (Qsi D (fun r9 w9 => r9 = (D_X3_put P ch).1 ∧ w9 = wX x r tr pp h sl ++ wP Y pp tx ((D_X3_put P ch).2)) A) ([.ref x, .long ch] : List Value).toArray s 0 0 A) (F0 m 0 ls [])
  refine lv_lload_n hx hb dX3_put_0 rfl (lv_at hl 1 rfl) ?_
  refine ck_iD (wr := wX x r tr pp h sl ++ wP Y pp tx P) (ws' := wX x r tr pp h sl ++ wP Y pp tx P) (va_runS (As := [.long ch]) (rest := []) ⟨hx, hb, hml, hown, hts⟩ (c_X3_charactersIn l D Y s.heap.size ch) (va_cwS 1 hts gX3_put_X3_charactersIn rfl rfl rfl (by decide +kernel) ⟨Nat.le_of_ble_eq_true rfl, Nat.le_of_ble_eq_true rfl⟩) (pst_S hK hP hD [] rfl (by decide)) rfl rfl hl.1 rfl (lv_room (Nat.le_of_ble_eq_true rfl)) dX3_put_1 ⟨Nat.zero_le _, Nat.zero_le _⟩) hP hD hS hA [] [0, 1, 2] [0, 1, 2] rfl rfl (by decide) (by decide) rfl (by decide) (fun H locs hP hD hS => ?_)
  refine lv_istore_n (lv' := [(3, .int (D_X3_charactersIn ch)), (0, .ref x), (1, .long ch)]) hx hb dX3_put_4 rfl hl (by decide) rfl (fun ls hl => ?_)
  refine lv_iload_n hx hb dX3_put_5 rfl (lv_at hl 0 rfl) ?_
  refine lv_if_ne (tgt := 12) hx hb dX3_put_6 (by decide) (fun c_1 => ?_) (fun c_1 => ?_)
  · refine lv_aload_n hx hb dX3_put_12 rfl (lv_at hl 1 rfl) ?_
    refine va_get (D := D) (ci := 3) (v := .ref pp) (C := RX3) (T := TX3) (N := 5) hx hb hts in_X3_put_RX3 hown hK.1 hP 0 rfl rfl 2 (by decide) (hts (.fieldLink RX3 22 "NineDancers" "pad" "LNineDancers$Pad;") (by decide +kernel)) (fun _ h9 => h9) rfl dX3_put_13 ?_
    refine va_get (D := D) (ci := 1) (v := .int (P 1 0)) (C := RX1) (T := TX1) (N := 2) hx hb hts in_X3_put_RX1 hown hK.1 hP 1 rfl rfl 1 (by decide) (hts (.fieldLink RX3 143 "NineDancers$Pad" "length" "I") (by decide +kernel)) (fun _ h9 => h9) rfl dX3_put_16 ?_
    refine lv_iload_n hx hb dX3_put_19 rfl (lv_at hl 0 rfl) ?_
    refine lv_iadd hx hb dX3_put_20 ?_
    refine lv_bipush (v := 60) hx hb dX3_put_21 (by decide) ?_
    refine lv_icmp_le (tgt := 29) hx hb dX3_put_23 (by decide) (fun c_2 => ?_) (fun c_2 => ?_)
    · refine lv_aload_n hx hb dX3_put_29 rfl (lv_at hl 1 rfl) ?_
      refine va_get (D := D) (ci := 3) (v := .ref pp) (C := RX3) (T := TX3) (N := 5) hx hb hts in_X3_put_RX3 hown hK.1 hP 0 rfl rfl 2 (by decide) (hts (.fieldLink RX3 22 "NineDancers" "pad" "LNineDancers$Pad;") (by decide +kernel)) (fun _ h9 => h9) rfl dX3_put_30 ?_
      refine lv_lload_n hx hb dX3_put_33 rfl (lv_at hl 2 rfl) ?_
      refine lv_iload_n hx hb dX3_put_34 rfl (lv_at hl 0 rfl) ?_
      refine ck_vD (wr := wX x r tr pp h sl) (ws' := wX x r tr pp h sl ++ wP Y pp tx (D_X1_append P ch (D_X3_charactersIn ch))) (va_runV (As := [.long ch, .int (D_X3_charactersIn ch)]) (rest := []) ⟨hx, hb, hml, hown, hts⟩ (c_X1_append l D Y H.size tx len P pp ch (D_X3_charactersIn ch) hlen hL (in_charsIn _) c_2) (cwV 2 hts gX3_put_X1_append rfl rfl rfl (by decide +kernel) ⟨Nat.le_of_ble_eq_true rfl, Nat.le_of_ble_eq_true rfl⟩) (pst_V hK hP hD [1, 2] rfl (by decide) (q0 := 0) rfl rfl) rfl rfl hl.1 rfl (lv_room (Nat.le_of_ble_eq_true rfl)) dX3_put_35 ⟨Nat.zero_le _, Nat.zero_le _⟩) hP hD hS hA [1, 2] [0] [0, 1, 2] rfl rfl (by decide) (by decide) rfl (by decide) (fun H locs hP hD hS => ?_)
      obtain ⟨S_1, eS_1⟩ : ∃ z9, (D_X1_append P ch (D_X3_charactersIn ch)) = z9 := ⟨_, rfl⟩
      rw [eS_1] at hP hD
      refine lv_aload_n hx hb dX3_put_38 rfl (lv_at hl 1 rfl) ?_
      refine va_get (D := D) (ci := 3) (v := .ref pp) (C := RX3) (T := TX3) (N := 5) hx hb hts in_X3_put_RX3 hown hK.1 hP 0 rfl rfl 2 (by decide) (hts (.fieldLink RX3 22 "NineDancers" "pad" "LNineDancers$Pad;") (by decide +kernel)) (fun _ h9 => h9) rfl dX3_put_39 ?_
      refine va_get (D := D) (ci := 1) (v := .int (S_1 1 0)) (C := RX1) (T := TX1) (N := 2) hx hb hts in_X3_put_RX1 hown hK.1 hP 1 rfl rfl 1 (by decide) (hts (.fieldLink RX3 143 "NineDancers$Pad" "length" "I") (by decide +kernel)) (fun _ h9 => h9) rfl dX3_put_42 ?_
      subst eS_1
      have e9 : D_X3_put P ch = ((D_X1_append P ch (D_X3_charactersIn ch)) 1 0, (D_X1_append P ch (D_X3_charactersIn ch))) := by rw [D_X3_put, if_neg c_1, if_pos c_2]
      exact ret_i hx hb hr hlk hP hD hS dX3_put_45 ⟨Nat.zero_le _, Nat.zero_le _⟩ ⟨by rw [e9], by rw [e9]⟩
    · refine lv_ldc (v := (-1000004)) hx hb hown (hts (.constant RX3 78 (-1000004)) (by decide +kernel)) dX3_put_26 ?_
      have e9 : D_X3_put P ch = ((-1000004), P) := by rw [D_X3_put, if_neg c_1, if_neg c_2]
      exact ret_i hx hb hr hlk hP hD hS dX3_put_28 ⟨Nat.zero_le _, Nat.zero_le _⟩ ⟨by rw [e9], by rw [e9]⟩
  · refine lv_ldc (v := (-1000002)) hx hb hown (hts (.constant RX3 37 (-1000002)) (by decide +kernel)) dX3_put_9 ?_
    have e9 : D_X3_put P ch = ((-1000002), P) := by rw [D_X3_put, if_pos c_1]
    exact ret_i hx hb hr hlk hP hD hS dX3_put_11 ⟨Nat.zero_le _, Nat.zero_le _⟩ ⟨by rw [e9], by rw [e9]⟩
def L_X3_tell_5 (S : Nat → Nat → Int32) (k : Int32) (tm : Int32) : Nat → (Int32) → (Int32) → (Nat → Nat → Int32) → (Int32) × (Nat → Nat → Int32)
  | 0, i, u, S1 => (u, S1)
  | n_5 + 1, i, u, S1 => if tm ≤ i then (u, S1) else (L_X3_tell_5 S k tm n_5 (i + 1) (u + ((D_X2_danceRound S1 k).1)) ((D_X2_danceRound S1 k).2))
def D_X3_tell (S : Nat → Nat → Int32) (k : Int32) (tm : Int32) : (Int32) × (Nat → Nat → Int32) := (((L_X3_tell_5 S k tm 2 0 0 S).1), ((L_X3_tell_5 S k tm 2 0 0 S).2))
set_option maxRecDepth 100000 in
theorem in_X3_tell_RX3 : ∀ w ∈ u_ws RX3 TX3 5, w ∈ wsX3_tell := by decide +kernel
set_option maxHeartbeats 4000000 in
set_option maxRecDepth 100000 in
theorem c_X3_tell (l : Launch) (D : va_G) (Y : YY) (sz : Nat) (r : Nat) (tr : Nat) (pp : Nat) (h : Nat) (sl : Nat) (q : Nat → Nat) (S : Nat → Nat → Int32) (x : Nat) (k : Int32) (tm : Int32) (htm : tm = 1) : Met l yX3_tell wsX3_tell ({ frames := 4, cells := 0, slots := 0, locals := 91 } : Room) (va_Pc [.ref x, .int k, .int tm] (Pst D Y sz (wX x r tr pp h sl ++ wR Y r q S))) ((fun A : Nat → Prop => Qsi D (fun r9 w9 => r9 = (D_X3_tell S k tm).1 ∧ w9 = wX x r tr pp h sl ++ wR Y r q ((D_X3_tell S k tm).2)) A) (va_A (wX x r tr pp h sl ++ wR Y r q S) sz)) 0 0 (va_A (wX x r tr pp h sl ++ wR Y r q S) sz) := by
  refine ct_in (cc := cX3_tell) (maxL := 5) (ret := (some .int)) (Qc := fun A : Nat → Prop => Qsi D (fun r9 w9 => r9 = (D_X3_tell S k tm).1 ∧ w9 = wX x r tr pp h sl ++ wR Y r q ((D_X3_tell S k tm).2)) A) (by decide +kernel) rfl (Nat.le_of_ble_eq_true rfl) ?_
  intro p e s m below meth c A ls hx hb hr hts hown hml hlk hin hsz hA hP hD hK hS hl
  have hown : s.vm.findClass RX3 = some m.cls := hown
  have hl : lv_has ls 5 [(0, .ref x), (1, .int k), (2, .int tm)] := hl
  show W p l e ({ frames := 4, cells := 0, slots := 0, locals := 91 } : Room) s m ([.ref x, .int k, .int tm] : List Value).toArray below meth c s.heap [] 0 0 (MQ below (Qsi D (fun r9 w9 => r9 = (D_X3_tell S k tm).1 ∧ w9 = wX x r tr pp h sl ++ wR Y r q ((D_X3_tell S k tm).2)) A) ([.ref x, .int k, .int tm] : List Value).toArray s 0 0 A) (F0 m 0 ls [])
  refine lv_iconst (v := 0) hx hb dX3_tell_0 (by decide) ?_
  refine lv_istore_n (lv' := [(3, .int 0), (0, .ref x), (1, .int k), (2, .int tm)]) hx hb dX3_tell_1 rfl hl (by decide) rfl (fun ls hl => ?_)
  refine lv_iconst (v := 0) hx hb dX3_tell_2 (by decide) ?_
  refine lv_istore (lv' := [(4, .int 0), (3, .int 0), (0, .ref x), (1, .int k), (2, .int tm)]) hx hb dX3_tell_3 hl (by decide) rfl (fun ls hl => ?_)
  have loop_5 : ∀ (n_5 k_5 : Nat) (i : Int32) (u : Int32) (S1 : Nat → Nat → Int32) (H : Heap) (locs : List Loc) (ls : Array Slot), 2 ≤ k_5 + n_5 → k_5 ≤ 1 → i = nI k_5 → va_P D vwCl (wX x r tr pp h sl ++ wR Y r q S1) H → va_D A (wX x r tr pp h sl ++ wR Y r q S1) → va_S A s.heap H locs → lv_has ls 5 [(4, .int i), (3, .int u), (0, .ref x), (1, .int k), (2, .int tm)] → L_X3_tell_5 S k tm n_5 i u S1 = L_X3_tell_5 S k tm 2 0 0 S → W p l e ({ frames := 4, cells := 0, slots := 0, locals := 91 } : Room) s m ([.ref x, .int k, .int tm] : List Value).toArray below meth c H locs 0 0 (MQ below (Qsi D (fun r9 w9 => r9 = (D_X3_tell S k tm).1 ∧ w9 = wX x r tr pp h sl ++ wR Y r q ((D_X3_tell S k tm).2)) A) ([.ref x, .int k, .int tm] : List Value).toArray s 0 0 A) (F0 m 5 ls []) := by
    intro n_5
    induction n_5 with
    | zero => intro k_5 i u S1 H locs ls hkf hkN_5 ex_5 hP hD hS hl hR_5; exact absurd hkf (by omega)
    | succ n_5 ih_5 =>
      intro k_5 i u S1 H locs ls hkf hkN_5 ex_5 hP hD hS hl hR_5
      refine lv_iload hx hb dX3_tell_5 (lv_at hl 0 rfl) ?_
      refine lv_iload_n hx hb dX3_tell_7 rfl (lv_at hl 4 rfl) ?_
      refine lv_icmp_ge (tgt := 28) hx hb dX3_tell_8 (by decide) (fun c_1 => ?_) (fun c_1 => ?_)
      · have e8 : L_X3_tell_5 S k tm (n_5 + 1) i u S1 = (u, S1) := by rw [L_X3_tell_5, if_pos c_1]
        have e8 := hR_5.symm.trans e8
        have eu : (L_X3_tell_5 S k tm 2 0 0 S).1 = u := by rw [e8]
        have eS1 : (L_X3_tell_5 S k tm 2 0 0 S).2 = S1 := by rw [e8]
        clear e8 hR_5 ih_5
        refine lv_iload_n hx hb dX3_tell_28 rfl (lv_at hl 1 rfl) ?_
        subst eS1
        subst eu
        have e9 : D_X3_tell S k tm = (((L_X3_tell_5 S k tm 2 0 0 S).1), ((L_X3_tell_5 S k tm 2 0 0 S).2)) := by rw [D_X3_tell]
        exact ret_i hx hb hr hlk hP hD hS dX3_tell_29 ⟨Nat.zero_le _, Nat.zero_le _⟩ ⟨by rw [e9], by rw [e9]⟩
      · have hk_5 := my_lt ex_5 (show (tm : Int32) = nI 1 from htm) (by decide) hkN_5 c_1
        refine lv_iload_n hx hb dX3_tell_11 rfl (lv_at hl 1 rfl) ?_
        refine lv_aload_n hx hb dX3_tell_12 rfl (lv_at hl 2 rfl) ?_
        refine va_get (D := D) (ci := 3) (v := .ref r) (C := RX3) (T := TX3) (N := 5) hx hb hts in_X3_tell_RX3 hown hK.1 hP 0 rfl rfl 0 (by decide) (hts (.fieldLink RX3 12 "NineDancers" "ring" "LNineDancers$Ring;") (by decide +kernel)) (fun _ h9 => h9) rfl dX3_tell_13 ?_
        refine lv_iload_n hx hb dX3_tell_16 rfl (lv_at hl 3 rfl) ?_
        refine ck_iD (wr := wX x r tr pp h sl) (ws' := wX x r tr pp h sl ++ wR Y r q ((D_X2_danceRound S1 k).2)) (va_runV (As := [.int k]) (rest := [.int u]) ⟨hx, hb, hml, hown, hts⟩ (c_X2_danceRound l D Y H.size q S1 r k) (cwV 1 hts gX3_tell_X2_danceRound rfl rfl rfl (by decide +kernel) ⟨Nat.le_of_ble_eq_true rfl, Nat.le_of_ble_eq_true rfl⟩) (pst_V hK hP hD [1, 2, 3, 4, 5, 6, 7, 8, 9, 10, 11] rfl (by decide) (q0 := 0) rfl rfl) rfl rfl hl.1 rfl (lv_room (Nat.le_of_ble_eq_true rfl)) dX3_tell_17 ⟨Nat.zero_le _, Nat.zero_le _⟩) hP hD hS hA [1, 2, 3, 4, 5, 6, 7, 8, 9, 10, 11] [0] [0, 1, 2, 3, 4, 5, 6, 7, 8, 9, 10, 11] rfl rfl (by decide) (by decide) rfl (by decide) (fun H locs hP hD hS => ?_)
        obtain ⟨S_1, eS_1⟩ : ∃ z9, (D_X2_danceRound S1 k).2 = z9 := ⟨_, rfl⟩
        rw [eS_1] at hP hD
        refine lv_iadd hx hb dX3_tell_20 ?_
        refine lv_istore_n (lv' := [(3, .int (u + ((D_X2_danceRound S1 k).1))), (4, .int i), (0, .ref x), (1, .int k), (2, .int tm)]) hx hb dX3_tell_21 rfl hl (by decide) rfl (fun ls hl => ?_)
        refine lv_iinc (v := i + 1) (lv' := [(4, .int (i + 1)), (3, .int (u + ((D_X2_danceRound S1 k).1))), (0, .ref x), (1, .int k), (2, .int tm)]) hx hb dX3_tell_22 hl (k := 1) rfl rfl (by decide) rfl (fun ls hl => ?_)
        refine lv_goto (tgt := 5) hx hb dX3_tell_25 (by decide) ?_
        subst eS_1
        exact ih_5 (k_5 + 1) (i + 1) (u + ((D_X2_danceRound S1 k).1)) ((D_X2_danceRound S1 k).2) _ _ _ (by omega) (by omega) (by rw [ex_5]; exact nI_1 k_5)  hP hD hS (lv_sub hl [0, 1, 2, 3, 4] rfl) (by rw [L_X3_tell_5, if_neg c_1] at hR_5; exact hR_5)
  exact loop_5 2 0 0 0 S _ _ _ (by omega) (Nat.zero_le _) nI_0.symm  hP hD hS (lv_sub hl [0, 1, 2, 3, 4] rfl) rfl
def V_X3_tellNumbersOfPad_1 (P : Nat → Nat → Int32) (i : Int32) (u : Int32) (S1 : Nat → Nat → Int32) : Int32 := u + ((D_X3_tell S1 (D_X1_numberAt P i) (D_X1_timesAt P i)).1)
def L_X3_tellNumbersOfPad_4 (P : Nat → Nat → Int32) (S : Nat → Nat → Int32) : Nat → (Int32) → (Int32) → (Nat → Nat → Int32) → (Int32) × (Nat → Nat → Int32)
  | 0, i, u, S1 => (u, S1)
  | n_4 + 1, i, u, S1 => if (P 1 0) ≤ i then (u, S1) else (if (D_X1_startsCall P i) = 0 then (L_X3_tellNumbersOfPad_4 P S n_4 (i + 1) u S1) else (L_X3_tellNumbersOfPad_4 P S n_4 (i + 1) (V_X3_tellNumbersOfPad_1 P i u S1) ((D_X3_tell S1 (D_X1_numberAt P i) (D_X1_timesAt P i)).2)))
def D_X3_tellNumbersOfPad (P : Nat → Nat → Int32) (S : Nat → Nat → Int32)  : (Int32) × (Nat → Nat → Int32) := (((L_X3_tellNumbersOfPad_4 P S 61 0 0 S).1), ((L_X3_tellNumbersOfPad_4 P S 61 0 0 S).2))
set_option maxRecDepth 100000 in
theorem in_X3_tellNumbersOfPad_RX1 : ∀ w ∈ u_ws RX1 TX1 2, w ∈ wsX3_tellNumbersOfPad := by decide +kernel
set_option maxRecDepth 100000 in
theorem in_X3_tellNumbersOfPad_RX3 : ∀ w ∈ u_ws RX3 TX3 5, w ∈ wsX3_tellNumbersOfPad := by decide +kernel
set_option maxHeartbeats 4000000 in
set_option maxRecDepth 100000 in
theorem c_X3_tellNumbersOfPad (l : Launch) (D : va_G) (Y : YY) (sz : Nat) (r : Nat) (tr : Nat) (pp : Nat) (h : Nat) (sl : Nat) (tx : Nat) (q : Nat → Nat) (len : Nat) (P : Nat → Nat → Int32) (S : Nat → Nat → Int32) (x : Nat) (hlen : P 1 0 = nI len) (hL : len ≤ 60) (hna : ∀ j, j < 60 → D_X1_hasTimes P (nI j) = 0) : Met l yX3_tellNumbersOfPad wsX3_tellNumbersOfPad ({ frames := 5, cells := 0, slots := 0, locals := 115 } : Room) (va_Pc [.ref x] (Pst D Y sz (wX x r tr pp h sl ++ (wP Y pp tx P ++ wR Y r q S)))) ((fun A : Nat → Prop => Qsi D (fun r9 w9 => r9 = (D_X3_tellNumbersOfPad P S).1 ∧ w9 = wX x r tr pp h sl ++ (wP Y pp tx P ++ wR Y r q ((D_X3_tellNumbersOfPad P S).2))) A) (va_A (wX x r tr pp h sl ++ (wP Y pp tx P ++ wR Y r q S)) sz)) 0 0 (va_A (wX x r tr pp h sl ++ (wP Y pp tx P ++ wR Y r q S)) sz) := by
  refine ct_in (cc := cX3_tellNumbersOfPad) (maxL := 3) (ret := (some .int)) (Qc := fun A : Nat → Prop => Qsi D (fun r9 w9 => r9 = (D_X3_tellNumbersOfPad P S).1 ∧ w9 = wX x r tr pp h sl ++ (wP Y pp tx P ++ wR Y r q ((D_X3_tellNumbersOfPad P S).2))) A) (by decide +kernel) rfl (Nat.le_of_ble_eq_true rfl) ?_
  intro p e s m below meth c A ls hx hb hr hts hown hml hlk hin hsz hA hP hD hK hS hl
  have hown : s.vm.findClass RX3 = some m.cls := hown
  have hl : lv_has ls 3 [(0, .ref x)] := hl
  show W p l e ({ frames := 5, cells := 0, slots := 0, locals := 115 } : Room) s m ([.ref x] : List Value).toArray below meth c s.heap [] 0 0 (MQ below (Qsi D (fun r9 w9 => r9 = (D_X3_tellNumbersOfPad P S).1 ∧ w9 = wX x r tr pp h sl ++ (wP Y pp tx P ++ wR Y r q ((D_X3_tellNumbersOfPad P S).2))) A) ([.ref x] : List Value).toArray s 0 0 A) (F0 m 0 ls [])
  refine lv_iconst (v := 0) hx hb dX3_tellNumbersOfPad_0 (by decide) ?_
  refine lv_istore_n (lv' := [(1, .int 0), (0, .ref x)]) hx hb dX3_tellNumbersOfPad_1 rfl hl (by decide) rfl (fun ls hl => ?_)
  refine lv_iconst (v := 0) hx hb dX3_tellNumbersOfPad_2 (by decide) ?_
  refine lv_istore_n (lv' := [(2, .int 0), (1, .int 0), (0, .ref x)]) hx hb dX3_tellNumbersOfPad_3 rfl hl (by decide) rfl (fun ls hl => ?_)
  have loop_4 : ∀ (n_4 k_4 : Nat) (i : Int32) (u : Int32) (S1 : Nat → Nat → Int32) (H : Heap) (locs : List Loc) (ls : Array Slot), len + 1 ≤ k_4 + n_4 → k_4 ≤ len → i = nI k_4 → va_P D vwCl (wX x r tr pp h sl ++ (wP Y pp tx P ++ wR Y r q S1)) H → va_D A (wX x r tr pp h sl ++ (wP Y pp tx P ++ wR Y r q S1)) → va_S A s.heap H locs → lv_has ls 3 [(2, .int i), (1, .int u), (0, .ref x)] → L_X3_tellNumbersOfPad_4 P S n_4 i u S1 = L_X3_tellNumbersOfPad_4 P S 61 0 0 S → W p l e ({ frames := 5, cells := 0, slots := 0, locals := 115 } : Room) s m ([.ref x] : List Value).toArray below meth c H locs 0 0 (MQ below (Qsi D (fun r9 w9 => r9 = (D_X3_tellNumbersOfPad P S).1 ∧ w9 = wX x r tr pp h sl ++ (wP Y pp tx P ++ wR Y r q ((D_X3_tellNumbersOfPad P S).2))) A) ([.ref x] : List Value).toArray s 0 0 A) (F0 m 4 ls []) := by
    intro n_4
    induction n_4 with
    | zero => intro k_4 i u S1 H locs ls hkf hkN_4 ex_4 hP hD hS hl hR_4; exact absurd hkf (by omega)
    | succ n_4 ih_4 =>
      intro k_4 i u S1 H locs ls hkf hkN_4 ex_4 hP hD hS hl hR_4
      refine lv_iload_n hx hb dX3_tellNumbersOfPad_4 rfl (lv_at hl 0 rfl) ?_
      refine lv_aload_n hx hb dX3_tellNumbersOfPad_5 rfl (lv_at hl 2 rfl) ?_
      refine va_get (D := D) (ci := 3) (v := .ref pp) (C := RX3) (T := TX3) (N := 5) hx hb hts in_X3_tellNumbersOfPad_RX3 hown hK.1 hP 0 rfl rfl 2 (by decide) (hts (.fieldLink RX3 22 "NineDancers" "pad" "LNineDancers$Pad;") (by decide +kernel)) (fun _ h9 => h9) rfl dX3_tellNumbersOfPad_6 ?_
      refine va_get (D := D) (ci := 1) (v := .int (P 1 0)) (C := RX1) (T := TX1) (N := 2) hx hb hts in_X3_tellNumbersOfPad_RX1 hown hK.1 hP 1 rfl rfl 1 (by decide) (hts (.fieldLink RX3 143 "NineDancers$Pad" "length" "I") (by decide +kernel)) (fun _ h9 => h9) rfl dX3_tellNumbersOfPad_9 ?_
      refine lv_icmp_ge (tgt := 55) hx hb dX3_tellNumbersOfPad_12 (by decide) (fun c_1 => ?_) (fun c_1 => ?_)
      · have e8 : L_X3_tellNumbersOfPad_4 P S (n_4 + 1) i u S1 = (u, S1) := by rw [L_X3_tellNumbersOfPad_4, if_pos c_1]
        have e8 := hR_4.symm.trans e8
        have eu : (L_X3_tellNumbersOfPad_4 P S 61 0 0 S).1 = u := by rw [e8]
        have eS1 : (L_X3_tellNumbersOfPad_4 P S 61 0 0 S).2 = S1 := by rw [e8]
        clear e8 hR_4 ih_4
        refine lv_iload_n hx hb dX3_tellNumbersOfPad_55 rfl (lv_at hl 1 rfl) ?_
        subst eS1
        subst eu
        have e9 : D_X3_tellNumbersOfPad P S = (((L_X3_tellNumbersOfPad_4 P S 61 0 0 S).1), ((L_X3_tellNumbersOfPad_4 P S 61 0 0 S).2)) := by rw [D_X3_tellNumbersOfPad]
        exact ret_i hx hb hr hlk hP hD hS dX3_tellNumbersOfPad_56 ⟨Nat.zero_le _, Nat.zero_le _⟩ ⟨by rw [e9], by rw [e9]⟩
      · have hk_4 := my_lt ex_4 (show (P 1 0 : Int32) = nI len from hlen) (by omega) hkN_4 c_1
        refine lv_aload_n hx hb dX3_tellNumbersOfPad_15 rfl (lv_at hl 2 rfl) ?_
        refine va_get (D := D) (ci := 3) (v := .ref pp) (C := RX3) (T := TX3) (N := 5) hx hb hts in_X3_tellNumbersOfPad_RX3 hown hK.1 hP 0 rfl rfl 2 (by decide) (hts (.fieldLink RX3 22 "NineDancers" "pad" "LNineDancers$Pad;") (by decide +kernel)) (fun _ h9 => h9) rfl dX3_tellNumbersOfPad_16 ?_
        refine lv_iload_n hx hb dX3_tellNumbersOfPad_19 rfl (lv_at hl 0 rfl) ?_
        refine ck_iD (wr := wX x r tr pp h sl ++ wR Y r q S1) (ws' := wX x r tr pp h sl ++ (wP Y pp tx P ++ wR Y r q S1)) (va_runV (As := [.int i]) (rest := []) ⟨hx, hb, hml, hown, hts⟩ (c_X1_startsCall l D Y H.size tx len P pp i hlen hL (show vp_in i 60 from by rw [ex_4]; exact vp_in_nI (by omega) (by decide))) (cwV 1 hts gX3_tellNumbersOfPad_X1_startsCall rfl rfl rfl (by decide +kernel) ⟨Nat.le_of_ble_eq_true rfl, Nat.le_of_ble_eq_true rfl⟩) (pst_V hK hP hD [1, 2] rfl (by decide) (q0 := 0) rfl rfl) rfl rfl hl.1 rfl (lv_room (Nat.le_of_ble_eq_true rfl)) dX3_tellNumbersOfPad_20 ⟨Nat.zero_le _, Nat.zero_le _⟩) hP hD hS hA [1, 2] [0, 3, 4, 5, 6, 7, 8, 9, 10, 11, 12, 13] [0, 12, 13, 1, 2, 3, 4, 5, 6, 7, 8, 9, 10, 11] rfl rfl (by decide) (by decide) rfl (by decide) (fun H locs hP hD hS => ?_)
        refine lv_if_eq (tgt := 49) hx hb dX3_tellNumbersOfPad_23 (by decide) (fun c_2 => ?_) (fun c_2 => ?_)
        · refine lv_iinc (v := i + 1) (lv' := [(2, .int (i + 1)), (1, .int u), (0, .ref x)]) hx hb dX3_tellNumbersOfPad_49 hl (k := 0) rfl rfl (by decide) rfl (fun ls hl => ?_)
          refine lv_goto (tgt := 4) hx hb dX3_tellNumbersOfPad_52 (by decide) ?_
          exact ih_4 (k_4 + 1) (i + 1) u S1 _ _ _ (by omega) (by omega) (by rw [ex_4]; exact nI_1 k_4)  hP hD hS (lv_sub hl [0, 1, 2] rfl) (by rw [L_X3_tellNumbersOfPad_4, if_neg c_1, if_pos c_2] at hR_4; exact hR_4)
        · refine lv_iload_n hx hb dX3_tellNumbersOfPad_26 rfl (lv_at hl 1 rfl) ?_
          refine lv_aload_n hx hb dX3_tellNumbersOfPad_27 rfl (lv_at hl 2 rfl) ?_
          refine lv_aload_n hx hb dX3_tellNumbersOfPad_28 rfl (lv_at hl 2 rfl) ?_
          refine va_get (D := D) (ci := 3) (v := .ref pp) (C := RX3) (T := TX3) (N := 5) hx hb hts in_X3_tellNumbersOfPad_RX3 hown hK.1 hP 0 rfl rfl 2 (by decide) (hts (.fieldLink RX3 22 "NineDancers" "pad" "LNineDancers$Pad;") (by decide +kernel)) (fun _ h9 => h9) rfl dX3_tellNumbersOfPad_29 ?_
          refine lv_iload_n hx hb dX3_tellNumbersOfPad_32 rfl (lv_at hl 0 rfl) ?_
          refine ck_iD (wr := wX x r tr pp h sl ++ wR Y r q S1) (ws' := wX x r tr pp h sl ++ (wP Y pp tx P ++ wR Y r q S1)) (va_runV (As := [.int i]) (rest := [.ref x, .int u]) ⟨hx, hb, hml, hown, hts⟩ (c_X1_numberAt l D Y H.size tx len P pp i hlen hL (show vp_in i 60 from by rw [ex_4]; exact vp_in_nI (by omega) (by decide)) (by rw [ex_4]; exact hna _ (by omega)) ⟨k_4, hk_4, ex_4⟩) (cwV 1 hts gX3_tellNumbersOfPad_X1_numberAt rfl rfl rfl (by decide +kernel) ⟨Nat.le_of_ble_eq_true rfl, Nat.le_of_ble_eq_true rfl⟩) (pst_V hK hP hD [1, 2] rfl (by decide) (q0 := 0) rfl rfl) rfl rfl hl.1 rfl (lv_room (Nat.le_of_ble_eq_true rfl)) dX3_tellNumbersOfPad_33 ⟨Nat.zero_le _, Nat.zero_le _⟩) hP hD hS hA [1, 2] [0, 3, 4, 5, 6, 7, 8, 9, 10, 11, 12, 13] [0, 12, 13, 1, 2, 3, 4, 5, 6, 7, 8, 9, 10, 11] rfl rfl (by decide) (by decide) rfl (by decide) (fun H locs hP hD hS => ?_)
          refine lv_aload_n hx hb dX3_tellNumbersOfPad_36 rfl (lv_at hl 2 rfl) ?_
          refine va_get (D := D) (ci := 3) (v := .ref pp) (C := RX3) (T := TX3) (N := 5) hx hb hts in_X3_tellNumbersOfPad_RX3 hown hK.1 hP 0 rfl rfl 2 (by decide) (hts (.fieldLink RX3 22 "NineDancers" "pad" "LNineDancers$Pad;") (by decide +kernel)) (fun _ h9 => h9) rfl dX3_tellNumbersOfPad_37 ?_
          refine lv_iload_n hx hb dX3_tellNumbersOfPad_40 rfl (lv_at hl 0 rfl) ?_
          refine ck_iD (wr := wX x r tr pp h sl ++ wR Y r q S1) (ws' := wX x r tr pp h sl ++ (wP Y pp tx P ++ wR Y r q S1)) (va_runV (As := [.int i]) (rest := [.int (D_X1_numberAt P i), .ref x, .int u]) ⟨hx, hb, hml, hown, hts⟩ (c_X1_timesAt l D Y H.size tx len P pp i hlen hL (show vp_in i 60 from by rw [ex_4]; exact vp_in_nI (by omega) (by decide))) (cwV 1 hts gX3_tellNumbersOfPad_X1_timesAt rfl rfl rfl (by decide +kernel) ⟨Nat.le_of_ble_eq_true rfl, Nat.le_of_ble_eq_true rfl⟩) (pst_V hK hP hD [1, 2] rfl (by decide) (q0 := 0) rfl rfl) rfl rfl hl.1 rfl (lv_room (Nat.le_of_ble_eq_true rfl)) dX3_tellNumbersOfPad_41 ⟨Nat.zero_le _, Nat.zero_le _⟩) hP hD hS hA [1, 2] [0, 3, 4, 5, 6, 7, 8, 9, 10, 11, 12, 13] [0, 12, 13, 1, 2, 3, 4, 5, 6, 7, 8, 9, 10, 11] rfl rfl (by decide) (by decide) rfl (by decide) (fun H locs hP hD hS => ?_)
          refine ck_iD (wr := wP Y pp tx P) (ws' := wX x r tr pp h sl ++ (wP Y pp tx P ++ wR Y r q ((D_X3_tell S1 (D_X1_numberAt P i) (D_X1_timesAt P i)).2))) (va_runV (As := [.int (D_X1_numberAt P i), .int (D_X1_timesAt P i)]) (rest := [.int u]) ⟨hx, hb, hml, hown, hts⟩ (c_X3_tell l D Y H.size r tr pp h sl q S1 x (D_X1_numberAt P i) (D_X1_timesAt P i) (ta1 (by rw [ex_4]; exact hna _ (by omega)))) (cwV 2 hts gX3_tellNumbersOfPad_X3_tell rfl rfl rfl (by decide +kernel) ⟨Nat.le_of_ble_eq_true rfl, Nat.le_of_ble_eq_true rfl⟩) (pst_V hK hP hD [0, 3, 4, 5, 6, 7, 8, 9, 10, 11, 12, 13] rfl (by decide) (q0 := 0) rfl rfl) rfl rfl hl.1 rfl (lv_room (Nat.le_of_ble_eq_true rfl)) dX3_tellNumbersOfPad_44 ⟨Nat.zero_le _, Nat.zero_le _⟩) hP hD hS hA [0, 3, 4, 5, 6, 7, 8, 9, 10, 11, 12, 13] [1, 2] [2, 0, 1, 3, 4, 5, 6, 7, 8, 9, 10, 11, 12, 13] rfl rfl (by decide) (by decide) rfl (by decide) (fun H locs hP hD hS => ?_)
          obtain ⟨S_1, eS_1⟩ : ∃ z9, (D_X3_tell S1 (D_X1_numberAt P i) (D_X1_timesAt P i)).2 = z9 := ⟨_, rfl⟩
          rw [eS_1] at hP hD
          refine lv_iadd hx hb dX3_tellNumbersOfPad_47 ?_
          refine lv_istore_n (lv' := [(1, .int (V_X3_tellNumbersOfPad_1 P i u S1)), (2, .int i), (0, .ref x)]) hx hb dX3_tellNumbersOfPad_48 rfl hl (by decide) rfl (fun ls hl => ?_)
          refine lv_iinc (v := i + 1) (lv' := [(2, .int (i + 1)), (1, .int (V_X3_tellNumbersOfPad_1 P i u S1)), (0, .ref x)]) hx hb dX3_tellNumbersOfPad_49 hl (k := 1) rfl rfl (by decide) rfl (fun ls hl => ?_)
          refine lv_goto (tgt := 4) hx hb dX3_tellNumbersOfPad_52 (by decide) ?_
          subst eS_1
          exact ih_4 (k_4 + 1) (i + 1) (V_X3_tellNumbersOfPad_1 P i u S1) ((D_X3_tell S1 (D_X1_numberAt P i) (D_X1_timesAt P i)).2) _ _ _ (by omega) (by omega) (by rw [ex_4]; exact nI_1 k_4)  hP hD hS (lv_sub hl [0, 1, 2] rfl) (by rw [L_X3_tellNumbersOfPad_4, if_neg c_1, if_neg c_2] at hR_4; exact hR_4)
  exact loop_4 61 0 0 0 S _ _ _ (by omega) (Nat.zero_le _) nI_0.symm  hP hD hS (lv_sub hl [0, 1, 2] rfl) rfl

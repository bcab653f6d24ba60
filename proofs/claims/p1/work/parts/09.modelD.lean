def V_X4_charactersOf_1 (lf : Int64) : Int64 := (lf.toUInt64 >>> ((8 : Int32).toInt64.toUInt64 &&& Int64.toUInt64 63)).toInt64
def L_X4_charactersOf_5 (ch : Int64) : Nat → (Int32) → (Int64) → (Int32) × (Int64)
  | 0, i, lf => (i, lf)
  | n_5 + 1, i, lf => if 8 ≤ i then (i, lf) else (if (D_X4_in (lf &&& 255) 33 126) = 0 then (i, lf) else (L_X4_charactersOf_5 ch n_5 (i + 1) (V_X4_charactersOf_1 lf)))
def D_X4_charactersOf  (ch : Int64) : (Int32) := if (lg_cmp ((L_X4_charactersOf_5 ch 9 0 ch).2) 0) = 0 then ((L_X4_charactersOf_5 ch 9 0 ch).1) else 0
set_option maxHeartbeats 4000000 in
set_option maxRecDepth 100000 in
theorem c_X4_charactersOf (l : Launch) (D : va_G) (Y : YY) (sz : Nat) (ch : Int64) : Met l yX4_charactersOf wsX4_charactersOf ({ frames := 1, cells := 0, slots := 0, locals := 25 } : Room) (va_Pc [.long ch] (Pst D Y sz (([] : va_W)))) ((fun A : Nat → Prop => Qsi D (fun r9 w9 => r9 = D_X4_charactersOf ch ∧ w9 = ([] : va_W)) A) (va_A (([] : va_W)) sz)) 0 0 (va_A (([] : va_W)) sz) := by
  refine ct_in (cc := cX4_charactersOf) (maxL := 5) (ret := (some .int)) (Qc := fun A : Nat → Prop => Qsi D (fun r9 w9 => r9 = D_X4_charactersOf ch ∧ w9 = ([] : va_W)) A) (by decide +kernel) rfl (Nat.le_of_ble_eq_true rfl) ?_
  intro p e s m below meth c A ls hx hb hr hts hown hml hlk hin hsz hA hP hD hK hS hl
  have hown : s.vm.findClass RX4 = some m.cls := hown
  have hl : lv_has ls 5 [(0, .long ch)] := hl
  show W p l e ({ frames := 1, cells := 0, slots := 0, locals := 25 } : Room) s m ([.long ch] : List Value).toArray below meth c s.heap [] 0 0 (MQ below (Qsi D (fun r9 w9 => r9 = D_X4_charactersOf ch ∧ w9 = ([] : va_W)) A) ([.long ch] : List Value).toArray s 0 0 A) (F0 m 0 ls [])
  refine lv_lload_n hx hb dX4_charactersOf_0 rfl (lv_at hl 0 rfl) ?_
  refine lv_lstore_n (lv' := [(2, .long ch), (0, .long ch)]) hx hb dX4_charactersOf_1 rfl hl (by decide) rfl (fun ls hl => ?_)
  refine lv_iconst (v := 0) hx hb dX4_charactersOf_2 (by decide) ?_
  refine lv_istore (lv' := [(4, .int 0), (2, .long ch), (0, .long ch)]) hx hb dX4_charactersOf_3 hl (by decide) rfl (fun ls hl => ?_)
  have loop_5 : ∀ (n_5 k_5 : Nat) (i : Int32) (lf : Int64) (H : Heap) (locs : List Loc) (ls : Array Slot), 9 ≤ k_5 + n_5 → k_5 ≤ 8 → i = nI k_5 → va_P D vwCl (([] : va_W)) H → va_D A (([] : va_W)) → va_S A s.heap H locs → lv_has ls 5 [(4, .int i), (2, .long lf), (0, .long ch)] → L_X4_charactersOf_5 ch n_5 i lf = L_X4_charactersOf_5 ch 9 0 ch → W p l e ({ frames := 1, cells := 0, slots := 0, locals := 25 } : Room) s m ([.long ch] : List Value).toArray below meth c H locs 0 0 (MQ below (Qsi D (fun r9 w9 => r9 = D_X4_charactersOf ch ∧ w9 = ([] : va_W)) A) ([.long ch] : List Value).toArray s 0 0 A) (F0 m 5 ls []) := by
    intro n_5
    induction n_5 with
    | zero => intro k_5 i lf H locs ls hkf hkN_5 ex_5 hP hD hS hl hR_5; exact absurd hkf (by omega)
    | succ n_5 ih_5 =>
      intro k_5 i lf H locs ls hkf hkN_5 ex_5 hP hD hS hl hR_5
      refine lv_iload hx hb dX4_charactersOf_5 (lv_at hl 0 rfl) ?_
      refine lv_bipush (v := 8) hx hb dX4_charactersOf_7 (by decide) ?_
      refine lv_icmp_ge (tgt := 40) hx hb dX4_charactersOf_9 (by decide) (fun c_1 => ?_) (fun c_1 => ?_)
      · have e8 : L_X4_charactersOf_5 ch (n_5 + 1) i lf = (i, lf) := by rw [L_X4_charactersOf_5, if_pos c_1]
        have e8 := hR_5.symm.trans e8
        have ei : (L_X4_charactersOf_5 ch 9 0 ch).1 = i := by rw [e8]
        have elf : (L_X4_charactersOf_5 ch 9 0 ch).2 = lf := by rw [e8]
        clear e8 hR_5 ih_5
        refine lv_lload_n hx hb dX4_charactersOf_40 rfl (lv_at hl 1 rfl) ?_
        refine lv_lconst (v := 0) hx hb dX4_charactersOf_41 (by decide) ?_
        refine W.lcmp hx hb dX4_charactersOf_42 ?_
        refine lv_if_ne (tgt := 51) hx hb dX4_charactersOf_43 (by decide) (fun c_2 => ?_) (fun c_2 => ?_)
        · refine lv_iconst (v := 0) hx hb dX4_charactersOf_51 (by decide) ?_
          subst elf
          subst ei
          have e9 : D_X4_charactersOf ch = 0 := by rw [D_X4_charactersOf, if_neg c_2]
          exact ret_i hx hb hr hlk hP hD hS dX4_charactersOf_52 ⟨Nat.zero_le _, Nat.zero_le _⟩ ⟨e9.symm, rfl⟩
        · refine lv_iload hx hb dX4_charactersOf_46 (lv_at hl 0 rfl) ?_
          refine lv_goto (tgt := 52) hx hb dX4_charactersOf_48 (by decide) ?_
          subst elf
          subst ei
          have e9 : D_X4_charactersOf ch = ((L_X4_charactersOf_5 ch 9 0 ch).1) := by rw [D_X4_charactersOf, if_pos c_2]
          exact ret_i hx hb hr hlk hP hD hS dX4_charactersOf_52 ⟨Nat.zero_le _, Nat.zero_le _⟩ ⟨e9.symm, rfl⟩
      · have hk_5 := my_lt ex_5 (show (8 : Int32) = nI 8 from rfl) (by decide) hkN_5 c_1
        refine lv_lload_n hx hb dX4_charactersOf_12 rfl (lv_at hl 1 rfl) ?_
        refine lv_ldc2 (v := 255) hx hb hown (hts (.constantLong RX4 143 (255)) (by decide +kernel)) dX4_charactersOf_13 ?_
        refine lv_land hx hb dX4_charactersOf_16 ?_
        refine lv_ldc2 (v := 33) hx hb hown (hts (.constantLong RX4 145 (33)) (by decide +kernel)) dX4_charactersOf_17 ?_
        refine lv_ldc2 (v := 126) hx hb hown (hts (.constantLong RX4 147 (126)) (by decide +kernel)) dX4_charactersOf_20 ?_
        refine ck_iD (wr := ([] : va_W)) (ws' := ([] : va_W)) (va_runS (As := [.long (lf &&& 255), .long 33, .long 126]) (rest := []) ⟨hx, hb, hml, hown, hts⟩ (c_X4_in l D Y H.size (lf &&& 255) 33 126) (va_cwS 3 hts gX4_charactersOf_X4_in rfl rfl rfl (by decide +kernel) ⟨Nat.le_of_ble_eq_true rfl, Nat.le_of_ble_eq_true rfl⟩) (pst_S hK hP hD [] rfl (by decide)) rfl rfl hl.1 rfl (lv_room (Nat.le_of_ble_eq_true rfl)) dX4_charactersOf_23 ⟨Nat.zero_le _, Nat.zero_le _⟩) hP hD hS hA [] [] [] rfl rfl (by decide) (by decide) rfl (by decide) (fun H locs hP hD hS => ?_)
        refine lv_if_eq (tgt := 40) hx hb dX4_charactersOf_26 (by decide) (fun c_3 => ?_) (fun c_3 => ?_)
        · have e8 : L_X4_charactersOf_5 ch (n_5 + 1) i lf = (i, lf) := by rw [L_X4_charactersOf_5, if_neg c_1, if_pos c_3]
          have e8 := hR_5.symm.trans e8
          have ei : (L_X4_charactersOf_5 ch 9 0 ch).1 = i := by rw [e8]
          have elf : (L_X4_charactersOf_5 ch 9 0 ch).2 = lf := by rw [e8]
          clear e8 hR_5 ih_5
          refine lv_lload_n hx hb dX4_charactersOf_40 rfl (lv_at hl 1 rfl) ?_
          refine lv_lconst (v := 0) hx hb dX4_charactersOf_41 (by decide) ?_
          refine W.lcmp hx hb dX4_charactersOf_42 ?_
          refine lv_if_ne (tgt := 51) hx hb dX4_charactersOf_43 (by decide) (fun c_4 => ?_) (fun c_4 => ?_)
          · refine lv_iconst (v := 0) hx hb dX4_charactersOf_51 (by decide) ?_
            subst elf
            subst ei
            have e9 : D_X4_charactersOf ch = 0 := by rw [D_X4_charactersOf, if_neg c_4]
            exact ret_i hx hb hr hlk hP hD hS dX4_charactersOf_52 ⟨Nat.zero_le _, Nat.zero_le _⟩ ⟨e9.symm, rfl⟩
          · refine lv_iload hx hb dX4_charactersOf_46 (lv_at hl 0 rfl) ?_
            refine lv_goto (tgt := 52) hx hb dX4_charactersOf_48 (by decide) ?_
            subst elf
            subst ei
            have e9 : D_X4_charactersOf ch = ((L_X4_charactersOf_5 ch 9 0 ch).1) := by rw [D_X4_charactersOf, if_pos c_4]
            exact ret_i hx hb hr hlk hP hD hS dX4_charactersOf_52 ⟨Nat.zero_le _, Nat.zero_le _⟩ ⟨e9.symm, rfl⟩
        · refine lv_lload_n hx hb dX4_charactersOf_29 rfl (lv_at hl 1 rfl) ?_
          refine lv_bipush (v := 8) hx hb dX4_charactersOf_30 (by decide) ?_
          refine lv_lushr (v := (lf.toUInt64 >>> ((8 : Int32).toInt64.toUInt64 &&& Int64.toUInt64 63)).toInt64) hx hb dX4_charactersOf_32 rfl ?_
          refine lv_lstore_n (lv' := [(2, .long (V_X4_charactersOf_1 lf)), (4, .int i), (0, .long ch)]) hx hb dX4_charactersOf_33 rfl hl (by decide) rfl (fun ls hl => ?_)
          refine lv_iinc (v := i + 1) (lv' := [(4, .int (i + 1)), (2, .long (V_X4_charactersOf_1 lf)), (0, .long ch)]) hx hb dX4_charactersOf_34 hl (k := 1) rfl rfl (by decide) rfl (fun ls hl => ?_)
          refine lv_goto (tgt := 5) hx hb dX4_charactersOf_37 (by decide) ?_
          exact ih_5 (k_5 + 1) (i + 1) (V_X4_charactersOf_1 lf) _ _ _ (by omega) (by omega) (by rw [ex_5]; exact nI_1 k_5)  hP hD hS (lv_sub hl [0, 1, 2] rfl) (by rw [L_X4_charactersOf_5, if_neg c_1, if_neg c_3] at hR_5; exact hR_5)
  exact loop_5 9 0 0 ch _ _ _ (by omega) (Nat.zero_le _) nI_0.symm  hP hD hS (lv_sub hl [0, 1, 2] rfl) rfl
theorem in_chars5 (ch : Int64) : ∀ (n : Nat) (i : Int32) (lf : Int64), vp_in i 9 → vp_in (L_X4_charactersOf_5 ch n i lf).1 9 := by
  intro n
  induction n with
  | zero => intro i lf h; exact h
  | succ n ih =>
    intro i lf h
    rw [L_X4_charactersOf_5]
    split
    · exact h
    · split
      · exact h
      · rename_i h8 _
        refine ih _ _ ?_
        obtain ⟨j, hj, rfl⟩ := vp_in_of h (by decide)
        have h9 : j < 8 := my_lt rfl (show (8 : Int32) = nI 8 from rfl) (by decide) (by omega) h8
        rw [nI_1]
        exact vp_in_nI (by omega) (by decide)
theorem in_chars (ch : Int64) : vp_in (D_X4_charactersOf ch) 9 := by
  unfold D_X4_charactersOf
  split
  · exact in_chars5 ch _ _ _ (by unfold vp_in; decide)
  · unfold vp_in; decide
def T_X4_put_2 (ch : Int64) (i : Int32) (M1 : Nat → Nat → Int32) : Nat → Nat → Int32 := s2 M1 6 ((M1 9 1) + i).toNatClampNeg ((((ch.toUInt64 >>> ((8 * (((D_X4_charactersOf ch) - 1) - i)).toInt64.toUInt64 &&& Int64.toUInt64 63)).toInt64) &&& 255).toInt32)
def L_X4_put_29 (M : Nat → Nat → Int32) (ch : Int64) : Nat → (Int32) → (Nat → Nat → Int32) → (Nat → Nat → Int32)
  | 0, i, M1 => M1
  | n_29 + 1, i, M1 => if (D_X4_charactersOf ch) ≤ i then M1 else (L_X4_put_29 M ch n_29 (i + 1) (T_X4_put_2 ch i M1))
def T_X4_put_1 (ch : Int64) (M1 : Nat → Nat → Int32) : Nat → Nat → Int32 := s2 M1 9 1 ((M1 9 1) + (D_X4_charactersOf ch))
def D_X4_put (M : Nat → Nat → Int32) (ch : Int64) : (Int32) × (Nat → Nat → Int32) := if (D_X4_charactersOf ch) = 0 then ((-1000002), M) else (if ((M 9 1) + (D_X4_charactersOf ch)) ≤ 60 then ((T_X4_put_1 ch (L_X4_put_29 M ch 10 0 M)) 9 1, (T_X4_put_1 ch (L_X4_put_29 M ch 10 0 M))) else ((-1000004), M))
set_option maxRecDepth 100000 in
theorem in_X4_put_RX4 : ∀ w ∈ u_ws RX4 TX4 13, w ∈ wsX4_put := by decide +kernel
set_option maxHeartbeats 4000000 in
set_option maxRecDepth 100000 in
theorem c_X4_put (l : Launch) (D : va_G) (Y : YY) (sz : Nat) (q : Nat → Nat) (M : Nat → Nat → Int32) (mo : Nat) (ch : Int64) (hT : M 9 1 = 0) : Met l yX4_put wsX4_put ({ frames := 2, cells := 0, slots := 0, locals := 49 } : Room) (va_Pc [.ref mo, .long ch] (Pst D Y sz (wM Y mo q M))) ((fun A : Nat → Prop => Qsi D (fun r9 w9 => r9 = (D_X4_put M ch).1 ∧ w9 = wM Y mo q ((D_X4_put M ch).2)) A) (va_A (wM Y mo q M) sz)) 0 0 (va_A (wM Y mo q M) sz) := by
  refine ct_in (cc := cX4_put) (maxL := 5) (ret := (some .int)) (Qc := fun A : Nat → Prop => Qsi D (fun r9 w9 => r9 = (D_X4_put M ch).1 ∧ w9 = wM Y mo q ((D_X4_put M ch).2)) A) (by decide +kernel) rfl (Nat.le_of_ble_eq_true rfl) ?_
  intro p e s m below meth c A ls hx hb hr hts hown hml hlk hin hsz hA hP hD hK hS hl
  have hown : s.vm.findClass RX4 = some m.cls := hown
  have hl : lv_has ls 5 [(0, .ref mo), (1, .long ch)] := hl
  show W p l e ({ frames := 2, cells := 0, slots := 0, locals := 49 } : Room) s m ([.ref mo, .long ch] : List Value).toArray below meth c s.heap [] 0 0 (MQ below (Qsi D (fun r9 w9 => r9 = (D_X4_put M ch).1 ∧ w9 = wM Y mo q ((D_X4_put M ch).2)) A) ([.ref mo, .long ch] : List Value).toArray s 0 0 A) (F0 m 0 ls [])
  refine lv_lload_n hx hb dX4_put_0 rfl (lv_at hl 1 rfl) ?_
  refine ck_iD (wr := wM Y mo q M) (ws' := wM Y mo q M) (va_runS (As := [.long ch]) (rest := []) ⟨hx, hb, hml, hown, hts⟩ (c_X4_charactersOf l D Y s.heap.size ch) (va_cwS 1 hts gX4_put_X4_charactersOf rfl rfl rfl (by decide +kernel) ⟨Nat.le_of_ble_eq_true rfl, Nat.le_of_ble_eq_true rfl⟩) (pst_S hK hP hD [] rfl (by decide)) rfl rfl hl.1 rfl (lv_room (Nat.le_of_ble_eq_true rfl)) dX4_put_1 ⟨Nat.zero_le _, Nat.zero_le _⟩) hP hD hS hA [] [0, 1, 2, 3, 4, 5, 6, 7, 8, 9] [0, 1, 2, 3, 4, 5, 6, 7, 8, 9] rfl rfl (by decide) (by decide) rfl (by decide) (fun H locs hP hD hS => ?_)
  refine lv_istore_n (lv' := [(3, .int (D_X4_charactersOf ch)), (0, .ref mo), (1, .long ch)]) hx hb dX4_put_4 rfl hl (by decide) rfl (fun ls hl => ?_)
  refine lv_iload_n hx hb dX4_put_5 rfl (lv_at hl 0 rfl) ?_
  refine lv_if_ne (tgt := 12) hx hb dX4_put_6 (by decide) (fun c_1 => ?_) (fun c_1 => ?_)
  · refine lv_aload_n hx hb dX4_put_12 rfl (lv_at hl 1 rfl) ?_
    refine va_get (D := D) (ci := 4) (v := .int (M 9 1)) (C := RX4) (T := TX4) (N := 13) hx hb hts in_X4_put_RX4 hown hK.1 hP 0 rfl rfl 8 (by decide) (hts (.fieldLink RX4 126 "NineDancersModel" "textLong" "I") (by decide +kernel)) (fun _ h9 => h9) rfl dX4_put_13 ?_
    refine lv_iload_n hx hb dX4_put_16 rfl (lv_at hl 0 rfl) ?_
    refine lv_iadd hx hb dX4_put_17 ?_
    refine lv_bipush (v := 60) hx hb dX4_put_18 (by decide) ?_
    refine lv_icmp_le (tgt := 26) hx hb dX4_put_20 (by decide) (fun c_2 => ?_) (fun c_2 => ?_)
    · refine lv_iconst (v := 0) hx hb dX4_put_26 (by decide) ?_
      refine lv_istore (lv' := [(4, .int 0), (3, .int (D_X4_charactersOf ch)), (0, .ref mo), (1, .long ch)]) hx hb dX4_put_27 hl (by decide) rfl (fun ls hl => ?_)
      obtain ⟨nn, hnn, enn⟩ := vp_in_of (in_chars ch) (by decide)
      have loop_29 : ∀ (n_29 k_29 : Nat) (i : Int32) (M1 : Nat → Nat → Int32) (H : Heap) (locs : List Loc) (ls : Array Slot), nn + 1 ≤ k_29 + n_29 → k_29 ≤ nn → i = nI k_29 → (M1 9 1 = 0) → va_P D vwCl (wM Y mo q M1) H → va_D A (wM Y mo q M1) → va_S A s.heap H locs → lv_has ls 5 [(4, .int i), (3, .int (D_X4_charactersOf ch)), (0, .ref mo), (1, .long ch)] → L_X4_put_29 M ch n_29 i M1 = L_X4_put_29 M ch 10 0 M → W p l e ({ frames := 2, cells := 0, slots := 0, locals := 49 } : Room) s m ([.ref mo, .long ch] : List Value).toArray below meth c H locs 0 0 (MQ below (Qsi D (fun r9 w9 => r9 = (D_X4_put M ch).1 ∧ w9 = wM Y mo q ((D_X4_put M ch).2)) A) ([.ref mo, .long ch] : List Value).toArray s 0 0 A) (F0 m 29 ls []) := by
        intro n_29
        induction n_29 with
        | zero => intro k_29 i M1 H locs ls hkf hkN_29 ex_29 hM hP hD hS hl hR_29; exact absurd hkf (by omega)
        | succ n_29 ih_29 =>
          intro k_29 i M1 H locs ls hkf hkN_29 ex_29 hM hP hD hS hl hR_29
          refine lv_iload hx hb dX4_put_29 (lv_at hl 0 rfl) ?_
          refine lv_iload_n hx hb dX4_put_31 rfl (lv_at hl 1 rfl) ?_
          refine lv_icmp_ge (tgt := 69) hx hb dX4_put_32 (by decide) (fun c_3 => ?_) (fun c_3 => ?_)
          · have e8 : L_X4_put_29 M ch (n_29 + 1) i M1 = M1 := by rw [L_X4_put_29, if_pos c_3]
            have e8 := hR_29.symm.trans e8
            have eM1 : L_X4_put_29 M ch 10 0 M = M1 := by rw [e8]
            clear e8 hR_29 ih_29
            refine lv_aload_n hx hb dX4_put_69 rfl (lv_at hl 2 rfl) ?_
            refine lv_dup hx hb dX4_put_70 rfl ?_
            refine va_get (D := D) (ci := 4) (v := .int (M1 9 1)) (C := RX4) (T := TX4) (N := 13) hx hb hts in_X4_put_RX4 hown hK.1 hP 0 rfl rfl 8 (by decide) (hts (.fieldLink RX4 126 "NineDancersModel" "textLong" "I") (by decide +kernel)) (fun _ h9 => h9) rfl dX4_put_71 ?_
            refine lv_iload_n hx hb dX4_put_74 rfl (lv_at hl 1 rfl) ?_
            refine lv_iadd hx hb dX4_put_75 ?_
            refine va_put (D := D) (ci := 4) (v := .int ((M1 9 1) + (D_X4_charactersOf ch))) (ty := .int) (C := RX4) (T := TX4) (N := 13) hx hb hts in_X4_put_RX4 tyX4 tyX4_ok nmX4 hown hK.1 hP hD hS 0 rfl rfl 8 (by decide) (hts (.fieldLink RX4 126 "NineDancersModel" "textLong" "I") (by decide +kernel)) (fun _ h9 => h9) rfl (by decide +kernel) rfl rfl (Nat.le_of_ble_eq_true rfl) dX4_put_76 (fun H locs hP hD hS => ?_)
            have hP : va_P D vwCl (wM Y mo q (T_X4_put_1 ch M1)) H := hP
            have hD : va_D A (wM Y mo q (T_X4_put_1 ch M1)) := hD
            obtain ⟨S_1, eS_1⟩ : ∃ z9, T_X4_put_1 ch M1 = z9 := ⟨_, rfl⟩
            rw [eS_1] at hP hD
            refine lv_aload_n hx hb dX4_put_79 rfl (lv_at hl 2 rfl) ?_
            refine va_get (D := D) (ci := 4) (v := .int (S_1 9 1)) (C := RX4) (T := TX4) (N := 13) hx hb hts in_X4_put_RX4 hown hK.1 hP 0 rfl rfl 8 (by decide) (hts (.fieldLink RX4 126 "NineDancersModel" "textLong" "I") (by decide +kernel)) (fun _ h9 => h9) rfl dX4_put_80 ?_
            subst eS_1
            subst eM1
            have e9 : D_X4_put M ch = ((T_X4_put_1 ch (L_X4_put_29 M ch 10 0 M)) 9 1, (T_X4_put_1 ch (L_X4_put_29 M ch 10 0 M))) := by rw [D_X4_put, if_neg c_1, if_pos c_2]
            exact ret_i hx hb hr hlk hP hD hS dX4_put_83 ⟨Nat.zero_le _, Nat.zero_le _⟩ ⟨by rw [e9], by rw [e9]⟩
          · have hk_29 := my_lt ex_29 (show (D_X4_charactersOf ch : Int32) = nI nn from enn) (by omega) hkN_29 c_3
            refine lv_aload_n hx hb dX4_put_35 rfl (lv_at hl 2 rfl) ?_
            refine va_get (D := D) (ci := 4) (v := .ref (q 6)) (C := RX4) (T := TX4) (N := 13) hx hb hts in_X4_put_RX4 hown hK.1 hP 0 rfl rfl 7 (by decide) (hts (.fieldLink RX4 28 "NineDancersModel" "text" "[I") (by decide +kernel)) (fun _ h9 => h9) rfl dX4_put_36 ?_
            refine lv_aload_n hx hb dX4_put_39 rfl (lv_at hl 2 rfl) ?_
            refine va_get (D := D) (ci := 4) (v := .int (M1 9 1)) (C := RX4) (T := TX4) (N := 13) hx hb hts in_X4_put_RX4 hown hK.1 hP 0 rfl rfl 8 (by decide) (hts (.fieldLink RX4 126 "NineDancersModel" "textLong" "I") (by decide +kernel)) (fun _ h9 => h9) rfl dX4_put_40 ?_
            refine lv_iload hx hb dX4_put_43 (lv_at hl 0 rfl) ?_
            refine lv_iadd hx hb dX4_put_45 ?_
            refine lv_lload_n hx hb dX4_put_46 rfl (lv_at hl 3 rfl) ?_
            refine lv_bipush (v := 8) hx hb dX4_put_47 (by decide) ?_
            refine lv_iload_n hx hb dX4_put_49 rfl (lv_at hl 1 rfl) ?_
            refine lv_iconst (v := 1) hx hb dX4_put_50 (by decide) ?_
            refine lv_isub hx hb dX4_put_51 ?_
            refine lv_iload hx hb dX4_put_52 (lv_at hl 0 rfl) ?_
            refine lv_isub hx hb dX4_put_54 ?_
            refine lv_imul hx hb dX4_put_55 ?_
            refine lv_lushr (v := (ch.toUInt64 >>> ((8 * (((D_X4_charactersOf ch) - 1) - i)).toInt64.toUInt64 &&& Int64.toUInt64 63)).toInt64) hx hb dX4_put_56 rfl ?_
            refine lv_ldc2 (v := 255) hx hb hown (hts (.constantLong RX4 143 (255)) (by decide +kernel)) dX4_put_57 ?_
            refine lv_land hx hb dX4_put_60 ?_
            refine lv_l2i (v := (((ch.toUInt64 >>> ((8 * (((D_X4_charactersOf ch) - 1) - i)).toInt64.toUInt64 &&& Int64.toUInt64 63)).toInt64) &&& 255).toInt32) hx hb dX4_put_61 rfl ?_
            refine va_iast (D := D) hx hb hK.1 hP hD hS 7 0 rfl rfl (by rw [hM]; exact my_off 0 (n := 9) (by rw [ex_29]; exact vp_in_nI (by omega) (by decide)) (by decide) (by decide)) dX4_put_62 (fun H locs hP hD hS => ?_)
            have hP : va_P D vwCl (wM Y mo q (T_X4_put_2 ch i M1)) H := hP
            have hD : va_D A (wM Y mo q (T_X4_put_2 ch i M1)) := hD
            obtain ⟨S_2, eS_2⟩ : ∃ z9, T_X4_put_2 ch i M1 = z9 := ⟨_, rfl⟩
            rw [eS_2] at hP hD
            refine lv_iinc (v := i + 1) (lv' := [(4, .int (i + 1)), (3, .int (D_X4_charactersOf ch)), (0, .ref mo), (1, .long ch)]) hx hb dX4_put_63 hl (k := 0) rfl rfl (by decide) rfl (fun ls hl => ?_)
            refine lv_goto (tgt := 29) hx hb dX4_put_66 (by decide) ?_
            subst eS_2
            exact ih_29 (k_29 + 1) (i + 1) (T_X4_put_2 ch i M1) _ _ _ (by omega) (by omega) (by rw [ex_29]; exact nI_1 k_29) hM hP hD hS (lv_sub hl [0, 1, 2, 3] rfl) (by rw [L_X4_put_29, if_neg c_3] at hR_29; exact hR_29)
      exact loop_29 10 0 0 M _ _ _ (by omega) (Nat.zero_le _) nI_0.symm hT hP hD hS (lv_sub hl [0, 1, 2, 3] rfl) rfl
    · refine lv_ldc (v := (-1000004)) hx hb hown (hts (.constant RX4 107 (-1000004)) (by decide +kernel)) dX4_put_23 ?_
      have e9 : D_X4_put M ch = ((-1000004), M) := by rw [D_X4_put, if_neg c_1, if_neg c_2]
      exact ret_i hx hb hr hlk hP hD hS dX4_put_25 ⟨Nat.zero_le _, Nat.zero_le _⟩ ⟨by rw [e9], by rw [e9]⟩
  · refine lv_ldc (v := (-1000002)) hx hb hown (hts (.constant RX4 91 (-1000002)) (by decide +kernel)) dX4_put_9 ?_
    have e9 : D_X4_put M ch = ((-1000002), M) := by rw [D_X4_put, if_pos c_1]
    exact ret_i hx hb hr hlk hP hD hS dX4_put_11 ⟨Nat.zero_le _, Nat.zero_le _⟩ ⟨by rw [e9], by rw [e9]⟩
def T_X4_wipe_1 (M : Nat → Nat → Int32) : Nat → Nat → Int32 := s2 M 9 1 0
def D_X4_wipe (M : Nat → Nat → Int32)  : (Int32) × (Nat → Nat → Int32) := (M 9 1, (T_X4_wipe_1 M))
set_option maxRecDepth 100000 in
theorem in_X4_wipe_RX4 : ∀ w ∈ u_ws RX4 TX4 13, w ∈ wsX4_wipe := by decide +kernel
set_option maxHeartbeats 4000000 in
set_option maxRecDepth 100000 in
theorem c_X4_wipe (l : Launch) (D : va_G) (Y : YY) (sz : Nat) (q : Nat → Nat) (M : Nat → Nat → Int32) (mo : Nat) : Met l yX4_wipe wsX4_wipe ({ frames := 0, cells := 0, slots := 0, locals := 0 } : Room) (va_Pc [.ref mo] (Pst D Y sz (wM Y mo q M))) ((fun A : Nat → Prop => Qsi D (fun r9 w9 => r9 = (D_X4_wipe M).1 ∧ w9 = wM Y mo q ((D_X4_wipe M).2)) A) (va_A (wM Y mo q M) sz)) 0 0 (va_A (wM Y mo q M) sz) := by
  refine ct_in (cc := cX4_wipe) (maxL := 2) (ret := (some .int)) (Qc := fun A : Nat → Prop => Qsi D (fun r9 w9 => r9 = (D_X4_wipe M).1 ∧ w9 = wM Y mo q ((D_X4_wipe M).2)) A) (by decide +kernel) rfl (Nat.le_of_ble_eq_true rfl) ?_
  intro p e s m below meth c A ls hx hb hr hts hown hml hlk hin hsz hA hP hD hK hS hl
  have hown : s.vm.findClass RX4 = some m.cls := hown
  have hl : lv_has ls 2 [(0, .ref mo)] := hl
  show W p l e ({ frames := 0, cells := 0, slots := 0, locals := 0 } : Room) s m ([.ref mo] : List Value).toArray below meth c s.heap [] 0 0 (MQ below (Qsi D (fun r9 w9 => r9 = (D_X4_wipe M).1 ∧ w9 = wM Y mo q ((D_X4_wipe M).2)) A) ([.ref mo] : List Value).toArray s 0 0 A) (F0 m 0 ls [])
  refine lv_aload_n hx hb dX4_wipe_0 rfl (lv_at hl 0 rfl) ?_
  refine va_get (D := D) (ci := 4) (v := .int (M 9 1)) (C := RX4) (T := TX4) (N := 13) hx hb hts in_X4_wipe_RX4 hown hK.1 hP 0 rfl rfl 8 (by decide) (hts (.fieldLink RX4 126 "NineDancersModel" "textLong" "I") (by decide +kernel)) (fun _ h9 => h9) rfl dX4_wipe_1 ?_
  refine lv_istore_n (lv' := [(1, .int (M 9 1)), (0, .ref mo)]) hx hb dX4_wipe_4 rfl hl (by decide) rfl (fun ls hl => ?_)
  refine lv_aload_n hx hb dX4_wipe_5 rfl (lv_at hl 1 rfl) ?_
  refine lv_iconst (v := 0) hx hb dX4_wipe_6 (by decide) ?_
  refine va_put (D := D) (ci := 4) (v := .int 0) (ty := .int) (C := RX4) (T := TX4) (N := 13) hx hb hts in_X4_wipe_RX4 tyX4 tyX4_ok nmX4 hown hK.1 hP hD hS 0 rfl rfl 8 (by decide) (hts (.fieldLink RX4 126 "NineDancersModel" "textLong" "I") (by decide +kernel)) (fun _ h9 => h9) rfl (by decide +kernel) rfl rfl (Nat.le_of_ble_eq_true rfl) dX4_wipe_7 (fun H locs hP hD hS => ?_)
  have hP : va_P D vwCl (wM Y mo q (T_X4_wipe_1 M)) H := hP
  have hD : va_D A (wM Y mo q (T_X4_wipe_1 M)) := hD
  obtain ⟨S_1, eS_1⟩ : ∃ z9, T_X4_wipe_1 M = z9 := ⟨_, rfl⟩
  rw [eS_1] at hP hD
  refine lv_iload_n hx hb dX4_wipe_10 rfl (lv_at hl 0 rfl) ?_
  subst eS_1
  have e9 : D_X4_wipe M = (M 9 1, (T_X4_wipe_1 M)) := by rw [D_X4_wipe]
  exact ret_i hx hb hr hlk hP hD hS dX4_wipe_11 ⟨Nat.zero_le _, Nat.zero_le _⟩ ⟨by rw [e9], by rw [e9]⟩
def D_X4_isHere (M : Nat → Nat → Int32) (a : Int32) (b : Int32) : (Int32) := 0
set_option maxRecDepth 100000 in
theorem in_X4_isHere_RX4 : ∀ w ∈ u_ws RX4 TX4 13, w ∈ wsX4_isHere := by decide +kernel
set_option maxHeartbeats 4000000 in
set_option maxRecDepth 100000 in
theorem c_X4_isHere (l : Launch) (D : va_G) (Y : YY) (sz : Nat) (q : Nat → Nat) (M : Nat → Nat → Int32) (mo : Nat) (a : Int32) (b : Int32) (hT : M 9 1 = 0) (hs : M 9 2 = 0) : Met l yX4_isHere wsX4_isHere ({ frames := 0, cells := 0, slots := 0, locals := 0 } : Room) (va_Pc [.ref mo, .int a, .int b] (Pst D Y sz (wM Y mo q M))) ((fun A : Nat → Prop => Qsi D (fun r9 w9 => r9 = D_X4_isHere M a b ∧ w9 = wM Y mo q M) A) (va_A (wM Y mo q M) sz)) 0 0 (va_A (wM Y mo q M) sz) := by
  refine ct_in (cc := cX4_isHere) (maxL := 3) (ret := (some .boolean)) (Qc := fun A : Nat → Prop => Qsi D (fun r9 w9 => r9 = D_X4_isHere M a b ∧ w9 = wM Y mo q M) A) (by decide +kernel) rfl (Nat.le_of_ble_eq_true rfl) ?_
  intro p e s m below meth c A ls hx hb hr hts hown hml hlk hin hsz hA hP hD hK hS hl
  have hown : s.vm.findClass RX4 = some m.cls := hown
  have hl : lv_has ls 3 [(0, .ref mo), (1, .int a), (2, .int b)] := hl
  show W p l e ({ frames := 0, cells := 0, slots := 0, locals := 0 } : Room) s m ([.ref mo, .int a, .int b] : List Value).toArray below meth c s.heap [] 0 0 (MQ below (Qsi D (fun r9 w9 => r9 = D_X4_isHere M a b ∧ w9 = wM Y mo q M) A) ([.ref mo, .int a, .int b] : List Value).toArray s 0 0 A) (F0 m 0 ls [])
  refine lv_aload_n hx hb dX4_isHere_0 rfl (lv_at hl 0 rfl) ?_
  refine va_get (D := D) (ci := 4) (v := .int (M 9 2)) (C := RX4) (T := TX4) (N := 13) hx hb hts in_X4_isHere_RX4 hown hK.1 hP 0 rfl rfl 9 (by decide) (hts (.fieldLink RX4 153 "NineDancersModel" "spot" "I") (by decide +kernel)) (fun _ h9 => h9) rfl dX4_isHere_1 ?_
  refine lv_aload_n hx hb dX4_isHere_4 rfl (lv_at hl 0 rfl) ?_
  refine va_get (D := D) (ci := 4) (v := .int (M 9 1)) (C := RX4) (T := TX4) (N := 13) hx hb hts in_X4_isHere_RX4 hown hK.1 hP 0 rfl rfl 8 (by decide) (hts (.fieldLink RX4 126 "NineDancersModel" "textLong" "I") (by decide +kernel)) (fun _ h9 => h9) rfl dX4_isHere_5 ?_
  refine lv_icmp_ge (tgt := 35) hx hb dX4_isHere_8 (by decide) (fun c_1 => ?_) (fun c_1 => ?_)
  · refine lv_iconst (v := 0) hx hb dX4_isHere_35 (by decide) ?_
    have e9 : D_X4_isHere M a b = 0 := by rw [D_X4_isHere]
    exact ret_z hx hb hr rfl hlk hP hD hS dX4_isHere_36 ⟨Nat.zero_le _, Nat.zero_le _⟩ ⟨e9.symm, rfl⟩
  · exact absurd c_1 (fun q => q (by rw [hT, hs]; decide))
theorem z_X4_isHere (M : Nat → Nat → Int32) (a b : Int32) : D_X4_isHere M a b = 0 ∨ D_X4_isHere M a b = 1 := Or.inl rfl
def T_X4_takesOne_1 (M : Nat → Nat → Int32) : Nat → Nat → Int32 := s2 M 9 2 ((M 9 2) + 0)
def T_X4_takesOne_2 (M : Nat → Nat → Int32) : Nat → Nat → Int32 := s2 M 9 2 ((M 9 2) + 1)
def D_X4_takesOne (M : Nat → Nat → Int32) (a : Int32) : (Int32) × (Nat → Nat → Int32) := if (D_X4_isHere M a a) = 0 then (D_X4_isHere M a a, (T_X4_takesOne_1 M)) else (D_X4_isHere M a a, (T_X4_takesOne_2 M))
set_option maxRecDepth 100000 in
theorem in_X4_takesOne_RX4 : ∀ w ∈ u_ws RX4 TX4 13, w ∈ wsX4_takesOne := by decide +kernel
set_option maxHeartbeats 4000000 in
set_option maxRecDepth 100000 in
theorem c_X4_takesOne (l : Launch) (D : va_G) (Y : YY) (sz : Nat) (q : Nat → Nat) (M : Nat → Nat → Int32) (mo : Nat) (a : Int32) (hT : M 9 1 = 0) (hs : M 9 2 = 0) : Met l yX4_takesOne wsX4_takesOne ({ frames := 1, cells := 0, slots := 0, locals := 22 } : Room) (va_Pc [.ref mo, .int a] (Pst D Y sz (wM Y mo q M))) ((fun A : Nat → Prop => Qsi D (fun r9 w9 => r9 = (D_X4_takesOne M a).1 ∧ w9 = wM Y mo q ((D_X4_takesOne M a).2)) A) (va_A (wM Y mo q M) sz)) 0 0 (va_A (wM Y mo q M) sz) := by
  refine ct_in (cc := cX4_takesOne) (maxL := 3) (ret := (some .boolean)) (Qc := fun A : Nat → Prop => Qsi D (fun r9 w9 => r9 = (D_X4_takesOne M a).1 ∧ w9 = wM Y mo q ((D_X4_takesOne M a).2)) A) (by decide +kernel) rfl (Nat.le_of_ble_eq_true rfl) ?_
  intro p e s m below meth c A ls hx hb hr hts hown hml hlk hin hsz hA hP hD hK hS hl
  have hown : s.vm.findClass RX4 = some m.cls := hown
  have hl : lv_has ls 3 [(0, .ref mo), (1, .int a)] := hl
  show W p l e ({ frames := 1, cells := 0, slots := 0, locals := 22 } : Room) s m ([.ref mo, .int a] : List Value).toArray below meth c s.heap [] 0 0 (MQ below (Qsi D (fun r9 w9 => r9 = (D_X4_takesOne M a).1 ∧ w9 = wM Y mo q ((D_X4_takesOne M a).2)) A) ([.ref mo, .int a] : List Value).toArray s 0 0 A) (F0 m 0 ls [])
  refine lv_aload_n hx hb dX4_takesOne_0 rfl (lv_at hl 0 rfl) ?_
  refine lv_iload_n hx hb dX4_takesOne_1 rfl (lv_at hl 1 rfl) ?_
  refine lv_iload_n hx hb dX4_takesOne_2 rfl (lv_at hl 1 rfl) ?_
  refine ck_iD (wr := ([] : va_W)) (ws' := wM Y mo q M) (va_runV (As := [.int a, .int a]) (rest := []) ⟨hx, hb, hml, hown, hts⟩ (c_X4_isHere l D Y s.heap.size q M mo a a hT hs) (cwV 2 hts gX4_takesOne_X4_isHere rfl rfl rfl (by decide +kernel) ⟨Nat.le_of_ble_eq_true rfl, Nat.le_of_ble_eq_true rfl⟩) (pst_V hK hP hD [0, 1, 2, 3, 4, 5, 6, 7, 8, 9] rfl (by decide) (q0 := 0) rfl rfl) rfl rfl hl.1 rfl (lv_room (Nat.le_of_ble_eq_true rfl)) dX4_takesOne_3 ⟨Nat.zero_le _, Nat.zero_le _⟩) hP hD hS hA [0, 1, 2, 3, 4, 5, 6, 7, 8, 9] [] [0, 1, 2, 3, 4, 5, 6, 7, 8, 9] rfl rfl (by decide) (by decide) rfl (by decide) (fun H locs hP hD hS => ?_)
  refine lv_istore_n (lv' := [(2, .int (D_X4_isHere M a a)), (0, .ref mo), (1, .int a)]) hx hb dX4_takesOne_6 rfl hl (by decide) rfl (fun ls hl => ?_)
  refine lv_aload_n hx hb dX4_takesOne_7 rfl (lv_at hl 1 rfl) ?_
  refine lv_dup hx hb dX4_takesOne_8 rfl ?_
  refine va_get (D := D) (ci := 4) (v := .int (M 9 2)) (C := RX4) (T := TX4) (N := 13) hx hb hts in_X4_takesOne_RX4 hown hK.1 hP 0 rfl rfl 9 (by decide) (hts (.fieldLink RX4 153 "NineDancersModel" "spot" "I") (by decide +kernel)) (fun _ h9 => h9) rfl dX4_takesOne_9 ?_
  refine lv_iload_n hx hb dX4_takesOne_12 rfl (lv_at hl 0 rfl) ?_
  refine lv_if_eq (tgt := 20) hx hb dX4_takesOne_13 (by decide) (fun c_1 => ?_) (fun c_1 => ?_)
  · refine lv_iconst (v := 0) hx hb dX4_takesOne_20 (by decide) ?_
    refine lv_iadd hx hb dX4_takesOne_21 ?_
    refine va_put (D := D) (ci := 4) (v := .int ((M 9 2) + 0)) (ty := .int) (C := RX4) (T := TX4) (N := 13) hx hb hts in_X4_takesOne_RX4 tyX4 tyX4_ok nmX4 hown hK.1 hP hD hS 0 rfl rfl 9 (by decide) (hts (.fieldLink RX4 153 "NineDancersModel" "spot" "I") (by decide +kernel)) (fun _ h9 => h9) rfl (by decide +kernel) rfl rfl (Nat.le_of_ble_eq_true rfl) dX4_takesOne_22 (fun H locs hP hD hS => ?_)
    have hP : va_P D vwCl (wM Y mo q (T_X4_takesOne_1 M)) H := hP
    have hD : va_D A (wM Y mo q (T_X4_takesOne_1 M)) := hD
    obtain ⟨S_1, eS_1⟩ : ∃ z9, T_X4_takesOne_1 M = z9 := ⟨_, rfl⟩
    rw [eS_1] at hP hD
    refine lv_iload_n hx hb dX4_takesOne_25 rfl (lv_at hl 0 rfl) ?_
    subst eS_1
    have e9 : D_X4_takesOne M a = (D_X4_isHere M a a, (T_X4_takesOne_1 M)) := by rw [D_X4_takesOne, if_pos c_1]
    exact ret_z hx hb hr (nar01 (z_X4_isHere _ _ _)) hlk hP hD hS dX4_takesOne_26 ⟨Nat.zero_le _, Nat.zero_le _⟩ ⟨by rw [e9], by rw [e9]⟩
  · refine lv_iconst (v := 1) hx hb dX4_takesOne_16 (by decide) ?_
    refine lv_goto (tgt := 21) hx hb dX4_takesOne_17 (by decide) ?_
    refine lv_iadd hx hb dX4_takesOne_21 ?_
    refine va_put (D := D) (ci := 4) (v := .int ((M 9 2) + 1)) (ty := .int) (C := RX4) (T := TX4) (N := 13) hx hb hts in_X4_takesOne_RX4 tyX4 tyX4_ok nmX4 hown hK.1 hP hD hS 0 rfl rfl 9 (by decide) (hts (.fieldLink RX4 153 "NineDancersModel" "spot" "I") (by decide +kernel)) (fun _ h9 => h9) rfl (by decide +kernel) rfl rfl (Nat.le_of_ble_eq_true rfl) dX4_takesOne_22 (fun H locs hP hD hS => ?_)
    have hP : va_P D vwCl (wM Y mo q (T_X4_takesOne_2 M)) H := hP
    have hD : va_D A (wM Y mo q (T_X4_takesOne_2 M)) := hD
    obtain ⟨S_2, eS_2⟩ : ∃ z9, T_X4_takesOne_2 M = z9 := ⟨_, rfl⟩
    rw [eS_2] at hP hD
    refine lv_iload_n hx hb dX4_takesOne_25 rfl (lv_at hl 0 rfl) ?_
    subst eS_2
    have e9 : D_X4_takesOne M a = (D_X4_isHere M a a, (T_X4_takesOne_2 M)) := by rw [D_X4_takesOne, if_neg c_1]
    exact ret_z hx hb hr (nar01 (z_X4_isHere _ _ _)) hlk hP hD hS dX4_takesOne_26 ⟨Nat.zero_le _, Nat.zero_le _⟩ ⟨by rw [e9], by rw [e9]⟩
def D_X4_number (M : Nat → Nat → Int32)  : (Int32) := (-1)
set_option maxHeartbeats 4000000 in
set_option maxRecDepth 100000 in
theorem c_X4_number (l : Launch) (D : va_G) (Y : YY) (sz : Nat) (q : Nat → Nat) (M : Nat → Nat → Int32) (mo : Nat) (hT : M 9 1 = 0) (hs : M 9 2 = 0) : Met l yX4_number wsX4_number ({ frames := 1, cells := 0, slots := 0, locals := 22 } : Room) (va_Pc [.ref mo] (Pst D Y sz (wM Y mo q M))) ((fun A : Nat → Prop => Qsi D (fun r9 w9 => r9 = D_X4_number M ∧ w9 = wM Y mo q M) A) (va_A (wM Y mo q M) sz)) 0 0 (va_A (wM Y mo q M) sz) := by
  refine ct_in (cc := cX4_number) (maxL := 2) (ret := (some .int)) (Qc := fun A : Nat → Prop => Qsi D (fun r9 w9 => r9 = D_X4_number M ∧ w9 = wM Y mo q M) A) (by decide +kernel) rfl (Nat.le_of_ble_eq_true rfl) ?_
  intro p e s m below meth c A ls hx hb hr hts hown hml hlk hin hsz hA hP hD hK hS hl
  have hown : s.vm.findClass RX4 = some m.cls := hown
  have hl : lv_has ls 2 [(0, .ref mo)] := hl
  show W p l e ({ frames := 1, cells := 0, slots := 0, locals := 22 } : Room) s m ([.ref mo] : List Value).toArray below meth c s.heap [] 0 0 (MQ below (Qsi D (fun r9 w9 => r9 = D_X4_number M ∧ w9 = wM Y mo q M) A) ([.ref mo] : List Value).toArray s 0 0 A) (F0 m 0 ls [])
  refine lv_aload_n hx hb dX4_number_0 rfl (lv_at hl 0 rfl) ?_
  refine lv_bipush (v := 48) hx hb dX4_number_1 (by decide) ?_
  refine lv_bipush (v := 57) hx hb dX4_number_3 (by decide) ?_
  refine ck_iD (wr := ([] : va_W)) (ws' := wM Y mo q M) (va_runV (As := [.int 48, .int 57]) (rest := []) ⟨hx, hb, hml, hown, hts⟩ (c_X4_isHere l D Y s.heap.size q M mo 48 57 hT hs) (cwV 2 hts gX4_number_X4_isHere rfl rfl rfl (by decide +kernel) ⟨Nat.le_of_ble_eq_true rfl, Nat.le_of_ble_eq_true rfl⟩) (pst_V hK hP hD [0, 1, 2, 3, 4, 5, 6, 7, 8, 9] rfl (by decide) (q0 := 0) rfl rfl) rfl rfl hl.1 rfl (lv_room (Nat.le_of_ble_eq_true rfl)) dX4_number_5 ⟨Nat.zero_le _, Nat.zero_le _⟩) hP hD hS hA [0, 1, 2, 3, 4, 5, 6, 7, 8, 9] [] [0, 1, 2, 3, 4, 5, 6, 7, 8, 9] rfl rfl (by decide) (by decide) rfl (by decide) (fun H locs hP hD hS => ?_)
  refine lv_if_ne (tgt := 13) hx hb dX4_number_8 (by decide) (fun c_1 => ?_) (fun c_1 => ?_)
  · exact absurd c_1 (fun q => q rfl)
  · refine lv_iconst (v := (-1)) hx hb dX4_number_11 (by decide) ?_
    have e9 : D_X4_number M = (-1) := by rw [D_X4_number]
    exact ret_i hx hb hr hlk hP hD hS dX4_number_12 ⟨Nat.zero_le _, Nat.zero_le _⟩ ⟨e9.symm, rfl⟩
def T_X4_readsCall_1 (M : Nat → Nat → Int32) : Nat → Nat → Int32 := s2 M 7 (M 9 3).toNatClampNeg 1
def T_X4_readsCall_2 (M : Nat → Nat → Int32) (S_1 : Nat → Nat → Int32) : Nat → Nat → Int32 := s2 S_1 8 (S_1 9 3).toNatClampNeg (D_X4_number M)
def T_X4_readsCall_3 (S_2 : Nat → Nat → Int32) : Nat → Nat → Int32 := s2 S_2 9 3 ((S_2 9 3) + 1)
def D_X4_readsCall (M : Nat → Nat → Int32)  : (Int32) × (Nat → Nat → Int32) := if (D_X4_number M) < 0 then (0, (T_X4_readsCall_3 (T_X4_readsCall_2 M (T_X4_readsCall_1 M)))) else (1, (T_X4_readsCall_3 (T_X4_readsCall_2 M (T_X4_readsCall_1 M))))
set_option maxRecDepth 100000 in
theorem in_X4_readsCall_RX4 : ∀ w ∈ u_ws RX4 TX4 13, w ∈ wsX4_readsCall := by decide +kernel
set_option maxHeartbeats 4000000 in
set_option maxRecDepth 100000 in
theorem c_X4_readsCall (l : Launch) (D : va_G) (Y : YY) (sz : Nat) (q : Nat → Nat) (M : Nat → Nat → Int32) (mo : Nat) (hT : M 9 1 = 0) (hs : M 9 2 = 0) (hrd : M 9 3 = 0) : Met l yX4_readsCall wsX4_readsCall ({ frames := 2, cells := 0, slots := 0, locals := 43 } : Room) (va_Pc [.ref mo] (Pst D Y sz (wM Y mo q M))) ((fun A : Nat → Prop => Qsi D (fun r9 w9 => r9 = (D_X4_readsCall M).1 ∧ w9 = wM Y mo q ((D_X4_readsCall M).2)) A) (va_A (wM Y mo q M) sz)) 0 0 (va_A (wM Y mo q M) sz) := by
  refine ct_in (cc := cX4_readsCall) (maxL := 2) (ret := (some .boolean)) (Qc := fun A : Nat → Prop => Qsi D (fun r9 w9 => r9 = (D_X4_readsCall M).1 ∧ w9 = wM Y mo q ((D_X4_readsCall M).2)) A) (by decide +kernel) rfl (Nat.le_of_ble_eq_true rfl) ?_
  intro p e s m below meth c A ls hx hb hr hts hown hml hlk hin hsz hA hP hD hK hS hl
  have hown : s.vm.findClass RX4 = some m.cls := hown
  have hl : lv_has ls 2 [(0, .ref mo)] := hl
  show W p l e ({ frames := 2, cells := 0, slots := 0, locals := 43 } : Room) s m ([.ref mo] : List Value).toArray below meth c s.heap [] 0 0 (MQ below (Qsi D (fun r9 w9 => r9 = (D_X4_readsCall M).1 ∧ w9 = wM Y mo q ((D_X4_readsCall M).2)) A) ([.ref mo] : List Value).toArray s 0 0 A) (F0 m 0 ls [])
  refine lv_aload_n hx hb dX4_readsCall_0 rfl (lv_at hl 0 rfl) ?_
  refine ck_iD (wr := ([] : va_W)) (ws' := wM Y mo q M) (va_runV (As := []) (rest := []) ⟨hx, hb, hml, hown, hts⟩ (c_X4_number l D Y s.heap.size q M mo hT hs) (cwV 0 hts gX4_readsCall_X4_number rfl rfl rfl (by decide +kernel) ⟨Nat.le_of_ble_eq_true rfl, Nat.le_of_ble_eq_true rfl⟩) (pst_V hK hP hD [0, 1, 2, 3, 4, 5, 6, 7, 8, 9] rfl (by decide) (q0 := 0) rfl rfl) rfl rfl hl.1 rfl (lv_room (Nat.le_of_ble_eq_true rfl)) dX4_readsCall_1 ⟨Nat.zero_le _, Nat.zero_le _⟩) hP hD hS hA [0, 1, 2, 3, 4, 5, 6, 7, 8, 9] [] [0, 1, 2, 3, 4, 5, 6, 7, 8, 9] rfl rfl (by decide) (by decide) rfl (by decide) (fun H locs hP hD hS => ?_)
  refine lv_istore_n (lv' := [(1, .int (D_X4_number M)), (0, .ref mo)]) hx hb dX4_readsCall_4 rfl hl (by decide) rfl (fun ls hl => ?_)
  refine lv_aload_n hx hb dX4_readsCall_5 rfl (lv_at hl 1 rfl) ?_
  refine va_get (D := D) (ci := 4) (v := .ref (q 7)) (C := RX4) (T := TX4) (N := 13) hx hb hts in_X4_readsCall_RX4 hown hK.1 hP 0 rfl rfl 10 (by decide) (hts (.fieldLink RX4 31 "NineDancersModel" "times" "[I") (by decide +kernel)) (fun _ h9 => h9) rfl dX4_readsCall_6 ?_
  refine lv_aload_n hx hb dX4_readsCall_9 rfl (lv_at hl 1 rfl) ?_
  refine va_get (D := D) (ci := 4) (v := .int (M 9 3)) (C := RX4) (T := TX4) (N := 13) hx hb hts in_X4_readsCall_RX4 hown hK.1 hP 0 rfl rfl 12 (by decide) (hts (.fieldLink RX4 162 "NineDancersModel" "read" "I") (by decide +kernel)) (fun _ h9 => h9) rfl dX4_readsCall_10 ?_
  refine lv_iconst (v := 1) hx hb dX4_readsCall_13 (by decide) ?_
  refine va_iast (D := D) hx hb hK.1 hP hD hS 8 0 rfl rfl (by rw [hrd]; unfold vp_in; decide) dX4_readsCall_14 (fun H locs hP hD hS => ?_)
  have hP : va_P D vwCl (wM Y mo q (T_X4_readsCall_1 M)) H := hP
  have hD : va_D A (wM Y mo q (T_X4_readsCall_1 M)) := hD
  obtain ⟨S_1, eS_1⟩ : ∃ z9, T_X4_readsCall_1 M = z9 := ⟨_, rfl⟩
  rw [eS_1] at hP hD
  refine lv_iload_n hx hb dX4_readsCall_15 rfl (lv_at hl 0 rfl) ?_
  refine lv_i2l (v := (D_X4_number M).toInt64) hx hb dX4_readsCall_16 rfl ?_
  refine lv_ldc2 (v := 2) hx hb hown (hts (.constantLong RX4 82 (2)) (by decide +kernel)) dX4_readsCall_17 ?_
  refine lv_ldc2 (v := 9) hx hb hown (hts (.constantLong RX4 86 (9)) (by decide +kernel)) dX4_readsCall_20 ?_
  refine ck_iD (wr := wM Y mo q S_1) (ws' := wM Y mo q S_1) (va_runS (As := [.long ((D_X4_number M).toInt64), .long 2, .long 9]) (rest := []) ⟨hx, hb, hml, hown, hts⟩ (c_X4_in l D Y H.size ((D_X4_number M).toInt64) 2 9) (va_cwS 3 hts gX4_readsCall_X4_in rfl rfl rfl (by decide +kernel) ⟨Nat.le_of_ble_eq_true rfl, Nat.le_of_ble_eq_true rfl⟩) (pst_S hK hP hD [] rfl (by decide)) rfl rfl hl.1 rfl (lv_room (Nat.le_of_ble_eq_true rfl)) dX4_readsCall_23 ⟨Nat.zero_le _, Nat.zero_le _⟩) hP hD hS hA [] [0, 1, 2, 3, 4, 5, 6, 7, 8, 9] [0, 1, 2, 3, 4, 5, 6, 7, 8, 9] rfl rfl (by decide) (by decide) rfl (by decide) (fun H locs hP hD hS => ?_)
  refine lv_if_eq (tgt := 53) hx hb dX4_readsCall_26 (by decide) (fun c_1 => ?_) (fun c_1 => ?_)
  · refine lv_aload_n hx hb dX4_readsCall_53 rfl (lv_at hl 1 rfl) ?_
    refine va_get (D := D) (ci := 4) (v := .ref (q 8)) (C := RX4) (T := TX4) (N := 13) hx hb hts in_X4_readsCall_RX4 hown hK.1 hP 0 rfl rfl 11 (by decide) (hts (.fieldLink RX4 34 "NineDancersModel" "numbers" "[I") (by decide +kernel)) (fun _ h9 => h9) rfl dX4_readsCall_54 ?_
    refine lv_aload_n hx hb dX4_readsCall_57 rfl (lv_at hl 1 rfl) ?_
    refine va_get (D := D) (ci := 4) (v := .int (S_1 9 3)) (C := RX4) (T := TX4) (N := 13) hx hb hts in_X4_readsCall_RX4 hown hK.1 hP 0 rfl rfl 12 (by decide) (hts (.fieldLink RX4 162 "NineDancersModel" "read" "I") (by decide +kernel)) (fun _ h9 => h9) rfl dX4_readsCall_58 ?_
    refine lv_iload_n hx hb dX4_readsCall_61 rfl (lv_at hl 0 rfl) ?_
    refine va_iast (D := D) hx hb hK.1 hP hD hS 9 0 rfl rfl (by rw [← eS_1]; show vp_in (M 9 3) 30; rw [hrd]; unfold vp_in; decide) dX4_readsCall_62 (fun H locs hP hD hS => ?_)
    have hP : va_P D vwCl (wM Y mo q (T_X4_readsCall_2 M S_1)) H := hP
    have hD : va_D A (wM Y mo q (T_X4_readsCall_2 M S_1)) := hD
    obtain ⟨S_2, eS_2⟩ : ∃ z9, T_X4_readsCall_2 M S_1 = z9 := ⟨_, rfl⟩
    rw [eS_2] at hP hD
    refine lv_aload_n hx hb dX4_readsCall_63 rfl (lv_at hl 1 rfl) ?_
    refine lv_dup hx hb dX4_readsCall_64 rfl ?_
    refine va_get (D := D) (ci := 4) (v := .int (S_2 9 3)) (C := RX4) (T := TX4) (N := 13) hx hb hts in_X4_readsCall_RX4 hown hK.1 hP 0 rfl rfl 12 (by decide) (hts (.fieldLink RX4 162 "NineDancersModel" "read" "I") (by decide +kernel)) (fun _ h9 => h9) rfl dX4_readsCall_65 ?_
    refine lv_iconst (v := 1) hx hb dX4_readsCall_68 (by decide) ?_
    refine lv_iadd hx hb dX4_readsCall_69 ?_
    refine va_put (D := D) (ci := 4) (v := .int ((S_2 9 3) + 1)) (ty := .int) (C := RX4) (T := TX4) (N := 13) hx hb hts in_X4_readsCall_RX4 tyX4 tyX4_ok nmX4 hown hK.1 hP hD hS 0 rfl rfl 12 (by decide) (hts (.fieldLink RX4 162 "NineDancersModel" "read" "I") (by decide +kernel)) (fun _ h9 => h9) rfl (by decide +kernel) rfl rfl (Nat.le_of_ble_eq_true rfl) dX4_readsCall_70 (fun H locs hP hD hS => ?_)
    have hP : va_P D vwCl (wM Y mo q (T_X4_readsCall_3 S_2)) H := hP
    have hD : va_D A (wM Y mo q (T_X4_readsCall_3 S_2)) := hD
    obtain ⟨S_3, eS_3⟩ : ∃ z9, T_X4_readsCall_3 S_2 = z9 := ⟨_, rfl⟩
    rw [eS_3] at hP hD
    refine lv_iload_n hx hb dX4_readsCall_73 rfl (lv_at hl 0 rfl) ?_
    refine lv_if_lt (tgt := 81) hx hb dX4_readsCall_74 (by decide) (fun c_2 => ?_) (fun c_2 => ?_)
    · refine lv_iconst (v := 0) hx hb dX4_readsCall_81 (by decide) ?_
      subst eS_3
      subst eS_2
      subst eS_1
      have e9 : D_X4_readsCall M = (0, (T_X4_readsCall_3 (T_X4_readsCall_2 M (T_X4_readsCall_1 M)))) := by rw [D_X4_readsCall, if_pos c_2]
      exact ret_z hx hb hr rfl hlk hP hD hS dX4_readsCall_82 ⟨Nat.zero_le _, Nat.zero_le _⟩ ⟨by rw [e9], by rw [e9]⟩
    · refine lv_iconst (v := 1) hx hb dX4_readsCall_77 (by decide) ?_
      refine lv_goto (tgt := 82) hx hb dX4_readsCall_78 (by decide) ?_
      subst eS_3
      subst eS_2
      subst eS_1
      have e9 : D_X4_readsCall M = (1, (T_X4_readsCall_3 (T_X4_readsCall_2 M (T_X4_readsCall_1 M)))) := by rw [D_X4_readsCall, if_neg c_2]
      exact ret_z hx hb hr rfl hlk hP hD hS dX4_readsCall_82 ⟨Nat.zero_le _, Nat.zero_le _⟩ ⟨by rw [e9], by rw [e9]⟩
  · exact absurd c_1 (fun q => q (by show D_X4_in ((-1 : Int32).toInt64) 2 9 = 0; decide))
theorem rc0 (M : Nat → Nat → Int32) : (D_X4_readsCall M).1 = 0 := by
  unfold D_X4_readsCall
  rw [if_pos (show D_X4_number M < 0 from by show (-1 : Int32) < 0; decide)]
theorem rc2 (M : Nat → Nat → Int32) : (D_X4_readsCall M).2 9 2 = M 9 2 := by
  unfold D_X4_readsCall
  rw [if_pos (show D_X4_number M < 0 from by show (-1 : Int32) < 0; decide)]
  rfl
def T_X4_fault_1 (M : Nat → Nat → Int32) : Nat → Nat → Int32 := s2 M 9 2 0
def T_X4_fault_2 (S_1 : Nat → Nat → Int32) : Nat → Nat → Int32 := s2 S_1 9 3 0
def D_X4_fault (M : Nat → Nat → Int32)  : (Int32) × (Nat → Nat → Int32) := (((D_X4_readsCall (T_X4_fault_2 (T_X4_fault_1 M))).2) 9 2, ((D_X4_readsCall (T_X4_fault_2 (T_X4_fault_1 M))).2))
set_option maxRecDepth 100000 in
theorem in_X4_fault_RX4 : ∀ w ∈ u_ws RX4 TX4 13, w ∈ wsX4_fault := by decide +kernel
set_option maxHeartbeats 4000000 in
set_option maxRecDepth 100000 in
theorem c_X4_fault (l : Launch) (D : va_G) (Y : YY) (sz : Nat) (q : Nat → Nat) (M : Nat → Nat → Int32) (mo : Nat) (hT : M 9 1 = 0) : Met l yX4_fault wsX4_fault ({ frames := 3, cells := 0, slots := 0, locals := 64 } : Room) (va_Pc [.ref mo] (Pst D Y sz (wM Y mo q M))) ((fun A : Nat → Prop => Qsi D (fun r9 w9 => r9 = (D_X4_fault M).1 ∧ w9 = wM Y mo q ((D_X4_fault M).2)) A) (va_A (wM Y mo q M) sz)) 0 0 (va_A (wM Y mo q M) sz) := by
  refine ct_in (cc := cX4_fault) (maxL := 2) (ret := (some .int)) (Qc := fun A : Nat → Prop => Qsi D (fun r9 w9 => r9 = (D_X4_fault M).1 ∧ w9 = wM Y mo q ((D_X4_fault M).2)) A) (by decide +kernel) rfl (Nat.le_of_ble_eq_true rfl) ?_
  intro p e s m below meth c A ls hx hb hr hts hown hml hlk hin hsz hA hP hD hK hS hl
  have hown : s.vm.findClass RX4 = some m.cls := hown
  have hl : lv_has ls 2 [(0, .ref mo)] := hl
  show W p l e ({ frames := 3, cells := 0, slots := 0, locals := 64 } : Room) s m ([.ref mo] : List Value).toArray below meth c s.heap [] 0 0 (MQ below (Qsi D (fun r9 w9 => r9 = (D_X4_fault M).1 ∧ w9 = wM Y mo q ((D_X4_fault M).2)) A) ([.ref mo] : List Value).toArray s 0 0 A) (F0 m 0 ls [])
  refine lv_aload_n hx hb dX4_fault_0 rfl (lv_at hl 0 rfl) ?_
  refine lv_iconst (v := 0) hx hb dX4_fault_1 (by decide) ?_
  refine va_put (D := D) (ci := 4) (v := .int 0) (ty := .int) (C := RX4) (T := TX4) (N := 13) hx hb hts in_X4_fault_RX4 tyX4 tyX4_ok nmX4 hown hK.1 hP hD hS 0 rfl rfl 9 (by decide) (hts (.fieldLink RX4 153 "NineDancersModel" "spot" "I") (by decide +kernel)) (fun _ h9 => h9) rfl (by decide +kernel) rfl rfl (Nat.le_of_ble_eq_true rfl) dX4_fault_2 (fun H locs hP hD hS => ?_)
  have hP : va_P D vwCl (wM Y mo q (T_X4_fault_1 M)) H := hP
  have hD : va_D A (wM Y mo q (T_X4_fault_1 M)) := hD
  obtain ⟨S_1, eS_1⟩ : ∃ z9, T_X4_fault_1 M = z9 := ⟨_, rfl⟩
  rw [eS_1] at hP hD
  refine lv_aload_n hx hb dX4_fault_5 rfl (lv_at hl 0 rfl) ?_
  refine lv_iconst (v := 0) hx hb dX4_fault_6 (by decide) ?_
  refine va_put (D := D) (ci := 4) (v := .int 0) (ty := .int) (C := RX4) (T := TX4) (N := 13) hx hb hts in_X4_fault_RX4 tyX4 tyX4_ok nmX4 hown hK.1 hP hD hS 0 rfl rfl 12 (by decide) (hts (.fieldLink RX4 162 "NineDancersModel" "read" "I") (by decide +kernel)) (fun _ h9 => h9) rfl (by decide +kernel) rfl rfl (Nat.le_of_ble_eq_true rfl) dX4_fault_7 (fun H locs hP hD hS => ?_)
  have hP : va_P D vwCl (wM Y mo q (T_X4_fault_2 S_1)) H := hP
  have hD : va_D A (wM Y mo q (T_X4_fault_2 S_1)) := hD
  obtain ⟨S_2, eS_2⟩ : ∃ z9, T_X4_fault_2 S_1 = z9 := ⟨_, rfl⟩
  rw [eS_2] at hP hD
  refine lv_iconst (v := 1) hx hb dX4_fault_10 (by decide) ?_
  refine lv_istore_n (lv' := [(1, .int 1), (0, .ref mo)]) hx hb dX4_fault_11 rfl hl (by decide) rfl (fun ls hl => ?_)
  refine lv_iload_n hx hb dX4_fault_12 rfl (lv_at hl 0 rfl) ?_
  refine lv_if_eq (tgt := 38) hx hb dX4_fault_13 (by decide) (fun c_1 => ?_) (fun c_1 => ?_)
  · exact absurd c_1 (by decide)
  · refine lv_aload_n hx hb dX4_fault_16 rfl (lv_at hl 1 rfl) ?_
    refine ck_iD (wr := ([] : va_W)) (ws' := wM Y mo q ((D_X4_readsCall S_2).2)) (va_runV (As := []) (rest := []) ⟨hx, hb, hml, hown, hts⟩ (c_X4_readsCall l D Y H.size q S_2 mo (by rw [← eS_2, ← eS_1]; exact hT) (by rw [← eS_2, ← eS_1]; rfl) (by rw [← eS_2, ← eS_1]; rfl)) (cwV 0 hts gX4_fault_X4_readsCall rfl rfl rfl (by decide +kernel) ⟨Nat.le_of_ble_eq_true rfl, Nat.le_of_ble_eq_true rfl⟩) (pst_V hK hP hD [0, 1, 2, 3, 4, 5, 6, 7, 8, 9] rfl (by decide) (q0 := 0) rfl rfl) rfl rfl hl.1 rfl (lv_room (Nat.le_of_ble_eq_true rfl)) dX4_fault_17 ⟨Nat.zero_le _, Nat.zero_le _⟩) hP hD hS hA [0, 1, 2, 3, 4, 5, 6, 7, 8, 9] [] [0, 1, 2, 3, 4, 5, 6, 7, 8, 9] rfl rfl (by decide) (by decide) rfl (by decide) (fun H locs hP hD hS => ?_)
    obtain ⟨S_3, eS_3⟩ : ∃ z9, (D_X4_readsCall S_2).2 = z9 := ⟨_, rfl⟩
    rw [eS_3] at hP hD
    refine lv_if_ne (tgt := 28) hx hb dX4_fault_20 (by decide) (fun c_2 => ?_) (fun c_2 => ?_)
    · exact absurd c_2 (fun q => q (rc0 _))
    · refine lv_aload_n hx hb dX4_fault_23 rfl (lv_at hl 1 rfl) ?_
      refine va_get (D := D) (ci := 4) (v := .int (S_3 9 2)) (C := RX4) (T := TX4) (N := 13) hx hb hts in_X4_fault_RX4 hown hK.1 hP 0 rfl rfl 9 (by decide) (hts (.fieldLink RX4 153 "NineDancersModel" "spot" "I") (by decide +kernel)) (fun _ h9 => h9) rfl dX4_fault_24 ?_
      subst eS_3
      subst eS_2
      subst eS_1
      have e9 : D_X4_fault M = (((D_X4_readsCall (T_X4_fault_2 (T_X4_fault_1 M))).2) 9 2, ((D_X4_readsCall (T_X4_fault_2 (T_X4_fault_1 M))).2)) := by rw [D_X4_fault]
      exact ret_i hx hb hr hlk hP hD hS dX4_fault_27 ⟨Nat.zero_le _, Nat.zero_le _⟩ ⟨by rw [e9], by rw [e9]⟩
theorem fl0 (M : Nat → Nat → Int32) : (D_X4_fault M).1 = 0 := by
  unfold D_X4_fault
  exact rc2 _
def D_X4_read (M : Nat → Nat → Int32)  : (Int32) × (Nat → Nat → Int32) := ((-1000003), ((D_X4_fault M).2))
set_option maxHeartbeats 4000000 in
set_option maxRecDepth 100000 in
theorem c_X4_read (l : Launch) (D : va_G) (Y : YY) (sz : Nat) (q : Nat → Nat) (M : Nat → Nat → Int32) (mo : Nat) (hT : M 9 1 = 0) : Met l yX4_read wsX4_read ({ frames := 4, cells := 0, slots := 0, locals := 85 } : Room) (va_Pc [.ref mo] (Pst D Y sz (wM Y mo q M))) ((fun A : Nat → Prop => Qsi D (fun r9 w9 => r9 = (D_X4_read M).1 ∧ w9 = wM Y mo q ((D_X4_read M).2)) A) (va_A (wM Y mo q M) sz)) 0 0 (va_A (wM Y mo q M) sz) := by
  refine ct_in (cc := cX4_read) (maxL := 5) (ret := (some .int)) (Qc := fun A : Nat → Prop => Qsi D (fun r9 w9 => r9 = (D_X4_read M).1 ∧ w9 = wM Y mo q ((D_X4_read M).2)) A) (by decide +kernel) rfl (Nat.le_of_ble_eq_true rfl) ?_
  intro p e s m below meth c A ls hx hb hr hts hown hml hlk hin hsz hA hP hD hK hS hl
  have hown : s.vm.findClass RX4 = some m.cls := hown
  have hl : lv_has ls 5 [(0, .ref mo)] := hl
  show W p l e ({ frames := 4, cells := 0, slots := 0, locals := 85 } : Room) s m ([.ref mo] : List Value).toArray below meth c s.heap [] 0 0 (MQ below (Qsi D (fun r9 w9 => r9 = (D_X4_read M).1 ∧ w9 = wM Y mo q ((D_X4_read M).2)) A) ([.ref mo] : List Value).toArray s 0 0 A) (F0 m 0 ls [])
  refine lv_aload_n hx hb dX4_read_0 rfl (lv_at hl 0 rfl) ?_
  refine ck_iD (wr := ([] : va_W)) (ws' := wM Y mo q ((D_X4_fault M).2)) (va_runV (As := []) (rest := []) ⟨hx, hb, hml, hown, hts⟩ (c_X4_fault l D Y s.heap.size q M mo hT) (cwV 0 hts gX4_read_X4_fault rfl rfl rfl (by decide +kernel) ⟨Nat.le_of_ble_eq_true rfl, Nat.le_of_ble_eq_true rfl⟩) (pst_V hK hP hD [0, 1, 2, 3, 4, 5, 6, 7, 8, 9] rfl (by decide) (q0 := 0) rfl rfl) rfl rfl hl.1 rfl (lv_room (Nat.le_of_ble_eq_true rfl)) dX4_read_1 ⟨Nat.zero_le _, Nat.zero_le _⟩) hP hD hS hA [0, 1, 2, 3, 4, 5, 6, 7, 8, 9] [] [0, 1, 2, 3, 4, 5, 6, 7, 8, 9] rfl rfl (by decide) (by decide) rfl (by decide) (fun H locs hP hD hS => ?_)
  obtain ⟨S_1, eS_1⟩ : ∃ z9, (D_X4_fault M).2 = z9 := ⟨_, rfl⟩
  rw [eS_1] at hP hD
  refine lv_ldc (v := (-1000006)) hx hb hown (hts (.constant RX4 37 (-1000006)) (by decide +kernel)) dX4_read_4 ?_
  refine lv_icmp_eq (tgt := 12) hx hb dX4_read_6 (by decide) (fun c_1 => ?_) (fun c_1 => ?_)
  · exact absurd c_1 (by rw [fl0]; decide)
  · refine lv_ldc (v := (-1000003)) hx hb hown (hts (.constant RX4 175 (-1000003)) (by decide +kernel)) dX4_read_9 ?_
    subst eS_1
    have e9 : D_X4_read M = ((-1000003), ((D_X4_fault M).2)) := by rw [D_X4_read]
    exact ret_i hx hb hr hlk hP hD hS dX4_read_11 ⟨Nat.zero_le _, Nat.zero_le _⟩ ⟨by rw [e9], by rw [e9]⟩
def D_X4_undo (M : Nat → Nat → Int32)  : (Int32) := (-1000005)
set_option maxRecDepth 100000 in
theorem in_X4_undo_RX4 : ∀ w ∈ u_ws RX4 TX4 13, w ∈ wsX4_undo := by decide +kernel
set_option maxHeartbeats 4000000 in
set_option maxRecDepth 100000 in
theorem c_X4_undo (l : Launch) (D : va_G) (Y : YY) (sz : Nat) (q : Nat → Nat) (M : Nat → Nat → Int32) (mo : Nat) (h0 : M 9 0 = 0) : Met l yX4_undo wsX4_undo ({ frames := 0, cells := 0, slots := 0, locals := 0 } : Room) (va_Pc [.ref mo] (Pst D Y sz (wM Y mo q M))) ((fun A : Nat → Prop => Qsi D (fun r9 w9 => r9 = D_X4_undo M ∧ w9 = wM Y mo q M) A) (va_A (wM Y mo q M) sz)) 0 0 (va_A (wM Y mo q M) sz) := by
  refine ct_in (cc := cX4_undo) (maxL := 2) (ret := (some .int)) (Qc := fun A : Nat → Prop => Qsi D (fun r9 w9 => r9 = D_X4_undo M ∧ w9 = wM Y mo q M) A) (by decide +kernel) rfl (Nat.le_of_ble_eq_true rfl) ?_
  intro p e s m below meth c A ls hx hb hr hts hown hml hlk hin hsz hA hP hD hK hS hl
  have hown : s.vm.findClass RX4 = some m.cls := hown
  have hl : lv_has ls 2 [(0, .ref mo)] := hl
  show W p l e ({ frames := 0, cells := 0, slots := 0, locals := 0 } : Room) s m ([.ref mo] : List Value).toArray below meth c s.heap [] 0 0 (MQ below (Qsi D (fun r9 w9 => r9 = D_X4_undo M ∧ w9 = wM Y mo q M) A) ([.ref mo] : List Value).toArray s 0 0 A) (F0 m 0 ls [])
  refine lv_aload_n hx hb dX4_undo_0 rfl (lv_at hl 0 rfl) ?_
  refine va_get (D := D) (ci := 4) (v := .int (M 9 0)) (C := RX4) (T := TX4) (N := 13) hx hb hts in_X4_undo_RX4 hown hK.1 hP 0 rfl rfl 3 (by decide) (hts (.fieldLink RX4 38 "NineDancersModel" "historyLong" "I") (by decide +kernel)) (fun _ h9 => h9) rfl dX4_undo_1 ?_
  refine lv_if_ne (tgt := 10) hx hb dX4_undo_4 (by decide) (fun c_1 => ?_) (fun c_1 => ?_)
  · exact absurd c_1 (fun q => q h0)
  · refine lv_ldc (v := (-1000005)) hx hb hown (hts (.constant RX4 99 (-1000005)) (by decide +kernel)) dX4_undo_7 ?_
    have e9 : D_X4_undo M = (-1000005) := by rw [D_X4_undo]
    exact ret_i hx hb hr hlk hP hD hS dX4_undo_9 ⟨Nat.zero_le _, Nat.zero_le _⟩ ⟨e9.symm, rfl⟩
def T_X4_save_2 (sl : Int32) (i : Int32) (M1 : Nat → Nat → Int32) : Nat → Nat → Int32 := s2 M1 3 ((312 * sl) + i).toNatClampNeg (M1 0 i.toNatClampNeg)
def L_X4_save_12 (M : Nat → Nat → Int32) (sl : Int32) : Nat → (Int32) → (Nat → Nat → Int32) → (Nat → Nat → Int32)
  | 0, i, M1 => M1
  | n_12 + 1, i, M1 => if 312 ≤ i then M1 else (L_X4_save_12 M sl n_12 (i + 1) (T_X4_save_2 sl i M1))
def T_X4_save_1 (sl : Int32) (M1 : Nat → Nat → Int32) : Nat → Nat → Int32 := s2 M1 4 sl.toNatClampNeg 1
def D_X4_save (M : Nat → Nat → Int32) (sl : Int32) : (Int32) × (Nat → Nat → Int32) := if (D_X4_isSlot sl) = 0 then ((-1000002), M) else ((T_X4_save_1 sl (L_X4_save_12 M sl 313 0 M)) 0 (3 : Int32).toNatClampNeg, (T_X4_save_1 sl (L_X4_save_12 M sl 313 0 M)))
set_option maxRecDepth 100000 in
theorem in_X4_save_RX4 : ∀ w ∈ u_ws RX4 TX4 13, w ∈ wsX4_save := by decide +kernel
set_option maxHeartbeats 4000000 in
set_option maxRecDepth 100000 in
theorem c_X4_save (l : Launch) (D : va_G) (Y : YY) (sz : Nat) (q : Nat → Nat) (M : Nat → Nat → Int32) (mo : Nat) (sl : Int32) : Met l yX4_save wsX4_save ({ frames := 1, cells := 0, slots := 0, locals := 20 } : Room) (va_Pc [.ref mo, .int sl] (Pst D Y sz (wM Y mo q M))) ((fun A : Nat → Prop => Qsi D (fun r9 w9 => r9 = (D_X4_save M sl).1 ∧ w9 = wM Y mo q ((D_X4_save M sl).2)) A) (va_A (wM Y mo q M) sz)) 0 0 (va_A (wM Y mo q M) sz) := by
  refine ct_in (cc := cX4_save) (maxL := 3) (ret := (some .int)) (Qc := fun A : Nat → Prop => Qsi D (fun r9 w9 => r9 = (D_X4_save M sl).1 ∧ w9 = wM Y mo q ((D_X4_save M sl).2)) A) (by decide +kernel) rfl (Nat.le_of_ble_eq_true rfl) ?_
  intro p e s m below meth c A ls hx hb hr hts hown hml hlk hin hsz hA hP hD hK hS hl
  have hown : s.vm.findClass RX4 = some m.cls := hown
  have hl : lv_has ls 3 [(0, .ref mo), (1, .int sl)] := hl
  show W p l e ({ frames := 1, cells := 0, slots := 0, locals := 20 } : Room) s m ([.ref mo, .int sl] : List Value).toArray below meth c s.heap [] 0 0 (MQ below (Qsi D (fun r9 w9 => r9 = (D_X4_save M sl).1 ∧ w9 = wM Y mo q ((D_X4_save M sl).2)) A) ([.ref mo, .int sl] : List Value).toArray s 0 0 A) (F0 m 0 ls [])
  refine lv_iload_n hx hb dX4_save_0 rfl (lv_at hl 1 rfl) ?_
  refine ck_iD (wr := wM Y mo q M) (ws' := wM Y mo q M) (va_runS (As := [.int sl]) (rest := []) ⟨hx, hb, hml, hown, hts⟩ (c_X4_isSlot l D Y s.heap.size sl) (va_cwS 1 hts gX4_save_X4_isSlot rfl rfl rfl (by decide +kernel) ⟨Nat.le_of_ble_eq_true rfl, Nat.le_of_ble_eq_true rfl⟩) (pst_S hK hP hD [] rfl (by decide)) rfl rfl hl.1 rfl (lv_room (Nat.le_of_ble_eq_true rfl)) dX4_save_1 ⟨Nat.zero_le _, Nat.zero_le _⟩) hP hD hS hA [] [0, 1, 2, 3, 4, 5, 6, 7, 8, 9] [0, 1, 2, 3, 4, 5, 6, 7, 8, 9] rfl rfl (by decide) (by decide) rfl (by decide) (fun H locs hP hD hS => ?_)
  refine lv_if_ne (tgt := 10) hx hb dX4_save_4 (by decide) (fun c_1 => ?_) (fun c_1 => ?_)
  · refine lv_iconst (v := 0) hx hb dX4_save_10 (by decide) ?_
    refine lv_istore_n (lv' := [(2, .int 0), (0, .ref mo), (1, .int sl)]) hx hb dX4_save_11 rfl hl (by decide) rfl (fun ls hl => ?_)
    have loop_12 : ∀ (n_12 k_12 : Nat) (i : Int32) (M1 : Nat → Nat → Int32) (H : Heap) (locs : List Loc) (ls : Array Slot), 313 ≤ k_12 + n_12 → k_12 ≤ 312 → i = nI k_12 → va_P D vwCl (wM Y mo q M1) H → va_D A (wM Y mo q M1) → va_S A s.heap H locs → lv_has ls 3 [(2, .int i), (0, .ref mo), (1, .int sl)] → L_X4_save_12 M sl n_12 i M1 = L_X4_save_12 M sl 313 0 M → W p l e ({ frames := 1, cells := 0, slots := 0, locals := 20 } : Room) s m ([.ref mo, .int sl] : List Value).toArray below meth c H locs 0 0 (MQ below (Qsi D (fun r9 w9 => r9 = (D_X4_save M sl).1 ∧ w9 = wM Y mo q ((D_X4_save M sl).2)) A) ([.ref mo, .int sl] : List Value).toArray s 0 0 A) (F0 m 12 ls []) := by
      intro n_12
      induction n_12 with
      | zero => intro k_12 i M1 H locs ls hkf hkN_12 ex_12 hP hD hS hl hR_12; exact absurd hkf (by omega)
      | succ n_12 ih_12 =>
        intro k_12 i M1 H locs ls hkf hkN_12 ex_12 hP hD hS hl hR_12
        refine lv_iload_n hx hb dX4_save_12 rfl (lv_at hl 0 rfl) ?_
        refine lv_sipush (v := 312) hx hb dX4_save_13 (by decide) ?_
        refine lv_icmp_ge (tgt := 43) hx hb dX4_save_16 (by decide) (fun c_2 => ?_) (fun c_2 => ?_)
        · have e8 : L_X4_save_12 M sl (n_12 + 1) i M1 = M1 := by rw [L_X4_save_12, if_pos c_2]
          have e8 := hR_12.symm.trans e8
          have eM1 : L_X4_save_12 M sl 313 0 M = M1 := by rw [e8]
          clear e8 hR_12 ih_12
          refine lv_aload_n hx hb dX4_save_43 rfl (lv_at hl 1 rfl) ?_
          refine va_get (D := D) (ci := 4) (v := .ref (q 4)) (C := RX4) (T := TX4) (N := 13) hx hb hts in_X4_save_RX4 hown hK.1 hP 0 rfl rfl 5 (by decide) (hts (.fieldLink RX4 22 "NineDancersModel" "isSaved" "[I") (by decide +kernel)) (fun _ h9 => h9) rfl dX4_save_44 ?_
          refine lv_iload_n hx hb dX4_save_47 rfl (lv_at hl 2 rfl) ?_
          refine lv_iconst (v := 1) hx hb dX4_save_48 (by decide) ?_
          refine va_iast (D := D) hx hb hK.1 hP hD hS 5 0 rfl rfl (f4_isSlot c_1) dX4_save_49 (fun H locs hP hD hS => ?_)
          have hP : va_P D vwCl (wM Y mo q (T_X4_save_1 sl M1)) H := hP
          have hD : va_D A (wM Y mo q (T_X4_save_1 sl M1)) := hD
          obtain ⟨S_1, eS_1⟩ : ∃ z9, T_X4_save_1 sl M1 = z9 := ⟨_, rfl⟩
          rw [eS_1] at hP hD
          refine lv_aload_n hx hb dX4_save_50 rfl (lv_at hl 1 rfl) ?_
          refine va_get (D := D) (ci := 4) (v := .ref (q 0)) (C := RX4) (T := TX4) (N := 13) hx hb hts in_X4_save_RX4 hown hK.1 hP 0 rfl rfl 0 (by decide) (hts (.fieldLink RX4 7 "NineDancersModel" "all" "[I") (by decide +kernel)) (fun _ h9 => h9) rfl dX4_save_51 ?_
          refine lv_iconst (v := 3) hx hb dX4_save_54 (by decide) ?_
          refine va_iald (D := D) hx hb hK.1 hP 1 0 rfl rfl (by unfold vp_in; decide) dX4_save_55 ?_
          subst eS_1
          subst eM1
          have e9 : D_X4_save M sl = ((T_X4_save_1 sl (L_X4_save_12 M sl 313 0 M)) 0 (3 : Int32).toNatClampNeg, (T_X4_save_1 sl (L_X4_save_12 M sl 313 0 M))) := by rw [D_X4_save, if_neg c_1]
          exact ret_i hx hb hr hlk hP hD hS dX4_save_56 ⟨Nat.zero_le _, Nat.zero_le _⟩ ⟨by rw [e9], by rw [e9]⟩
        · have hk_12 := my_lt ex_12 (show (312 : Int32) = nI 312 from rfl) (by decide) hkN_12 c_2
          refine lv_aload_n hx hb dX4_save_19 rfl (lv_at hl 1 rfl) ?_
          refine va_get (D := D) (ci := 4) (v := .ref (q 3)) (C := RX4) (T := TX4) (N := 13) hx hb hts in_X4_save_RX4 hown hK.1 hP 0 rfl rfl 4 (by decide) (hts (.fieldLink RX4 19 "NineDancersModel" "slots" "[I") (by decide +kernel)) (fun _ h9 => h9) rfl dX4_save_20 ?_
          refine lv_sipush (v := 312) hx hb dX4_save_23 (by decide) ?_
          refine lv_iload_n hx hb dX4_save_26 rfl (lv_at hl 2 rfl) ?_
          refine lv_imul hx hb dX4_save_27 ?_
          refine lv_iload_n hx hb dX4_save_28 rfl (lv_at hl 0 rfl) ?_
          refine lv_iadd hx hb dX4_save_29 ?_
          refine lv_aload_n hx hb dX4_save_30 rfl (lv_at hl 1 rfl) ?_
          refine va_get (D := D) (ci := 4) (v := .ref (q 0)) (C := RX4) (T := TX4) (N := 13) hx hb hts in_X4_save_RX4 hown hK.1 hP 0 rfl rfl 0 (by decide) (hts (.fieldLink RX4 7 "NineDancersModel" "all" "[I") (by decide +kernel)) (fun _ h9 => h9) rfl dX4_save_31 ?_
          refine lv_iload_n hx hb dX4_save_34 rfl (lv_at hl 0 rfl) ?_
          refine va_iald (D := D) hx hb hK.1 hP 1 0 rfl rfl (by rw [ex_12]; exact vp_in_nI hk_12 (by decide)) dX4_save_35 ?_
          refine va_iast (D := D) hx hb hK.1 hP hD hS 4 0 rfl rfl (my_add (my_mul 312 (f4_isSlot c_1) (by decide) (by decide) : vp_in (312 * sl) 313) (by rw [ex_12]; exact vp_in_nI hk_12 (by decide)) (by decide) (by decide) : vp_in ((312 * sl) + i) 624) dX4_save_36 (fun H locs hP hD hS => ?_)
          have hP : va_P D vwCl (wM Y mo q (T_X4_save_2 sl i M1)) H := hP
          have hD : va_D A (wM Y mo q (T_X4_save_2 sl i M1)) := hD
          obtain ⟨S_2, eS_2⟩ : ∃ z9, T_X4_save_2 sl i M1 = z9 := ⟨_, rfl⟩
          rw [eS_2] at hP hD
          refine lv_iinc (v := i + 1) (lv' := [(2, .int (i + 1)), (0, .ref mo), (1, .int sl)]) hx hb dX4_save_37 hl (k := 0) rfl rfl (by decide) rfl (fun ls hl => ?_)
          refine lv_goto (tgt := 12) hx hb dX4_save_40 (by decide) ?_
          subst eS_2
          exact ih_12 (k_12 + 1) (i + 1) (T_X4_save_2 sl i M1) _ _ _ (by omega) (by omega) (by rw [ex_12]; exact nI_1 k_12)  hP hD hS (lv_sub hl [0, 1, 2] rfl) (by rw [L_X4_save_12, if_neg c_2] at hR_12; exact hR_12)
    exact loop_12 313 0 0 M _ _ _ (by omega) (Nat.zero_le _) nI_0.symm  hP hD hS (lv_sub hl [0, 1, 2] rfl) rfl
  · refine lv_ldc (v := (-1000002)) hx hb hown (hts (.constant RX4 91 (-1000002)) (by decide +kernel)) dX4_save_7 ?_
    have e9 : D_X4_save M sl = ((-1000002), M) := by rw [D_X4_save, if_pos c_1]
    exact ret_i hx hb hr hlk hP hD hS dX4_save_9 ⟨Nat.zero_le _, Nat.zero_le _⟩ ⟨by rw [e9], by rw [e9]⟩
def D_X4_restore (M : Nat → Nat → Int32) (sl : Int32) : (Int32) := if (D_X4_isSlot sl) = 0 then (-1000002) else (-1000005)
set_option maxRecDepth 100000 in
theorem in_X4_restore_RX4 : ∀ w ∈ u_ws RX4 TX4 13, w ∈ wsX4_restore := by decide +kernel
set_option maxHeartbeats 4000000 in
set_option maxRecDepth 100000 in
theorem c_X4_restore (l : Launch) (D : va_G) (Y : YY) (sz : Nat) (q : Nat → Nat) (M : Nat → Nat → Int32) (mo : Nat) (sl : Int32) (hsv : ∀ j : Nat, M 4 j = 0) : Met l yX4_restore wsX4_restore ({ frames := 1, cells := 0, slots := 0, locals := 20 } : Room) (va_Pc [.ref mo, .int sl] (Pst D Y sz (wM Y mo q M))) ((fun A : Nat → Prop => Qsi D (fun r9 w9 => r9 = D_X4_restore M sl ∧ w9 = wM Y mo q M) A) (va_A (wM Y mo q M) sz)) 0 0 (va_A (wM Y mo q M) sz) := by
  refine ct_in (cc := cX4_restore) (maxL := 3) (ret := (some .int)) (Qc := fun A : Nat → Prop => Qsi D (fun r9 w9 => r9 = D_X4_restore M sl ∧ w9 = wM Y mo q M) A) (by decide +kernel) rfl (Nat.le_of_ble_eq_true rfl) ?_
  intro p e s m below meth c A ls hx hb hr hts hown hml hlk hin hsz hA hP hD hK hS hl
  have hown : s.vm.findClass RX4 = some m.cls := hown
  have hl : lv_has ls 3 [(0, .ref mo), (1, .int sl)] := hl
  show W p l e ({ frames := 1, cells := 0, slots := 0, locals := 20 } : Room) s m ([.ref mo, .int sl] : List Value).toArray below meth c s.heap [] 0 0 (MQ below (Qsi D (fun r9 w9 => r9 = D_X4_restore M sl ∧ w9 = wM Y mo q M) A) ([.ref mo, .int sl] : List Value).toArray s 0 0 A) (F0 m 0 ls [])
  refine lv_iload_n hx hb dX4_restore_0 rfl (lv_at hl 1 rfl) ?_
  refine ck_iD (wr := wM Y mo q M) (ws' := wM Y mo q M) (va_runS (As := [.int sl]) (rest := []) ⟨hx, hb, hml, hown, hts⟩ (c_X4_isSlot l D Y s.heap.size sl) (va_cwS 1 hts gX4_restore_X4_isSlot rfl rfl rfl (by decide +kernel) ⟨Nat.le_of_ble_eq_true rfl, Nat.le_of_ble_eq_true rfl⟩) (pst_S hK hP hD [] rfl (by decide)) rfl rfl hl.1 rfl (lv_room (Nat.le_of_ble_eq_true rfl)) dX4_restore_1 ⟨Nat.zero_le _, Nat.zero_le _⟩) hP hD hS hA [] [0, 1, 2, 3, 4, 5, 6, 7, 8, 9] [0, 1, 2, 3, 4, 5, 6, 7, 8, 9] rfl rfl (by decide) (by decide) rfl (by decide) (fun H locs hP hD hS => ?_)
  refine lv_if_ne (tgt := 10) hx hb dX4_restore_4 (by decide) (fun c_1 => ?_) (fun c_1 => ?_)
  · refine lv_aload_n hx hb dX4_restore_10 rfl (lv_at hl 0 rfl) ?_
    refine va_get (D := D) (ci := 4) (v := .ref (q 4)) (C := RX4) (T := TX4) (N := 13) hx hb hts in_X4_restore_RX4 hown hK.1 hP 0 rfl rfl 5 (by decide) (hts (.fieldLink RX4 22 "NineDancersModel" "isSaved" "[I") (by decide +kernel)) (fun _ h9 => h9) rfl dX4_restore_11 ?_
    refine lv_iload_n hx hb dX4_restore_14 rfl (lv_at hl 1 rfl) ?_
    refine va_iald (D := D) hx hb hK.1 hP 5 0 rfl rfl (f4_isSlot c_1) dX4_restore_15 ?_
    refine lv_if_ne (tgt := 22) hx hb dX4_restore_16 (by decide) (fun c_2 => ?_) (fun c_2 => ?_)
    · exact absurd c_2 (fun q => q (hsv _))
    · refine lv_ldc (v := (-1000005)) hx hb hown (hts (.constant RX4 99 (-1000005)) (by decide +kernel)) dX4_restore_19 ?_
      have e9 : D_X4_restore M sl = (-1000005) := by rw [D_X4_restore, if_neg c_1]
      exact ret_i hx hb hr hlk hP hD hS dX4_restore_21 ⟨Nat.zero_le _, Nat.zero_le _⟩ ⟨e9.symm, rfl⟩
  · refine lv_ldc (v := (-1000002)) hx hb hown (hts (.constant RX4 91 (-1000002)) (by decide +kernel)) dX4_restore_7 ?_
    have e9 : D_X4_restore M sl = (-1000002) := by rw [D_X4_restore, if_pos c_1]
    exact ret_i hx hb hr hlk hP hD hS dX4_restore_9 ⟨Nat.zero_le _, Nat.zero_le _⟩ ⟨e9.symm, rfl⟩

def D_J9_floorMod_7cf53  (x : Int32) (y : Int32) : (Int32) := if 0 ≤ (x ^^^ y) then (x - x / y * y) else (if (x - x / y * y) = 0 then (x - x / y * y) else (x - x / y * y) + y)
set_option maxHeartbeats 4000000 in
set_option maxRecDepth 100000 in
theorem c_J9_floorMod_7cf53 (l : Launch) (D : va_G) (Y : YY) (sz : Nat) (x : Int32) (y : Int32) (hy : ¬ y = 0) : Met l yJ9_floorMod_7cf53 wsJ9_floorMod_7cf53 ({ frames := 0, cells := 0, slots := 0, locals := 0 } : Room) (va_Pc [.int x, .int y] (Pst D Y sz (([] : va_W)))) ((fun A : Nat → Prop => Qsi D (fun r9 w9 => r9 = D_J9_floorMod_7cf53 x y ∧ w9 = ([] : va_W)) A) (va_A (([] : va_W)) sz)) 0 0 (va_A (([] : va_W)) sz) := by
  refine ct_inF (cc := cJ9_floorMod_7cf53) (maxL := 3) (ret := (some .int)) (Qc := fun A : Nat → Prop => Qsi D (fun r9 w9 => r9 = D_J9_floorMod_7cf53 x y ∧ w9 = ([] : va_W)) A) (by decide +kernel) rfl (Nat.le_of_ble_eq_true rfl) ?_
  intro p e s m below meth c A ls hx hb hr hts hown hml hlk hin hsz hA hP hD hK hS hl
  have hown : s.vm.findClass RJ9 = some m.cls := hown
  have hl : lv_has ls 3 [(0, .int x), (1, .int y)] := hl
  show W p l e ({ frames := 0, cells := 0, slots := 0, locals := 0 } : Room) s m ([.int x, .int y] : List Value).toArray below meth c s.heap [] 0 0 (MQ below (Qsi D (fun r9 w9 => r9 = D_J9_floorMod_7cf53 x y ∧ w9 = ([] : va_W)) A) ([.int x, .int y] : List Value).toArray s 0 0 A) (F0 m 0 ls [])
  refine lv_iload_n hx hb dJ9_floorMod_7cf53_0 rfl (lv_at hl 0 rfl) ?_
  refine lv_iload_n hx hb dJ9_floorMod_7cf53_1 rfl (lv_at hl 1 rfl) ?_
  refine lv_irem hx hb dJ9_floorMod_7cf53_2 hy ?_
  refine lv_istore_n (lv' := [(2, .int (x - x / y * y)), (0, .int x), (1, .int y)]) hx hb dJ9_floorMod_7cf53_3 rfl hl (by decide) rfl (fun ls hl => ?_)
  refine lv_iload_n hx hb dJ9_floorMod_7cf53_4 rfl (lv_at hl 1 rfl) ?_
  refine lv_iload_n hx hb dJ9_floorMod_7cf53_5 rfl (lv_at hl 2 rfl) ?_
  refine lv_ixor hx hb dJ9_floorMod_7cf53_6 ?_
  refine lv_if_ge (tgt := 18) hx hb dJ9_floorMod_7cf53_7 (by decide) (fun c_1 => ?_) (fun c_1 => ?_)
  · refine lv_iload_n hx hb dJ9_floorMod_7cf53_18 rfl (lv_at hl 0 rfl) ?_
    have e9 : D_J9_floorMod_7cf53 x y = x - x / y * y := by rw [D_J9_floorMod_7cf53, if_pos c_1]
    exact ret_i hx hb hr hlk hP hD hS dJ9_floorMod_7cf53_19 ⟨Nat.zero_le _, Nat.zero_le _⟩ ⟨e9.symm, rfl⟩
  · refine lv_iload_n hx hb dJ9_floorMod_7cf53_10 rfl (lv_at hl 0 rfl) ?_
    refine lv_if_eq (tgt := 18) hx hb dJ9_floorMod_7cf53_11 (by decide) (fun c_2 => ?_) (fun c_2 => ?_)
    · refine lv_iload_n hx hb dJ9_floorMod_7cf53_18 rfl (lv_at hl 0 rfl) ?_
      have e9 : D_J9_floorMod_7cf53 x y = x - x / y * y := by rw [D_J9_floorMod_7cf53, if_neg c_1, if_pos c_2]
      exact ret_i hx hb hr hlk hP hD hS dJ9_floorMod_7cf53_19 ⟨Nat.zero_le _, Nat.zero_le _⟩ ⟨e9.symm, rfl⟩
    · refine lv_iload_n hx hb dJ9_floorMod_7cf53_14 rfl (lv_at hl 0 rfl) ?_
      refine lv_iload_n hx hb dJ9_floorMod_7cf53_15 rfl (lv_at hl 2 rfl) ?_
      refine lv_iadd hx hb dJ9_floorMod_7cf53_16 ?_
      have e9 : D_J9_floorMod_7cf53 x y = (x - x / y * y) + y := by rw [D_J9_floorMod_7cf53, if_neg c_1, if_neg c_2]
      exact ret_i hx hb hr hlk hP hD hS dJ9_floorMod_7cf53_17 ⟨Nat.zero_le _, Nat.zero_le _⟩ ⟨e9.symm, rfl⟩
def V_J6_bitCount_0f7a4_1 (x : Int32) : Int32 := x - (((x.toUInt32 >>> ((1 : Int32).toUInt32 &&& Int32.toUInt32 31)).toInt32) &&& 1431655765)
def V_J6_bitCount_0f7a4_2 (x : Int32) : Int32 := ((V_J6_bitCount_0f7a4_1 x) &&& 858993459) + ((((V_J6_bitCount_0f7a4_1 x).toUInt32 >>> ((2 : Int32).toUInt32 &&& Int32.toUInt32 31)).toInt32) &&& 858993459)
def V_J6_bitCount_0f7a4_3 (x : Int32) : Int32 := ((V_J6_bitCount_0f7a4_2 x) + (((V_J6_bitCount_0f7a4_2 x).toUInt32 >>> ((4 : Int32).toUInt32 &&& Int32.toUInt32 31)).toInt32)) &&& 252645135
def V_J6_bitCount_0f7a4_4 (x : Int32) : Int32 := (V_J6_bitCount_0f7a4_3 x) + (((V_J6_bitCount_0f7a4_3 x).toUInt32 >>> ((8 : Int32).toUInt32 &&& Int32.toUInt32 31)).toInt32)
def V_J6_bitCount_0f7a4_5 (x : Int32) : Int32 := (V_J6_bitCount_0f7a4_4 x) + (((V_J6_bitCount_0f7a4_4 x).toUInt32 >>> ((16 : Int32).toUInt32 &&& Int32.toUInt32 31)).toInt32)
def D_J6_bitCount_0f7a4  (x : Int32) : (Int32) := (V_J6_bitCount_0f7a4_5 x) &&& 63
set_option maxHeartbeats 4000000 in
set_option maxRecDepth 100000 in
theorem c_J6_bitCount_0f7a4 (l : Launch) (D : va_G) (Y : YY) (sz : Nat) (x : Int32) : Met l yJ6_bitCount_0f7a4 wsJ6_bitCount_0f7a4 ({ frames := 0, cells := 0, slots := 0, locals := 0 } : Room) (va_Pc [.int x] (Pst D Y sz (([] : va_W)))) ((fun A : Nat → Prop => Qsi D (fun r9 w9 => r9 = D_J6_bitCount_0f7a4 x ∧ w9 = ([] : va_W)) A) (va_A (([] : va_W)) sz)) 0 0 (va_A (([] : va_W)) sz) := by
  refine ct_in (cc := cJ6_bitCount_0f7a4) (maxL := 1) (ret := (some .int)) (Qc := fun A : Nat → Prop => Qsi D (fun r9 w9 => r9 = D_J6_bitCount_0f7a4 x ∧ w9 = ([] : va_W)) A) (by decide +kernel) rfl (Nat.le_of_ble_eq_true rfl) ?_
  intro p e s m below meth c A ls hx hb hr hts hown hml hlk hin hsz hA hP hD hK hS hl
  have hown : s.vm.findClass RJ6 = some m.cls := hown
  have hl : lv_has ls 1 [(0, .int x)] := hl
  show W p l e ({ frames := 0, cells := 0, slots := 0, locals := 0 } : Room) s m ([.int x] : List Value).toArray below meth c s.heap [] 0 0 (MQ below (Qsi D (fun r9 w9 => r9 = D_J6_bitCount_0f7a4 x ∧ w9 = ([] : va_W)) A) ([.int x] : List Value).toArray s 0 0 A) (F0 m 0 ls [])
  refine lv_iload_n hx hb dJ6_bitCount_0f7a4_0 rfl (lv_at hl 0 rfl) ?_
  refine lv_iload_n hx hb dJ6_bitCount_0f7a4_1 rfl (lv_at hl 0 rfl) ?_
  refine lv_iconst (v := 1) hx hb dJ6_bitCount_0f7a4_2 (by decide) ?_
  refine lv_iushr (v := (x.toUInt32 >>> ((1 : Int32).toUInt32 &&& Int32.toUInt32 31)).toInt32) hx hb dJ6_bitCount_0f7a4_3 rfl ?_
  refine lv_ldcw (v := 1431655765) hx hb hown (hts (.constant RJ6 265 (1431655765)) (by decide +kernel)) dJ6_bitCount_0f7a4_4 ?_
  refine lv_iand hx hb dJ6_bitCount_0f7a4_7 ?_
  refine lv_isub hx hb dJ6_bitCount_0f7a4_8 ?_
  refine lv_istore_n (lv' := [(0, .int (V_J6_bitCount_0f7a4_1 x))]) hx hb dJ6_bitCount_0f7a4_9 rfl hl (by decide) rfl (fun ls hl => ?_)
  refine lv_iload_n hx hb dJ6_bitCount_0f7a4_10 rfl (lv_at hl 0 rfl) ?_
  refine lv_ldcw (v := 858993459) hx hb hown (hts (.constant RJ6 266 (858993459)) (by decide +kernel)) dJ6_bitCount_0f7a4_11 ?_
  refine lv_iand hx hb dJ6_bitCount_0f7a4_14 ?_
  refine lv_iload_n hx hb dJ6_bitCount_0f7a4_15 rfl (lv_at hl 0 rfl) ?_
  refine lv_iconst (v := 2) hx hb dJ6_bitCount_0f7a4_16 (by decide) ?_
  refine lv_iushr (v := ((V_J6_bitCount_0f7a4_1 x).toUInt32 >>> ((2 : Int32).toUInt32 &&& Int32.toUInt32 31)).toInt32) hx hb dJ6_bitCount_0f7a4_17 rfl ?_
  refine lv_ldcw (v := 858993459) hx hb hown (hts (.constant RJ6 266 (858993459)) (by decide +kernel)) dJ6_bitCount_0f7a4_18 ?_
  refine lv_iand hx hb dJ6_bitCount_0f7a4_21 ?_
  refine lv_iadd hx hb dJ6_bitCount_0f7a4_22 ?_
  refine lv_istore_n (lv' := [(0, .int (V_J6_bitCount_0f7a4_2 x))]) hx hb dJ6_bitCount_0f7a4_23 rfl hl (by decide) rfl (fun ls hl => ?_)
  refine lv_iload_n hx hb dJ6_bitCount_0f7a4_24 rfl (lv_at hl 0 rfl) ?_
  refine lv_iload_n hx hb dJ6_bitCount_0f7a4_25 rfl (lv_at hl 0 rfl) ?_
  refine lv_iconst (v := 4) hx hb dJ6_bitCount_0f7a4_26 (by decide) ?_
  refine lv_iushr (v := ((V_J6_bitCount_0f7a4_2 x).toUInt32 >>> ((4 : Int32).toUInt32 &&& Int32.toUInt32 31)).toInt32) hx hb dJ6_bitCount_0f7a4_27 rfl ?_
  refine lv_iadd hx hb dJ6_bitCount_0f7a4_28 ?_
  refine lv_ldcw (v := 252645135) hx hb hown (hts (.constant RJ6 267 (252645135)) (by decide +kernel)) dJ6_bitCount_0f7a4_29 ?_
  refine lv_iand hx hb dJ6_bitCount_0f7a4_32 ?_
  refine lv_istore_n (lv' := [(0, .int (V_J6_bitCount_0f7a4_3 x))]) hx hb dJ6_bitCount_0f7a4_33 rfl hl (by decide) rfl (fun ls hl => ?_)
  refine lv_iload_n hx hb dJ6_bitCount_0f7a4_34 rfl (lv_at hl 0 rfl) ?_
  refine lv_iload_n hx hb dJ6_bitCount_0f7a4_35 rfl (lv_at hl 0 rfl) ?_
  refine lv_bipush (v := 8) hx hb dJ6_bitCount_0f7a4_36 (by decide) ?_
  refine lv_iushr (v := ((V_J6_bitCount_0f7a4_3 x).toUInt32 >>> ((8 : Int32).toUInt32 &&& Int32.toUInt32 31)).toInt32) hx hb dJ6_bitCount_0f7a4_38 rfl ?_
  refine lv_iadd hx hb dJ6_bitCount_0f7a4_39 ?_
  refine lv_istore_n (lv' := [(0, .int (V_J6_bitCount_0f7a4_4 x))]) hx hb dJ6_bitCount_0f7a4_40 rfl hl (by decide) rfl (fun ls hl => ?_)
  refine lv_iload_n hx hb dJ6_bitCount_0f7a4_41 rfl (lv_at hl 0 rfl) ?_
  refine lv_iload_n hx hb dJ6_bitCount_0f7a4_42 rfl (lv_at hl 0 rfl) ?_
  refine lv_bipush (v := 16) hx hb dJ6_bitCount_0f7a4_43 (by decide) ?_
  refine lv_iushr (v := ((V_J6_bitCount_0f7a4_4 x).toUInt32 >>> ((16 : Int32).toUInt32 &&& Int32.toUInt32 31)).toInt32) hx hb dJ6_bitCount_0f7a4_45 rfl ?_
  refine lv_iadd hx hb dJ6_bitCount_0f7a4_46 ?_
  refine lv_istore_n (lv' := [(0, .int (V_J6_bitCount_0f7a4_5 x))]) hx hb dJ6_bitCount_0f7a4_47 rfl hl (by decide) rfl (fun ls hl => ?_)
  refine lv_iload_n hx hb dJ6_bitCount_0f7a4_48 rfl (lv_at hl 0 rfl) ?_
  refine lv_bipush (v := 63) hx hb dJ6_bitCount_0f7a4_49 (by decide) ?_
  refine lv_iand hx hb dJ6_bitCount_0f7a4_51 ?_
  have e9 : D_J6_bitCount_0f7a4 x = (V_J6_bitCount_0f7a4_5 x) &&& 63 := by rw [D_J6_bitCount_0f7a4]
  exact ret_i hx hb hr hlk hP hD hS dJ6_bitCount_0f7a4_52 ⟨Nat.zero_le _, Nat.zero_le _⟩ ⟨e9.symm, rfl⟩
def T_J7_fill_53178_1 (v : Int32) (i : Int32) (f1 : Nat → Int32) : Nat → Int32 := upd f1 i.toNatClampNeg v
def L_J7_fill_53178_5 (n : Nat) (f : Nat → Int32) (v : Int32) : Nat → (Int32) → (Nat → Int32) → (Nat → Int32)
  | 0, i, f1 => f1
  | n_5 + 1, i, f1 => if (nI n) ≤ i then f1 else (L_J7_fill_53178_5 n f v n_5 (i + 1) (T_J7_fill_53178_1 v i f1))
def D_J7_fill_53178 (n : Nat) (f : Nat → Int32) (v : Int32) : (Nat → Int32) := (L_J7_fill_53178_5 n f v (n + 1) 0 f)
set_option maxHeartbeats 4000000 in
set_option maxRecDepth 100000 in
theorem c_J7_fill_53178 (l : Launch) (D : va_G) (Y : YY) (sz : Nat) (n : Nat) (f : Nat → Int32) (a : Nat) (v : Int32) (hn : n < 2 ^ 31) : Met l yJ7_fill_53178 wsJ7_fill_53178 ({ frames := 0, cells := 0, slots := 0, locals := 0 } : Room) (va_Pc [.ref a, .int v] (Pst D Y sz (wI Y a n f))) ((fun A : Nat → Prop => Qsv D (fun w9 => w9 = wI Y a n (D_J7_fill_53178 n f v)) A) (va_A (wI Y a n f) sz)) 0 0 (va_A (wI Y a n f) sz) := by
  refine ct_in (cc := cJ7_fill_53178) (maxL := 4) (ret := none) (Qc := fun A : Nat → Prop => Qsv D (fun w9 => w9 = wI Y a n (D_J7_fill_53178 n f v)) A) (by decide +kernel) rfl (Nat.le_of_ble_eq_true rfl) ?_
  intro p e s m below meth c A ls hx hb hr hts hown hml hlk hin hsz hA hP hD hK hS hl
  have hown : s.vm.findClass RJ7 = some m.cls := hown
  have hl : lv_has ls 4 [(0, .ref a), (1, .int v)] := hl
  show W p l e ({ frames := 0, cells := 0, slots := 0, locals := 0 } : Room) s m ([.ref a, .int v] : List Value).toArray below meth c s.heap [] 0 0 (MQ below (Qsv D (fun w9 => w9 = wI Y a n (D_J7_fill_53178 n f v)) A) ([.ref a, .int v] : List Value).toArray s 0 0 A) (F0 m 0 ls [])
  refine lv_iconst (v := 0) hx hb dJ7_fill_53178_0 (by decide) ?_
  refine lv_istore_n (lv' := [(2, .int 0), (0, .ref a), (1, .int v)]) hx hb dJ7_fill_53178_1 rfl hl (by decide) rfl (fun ls hl => ?_)
  refine lv_aload_n hx hb dJ7_fill_53178_2 rfl (lv_at hl 1 rfl) ?_
  refine va_alen (D := D) hx hb hK.1 hP 0 0 rfl rfl (v := nI n) rfl dJ7_fill_53178_3 ?_
  refine lv_istore_n (lv' := [(3, .int (nI n)), (2, .int 0), (0, .ref a), (1, .int v)]) hx hb dJ7_fill_53178_4 rfl hl (by decide) rfl (fun ls hl => ?_)
  have loop_5 : ∀ (n_5 k_5 : Nat) (i : Int32) (f1 : Nat → Int32) (H : Heap) (locs : List Loc) (ls : Array Slot), n + 1 ≤ k_5 + n_5 → k_5 ≤ n → i = nI k_5 → va_P D vwCl (wI Y a n f1) H → va_D A (wI Y a n f1) → va_S A s.heap H locs → lv_has ls 4 [(3, .int (nI n)), (2, .int i), (0, .ref a), (1, .int v)] → L_J7_fill_53178_5 n f v n_5 i f1 = L_J7_fill_53178_5 n f v (n + 1) 0 f → W p l e ({ frames := 0, cells := 0, slots := 0, locals := 0 } : Room) s m ([.ref a, .int v] : List Value).toArray below meth c H locs 0 0 (MQ below (Qsv D (fun w9 => w9 = wI Y a n (D_J7_fill_53178 n f v)) A) ([.ref a, .int v] : List Value).toArray s 0 0 A) (F0 m 5 ls []) := by
    intro n_5
    induction n_5 with
    | zero => intro k_5 i f1 H locs ls hkf hkN_5 ex_5 hP hD hS hl hR_5; exact absurd hkf (by omega)
    | succ n_5 ih_5 =>
      intro k_5 i f1 H locs ls hkf hkN_5 ex_5 hP hD hS hl hR_5
      refine lv_iload_n hx hb dJ7_fill_53178_5 rfl (lv_at hl 1 rfl) ?_
      refine lv_iload_n hx hb dJ7_fill_53178_6 rfl (lv_at hl 0 rfl) ?_
      refine lv_icmp_ge (tgt := 20) hx hb dJ7_fill_53178_7 (by decide) (fun c_1 => ?_) (fun c_1 => ?_)
      · have e8 : L_J7_fill_53178_5 n f v (n_5 + 1) i f1 = f1 := by rw [L_J7_fill_53178_5, if_pos c_1]
        have e8 := hR_5.symm.trans e8
        have ef1 : L_J7_fill_53178_5 n f v (n + 1) 0 f = f1 := by rw [e8]
        clear e8 hR_5 ih_5
        subst ef1
        have e9 : D_J7_fill_53178 n f v = (L_J7_fill_53178_5 n f v (n + 1) 0 f) := by rw [D_J7_fill_53178]
        exact ret_v hx hb hr hlk hP hD hS dJ7_fill_53178_20 ⟨Nat.zero_le _, Nat.zero_le _⟩ (by rw [e9])
      · have hk_5 := my_lt ex_5 (show (nI n : Int32) = nI n from rfl) (by omega) hkN_5 c_1
        refine lv_aload_n hx hb dJ7_fill_53178_10 rfl (lv_at hl 2 rfl) ?_
        refine lv_iload_n hx hb dJ7_fill_53178_11 rfl (lv_at hl 1 rfl) ?_
        refine lv_iload_n hx hb dJ7_fill_53178_12 rfl (lv_at hl 3 rfl) ?_
        refine va_iast (D := D) hx hb hK.1 hP hD hS 0 0 rfl rfl (by rw [ex_5]; exact vp_in_nI hk_5 (by omega)) dJ7_fill_53178_13 (fun H locs hP hD hS => ?_)
        have hP : va_P D vwCl (wI Y a n (T_J7_fill_53178_1 v i f1)) H := hP
        have hD : va_D A (wI Y a n (T_J7_fill_53178_1 v i f1)) := hD
        obtain ⟨S_1, eS_1⟩ : ∃ z9, T_J7_fill_53178_1 v i f1 = z9 := ⟨_, rfl⟩
        rw [eS_1] at hP hD
        refine lv_iinc (v := i + 1) (lv' := [(2, .int (i + 1)), (3, .int (nI n)), (0, .ref a), (1, .int v)]) hx hb dJ7_fill_53178_14 hl (k := 1) rfl rfl (by decide) rfl (fun ls hl => ?_)
        refine lv_goto (tgt := 5) hx hb dJ7_fill_53178_17 (by decide) ?_
        subst eS_1
        exact ih_5 (k_5 + 1) (i + 1) (T_J7_fill_53178_1 v i f1) _ _ _ (by omega) (by omega) (by rw [ex_5]; exact nI_1 k_5)  hP hD hS (lv_sub hl [1, 0, 2, 3] rfl) (by rw [L_J7_fill_53178_5, if_neg c_1] at hR_5; exact hR_5)
  exact loop_5 (n + 1) 0 0 f _ _ _ (by omega) (Nat.zero_le _) nI_0.symm  hP hD hS (lv_sub hl [0, 1, 2, 3] rfl) rfl
def D_X3_isVillager  (v : Int32) : (Int32) := if v < 0 then 0 else (if 9 ≤ v then 0 else 1)
set_option maxHeartbeats 4000000 in
set_option maxRecDepth 100000 in
theorem c_X3_isVillager (l : Launch) (D : va_G) (Y : YY) (sz : Nat) (v : Int32) : Met l yX3_isVillager wsX3_isVillager ({ frames := 0, cells := 0, slots := 0, locals := 0 } : Room) (va_Pc [.int v] (Pst D Y sz (([] : va_W)))) ((fun A : Nat → Prop => Qsi D (fun r9 w9 => r9 = D_X3_isVillager v ∧ w9 = ([] : va_W)) A) (va_A (([] : va_W)) sz)) 0 0 (va_A (([] : va_W)) sz) := by
  refine ct_in (cc := cX3_isVillager) (maxL := 1) (ret := (some .boolean)) (Qc := fun A : Nat → Prop => Qsi D (fun r9 w9 => r9 = D_X3_isVillager v ∧ w9 = ([] : va_W)) A) (by decide +kernel) rfl (Nat.le_of_ble_eq_true rfl) ?_
  intro p e s m below meth c A ls hx hb hr hts hown hml hlk hin hsz hA hP hD hK hS hl
  have hown : s.vm.findClass RX3 = some m.cls := hown
  have hl : lv_has ls 1 [(0, .int v)] := hl
  show W p l e ({ frames := 0, cells := 0, slots := 0, locals := 0 } : Room) s m ([.int v] : List Value).toArray below meth c s.heap [] 0 0 (MQ below (Qsi D (fun r9 w9 => r9 = D_X3_isVillager v ∧ w9 = ([] : va_W)) A) ([.int v] : List Value).toArray s 0 0 A) (F0 m 0 ls [])
  refine lv_iload_n hx hb dX3_isVillager_0 rfl (lv_at hl 0 rfl) ?_
  refine lv_if_lt (tgt := 14) hx hb dX3_isVillager_1 (by decide) (fun c_1 => ?_) (fun c_1 => ?_)
  · refine lv_iconst (v := 0) hx hb dX3_isVillager_14 (by decide) ?_
    have e9 : D_X3_isVillager v = 0 := by rw [D_X3_isVillager, if_pos c_1]
    exact ret_z hx hb hr rfl hlk hP hD hS dX3_isVillager_15 ⟨Nat.zero_le _, Nat.zero_le _⟩ ⟨e9.symm, rfl⟩
  · refine lv_iload_n hx hb dX3_isVillager_4 rfl (lv_at hl 0 rfl) ?_
    refine lv_bipush (v := 9) hx hb dX3_isVillager_5 (by decide) ?_
    refine lv_icmp_ge (tgt := 14) hx hb dX3_isVillager_7 (by decide) (fun c_2 => ?_) (fun c_2 => ?_)
    · refine lv_iconst (v := 0) hx hb dX3_isVillager_14 (by decide) ?_
      have e9 : D_X3_isVillager v = 0 := by rw [D_X3_isVillager, if_neg c_1, if_pos c_2]
      exact ret_z hx hb hr rfl hlk hP hD hS dX3_isVillager_15 ⟨Nat.zero_le _, Nat.zero_le _⟩ ⟨e9.symm, rfl⟩
    · refine lv_iconst (v := 1) hx hb dX3_isVillager_10 (by decide) ?_
      refine lv_goto (tgt := 15) hx hb dX3_isVillager_11 (by decide) ?_
      have e9 : D_X3_isVillager v = 1 := by rw [D_X3_isVillager, if_neg c_1, if_neg c_2]
      exact ret_z hx hb hr rfl hlk hP hD hS dX3_isVillager_15 ⟨Nat.zero_le _, Nat.zero_le _⟩ ⟨e9.symm, rfl⟩
theorem z_X3_isVillager  (v : Int32) : D_X3_isVillager v = 0 ∨ D_X3_isVillager v = 1 := by unfold D_X3_isVillager; (repeat' split) <;> simp
def D_X3_isNumber  (v : Int32) : (Int32) := if v < 0 then 0 else (if 999 < v then 0 else 1)
set_option maxHeartbeats 4000000 in
set_option maxRecDepth 100000 in
theorem c_X3_isNumber (l : Launch) (D : va_G) (Y : YY) (sz : Nat) (v : Int32) : Met l yX3_isNumber wsX3_isNumber ({ frames := 0, cells := 0, slots := 0, locals := 0 } : Room) (va_Pc [.int v] (Pst D Y sz (([] : va_W)))) ((fun A : Nat → Prop => Qsi D (fun r9 w9 => r9 = D_X3_isNumber v ∧ w9 = ([] : va_W)) A) (va_A (([] : va_W)) sz)) 0 0 (va_A (([] : va_W)) sz) := by
  refine ct_in (cc := cX3_isNumber) (maxL := 1) (ret := (some .boolean)) (Qc := fun A : Nat → Prop => Qsi D (fun r9 w9 => r9 = D_X3_isNumber v ∧ w9 = ([] : va_W)) A) (by decide +kernel) rfl (Nat.le_of_ble_eq_true rfl) ?_
  intro p e s m below meth c A ls hx hb hr hts hown hml hlk hin hsz hA hP hD hK hS hl
  have hown : s.vm.findClass RX3 = some m.cls := hown
  have hl : lv_has ls 1 [(0, .int v)] := hl
  show W p l e ({ frames := 0, cells := 0, slots := 0, locals := 0 } : Room) s m ([.int v] : List Value).toArray below meth c s.heap [] 0 0 (MQ below (Qsi D (fun r9 w9 => r9 = D_X3_isNumber v ∧ w9 = ([] : va_W)) A) ([.int v] : List Value).toArray s 0 0 A) (F0 m 0 ls [])
  refine lv_iload_n hx hb dX3_isNumber_0 rfl (lv_at hl 0 rfl) ?_
  refine lv_if_lt (tgt := 15) hx hb dX3_isNumber_1 (by decide) (fun c_1 => ?_) (fun c_1 => ?_)
  · refine lv_iconst (v := 0) hx hb dX3_isNumber_15 (by decide) ?_
    have e9 : D_X3_isNumber v = 0 := by rw [D_X3_isNumber, if_pos c_1]
    exact ret_z hx hb hr rfl hlk hP hD hS dX3_isNumber_16 ⟨Nat.zero_le _, Nat.zero_le _⟩ ⟨e9.symm, rfl⟩
  · refine lv_iload_n hx hb dX3_isNumber_4 rfl (lv_at hl 0 rfl) ?_
    refine lv_sipush (v := 999) hx hb dX3_isNumber_5 (by decide) ?_
    refine lv_icmp_gt (tgt := 15) hx hb dX3_isNumber_8 (by decide) (fun c_2 => ?_) (fun c_2 => ?_)
    · refine lv_iconst (v := 0) hx hb dX3_isNumber_15 (by decide) ?_
      have e9 : D_X3_isNumber v = 0 := by rw [D_X3_isNumber, if_neg c_1, if_pos c_2]
      exact ret_z hx hb hr rfl hlk hP hD hS dX3_isNumber_16 ⟨Nat.zero_le _, Nat.zero_le _⟩ ⟨e9.symm, rfl⟩
    · refine lv_iconst (v := 1) hx hb dX3_isNumber_11 (by decide) ?_
      refine lv_goto (tgt := 16) hx hb dX3_isNumber_12 (by decide) ?_
      have e9 : D_X3_isNumber v = 1 := by rw [D_X3_isNumber, if_neg c_1, if_neg c_2]
      exact ret_z hx hb hr rfl hlk hP hD hS dX3_isNumber_16 ⟨Nat.zero_le _, Nat.zero_le _⟩ ⟨e9.symm, rfl⟩
theorem z_X3_isNumber  (v : Int32) : D_X3_isNumber v = 0 ∨ D_X3_isNumber v = 1 := by unfold D_X3_isNumber; (repeat' split) <;> simp
def D_X3_isSlot  (v : Int32) : (Int32) := if v < 0 then 0 else (if 2 ≤ v then 0 else 1)
set_option maxHeartbeats 4000000 in
set_option maxRecDepth 100000 in
theorem c_X3_isSlot (l : Launch) (D : va_G) (Y : YY) (sz : Nat) (v : Int32) : Met l yX3_isSlot wsX3_isSlot ({ frames := 0, cells := 0, slots := 0, locals := 0 } : Room) (va_Pc [.int v] (Pst D Y sz (([] : va_W)))) ((fun A : Nat → Prop => Qsi D (fun r9 w9 => r9 = D_X3_isSlot v ∧ w9 = ([] : va_W)) A) (va_A (([] : va_W)) sz)) 0 0 (va_A (([] : va_W)) sz) := by
  refine ct_in (cc := cX3_isSlot) (maxL := 1) (ret := (some .boolean)) (Qc := fun A : Nat → Prop => Qsi D (fun r9 w9 => r9 = D_X3_isSlot v ∧ w9 = ([] : va_W)) A) (by decide +kernel) rfl (Nat.le_of_ble_eq_true rfl) ?_
  intro p e s m below meth c A ls hx hb hr hts hown hml hlk hin hsz hA hP hD hK hS hl
  have hown : s.vm.findClass RX3 = some m.cls := hown
  have hl : lv_has ls 1 [(0, .int v)] := hl
  show W p l e ({ frames := 0, cells := 0, slots := 0, locals := 0 } : Room) s m ([.int v] : List Value).toArray below meth c s.heap [] 0 0 (MQ below (Qsi D (fun r9 w9 => r9 = D_X3_isSlot v ∧ w9 = ([] : va_W)) A) ([.int v] : List Value).toArray s 0 0 A) (F0 m 0 ls [])
  refine lv_iload_n hx hb dX3_isSlot_0 rfl (lv_at hl 0 rfl) ?_
  refine lv_if_lt (tgt := 13) hx hb dX3_isSlot_1 (by decide) (fun c_1 => ?_) (fun c_1 => ?_)
  · refine lv_iconst (v := 0) hx hb dX3_isSlot_13 (by decide) ?_
    have e9 : D_X3_isSlot v = 0 := by rw [D_X3_isSlot, if_pos c_1]
    exact ret_z hx hb hr rfl hlk hP hD hS dX3_isSlot_14 ⟨Nat.zero_le _, Nat.zero_le _⟩ ⟨e9.symm, rfl⟩
  · refine lv_iload_n hx hb dX3_isSlot_4 rfl (lv_at hl 0 rfl) ?_
    refine lv_iconst (v := 2) hx hb dX3_isSlot_5 (by decide) ?_
    refine lv_icmp_ge (tgt := 13) hx hb dX3_isSlot_6 (by decide) (fun c_2 => ?_) (fun c_2 => ?_)
    · refine lv_iconst (v := 0) hx hb dX3_isSlot_13 (by decide) ?_
      have e9 : D_X3_isSlot v = 0 := by rw [D_X3_isSlot, if_neg c_1, if_pos c_2]
      exact ret_z hx hb hr rfl hlk hP hD hS dX3_isSlot_14 ⟨Nat.zero_le _, Nat.zero_le _⟩ ⟨e9.symm, rfl⟩
    · refine lv_iconst (v := 1) hx hb dX3_isSlot_9 (by decide) ?_
      refine lv_goto (tgt := 14) hx hb dX3_isSlot_10 (by decide) ?_
      have e9 : D_X3_isSlot v = 1 := by rw [D_X3_isSlot, if_neg c_1, if_neg c_2]
      exact ret_z hx hb hr rfl hlk hP hD hS dX3_isSlot_14 ⟨Nat.zero_le _, Nat.zero_le _⟩ ⟨e9.symm, rfl⟩
theorem z_X3_isSlot  (v : Int32) : D_X3_isSlot v = 0 ∨ D_X3_isSlot v = 1 := by unfold D_X3_isSlot; (repeat' split) <;> simp
def D_X3_remainderOf  (x : Int32) : (Int32) := D_J9_floorMod_7cf53 x 9
set_option maxHeartbeats 4000000 in
set_option maxRecDepth 100000 in
theorem c_X3_remainderOf (l : Launch) (D : va_G) (Y : YY) (sz : Nat) (x : Int32) : Met l yX3_remainderOf wsX3_remainderOf ({ frames := 1, cells := 0, slots := 0, locals := 22 } : Room) (va_Pc [.int x] (Pst D Y sz (([] : va_W)))) ((fun A : Nat → Prop => Qsi D (fun r9 w9 => r9 = D_X3_remainderOf x ∧ w9 = ([] : va_W)) A) (va_A (([] : va_W)) sz)) 0 0 (va_A (([] : va_W)) sz) := by
  refine ct_in (cc := cX3_remainderOf) (maxL := 1) (ret := (some .int)) (Qc := fun A : Nat → Prop => Qsi D (fun r9 w9 => r9 = D_X3_remainderOf x ∧ w9 = ([] : va_W)) A) (by decide +kernel) rfl (Nat.le_of_ble_eq_true rfl) ?_
  intro p e s m below meth c A ls hx hb hr hts hown hml hlk hin hsz hA hP hD hK hS hl
  have hown : s.vm.findClass RX3 = some m.cls := hown
  have hl : lv_has ls 1 [(0, .int x)] := hl
  show W p l e ({ frames := 1, cells := 0, slots := 0, locals := 22 } : Room) s m ([.int x] : List Value).toArray below meth c s.heap [] 0 0 (MQ below (Qsi D (fun r9 w9 => r9 = D_X3_remainderOf x ∧ w9 = ([] : va_W)) A) ([.int x] : List Value).toArray s 0 0 A) (F0 m 0 ls [])
  refine lv_iload_n hx hb dX3_remainderOf_0 rfl (lv_at hl 0 rfl) ?_
  refine lv_bipush (v := 9) hx hb dX3_remainderOf_1 (by decide) ?_
  refine ck_iD (wr := ([] : va_W)) (ws' := ([] : va_W)) (va_runS (As := [.int x, .int 9]) (rest := []) ⟨hx, hb, hml, hown, hts⟩ (c_J9_floorMod_7cf53 l D Y s.heap.size x 9 (by decide)) (va_cwS 2 hts gX3_remainderOf_J9_floorMod_7cf53 rfl rfl rfl (by decide +kernel) ⟨Nat.le_of_ble_eq_true rfl, Nat.le_of_ble_eq_true rfl⟩) (pst_S hK hP hD [] rfl (by decide)) rfl rfl hl.1 rfl (lv_room (Nat.le_of_ble_eq_true rfl)) dX3_remainderOf_3 ⟨Nat.zero_le _, Nat.zero_le _⟩) hP hD hS hA [] [] [] rfl rfl (by decide) (by decide) rfl (by decide) (fun H locs hP hD hS => ?_)
  have e9 : D_X3_remainderOf x = D_J9_floorMod_7cf53 x 9 := by rw [D_X3_remainderOf]
  exact ret_i hx hb hr hlk hP hD hS dX3_remainderOf_6 ⟨Nat.zero_le _, Nat.zero_le _⟩ ⟨e9.symm, rfl⟩
theorem sg0 (y : Int32) : 0 ≤ y ↔ y.toBitVec.msb = false := by
  rw [Int32.le_iff_toInt_le, BitVec.msb_eq_toInt, decide_eq_false_iff_not, Int.not_lt]
  exact Iff.rfl
theorem sgx (x : Int32) : 0 ≤ x ^^^ 9 ↔ 0 ≤ x.toInt := by
  rw [sg0, Int32.toBitVec_xor, BitVec.msb_xor, show (9 : Int32).toBitVec.msb = false from by decide, Bool.xor_false, BitVec.msb_eq_toInt, decide_eq_false_iff_not, Int.not_lt]
  exact Iff.rfl
theorem ti_fm (x : Int32) : (D_J9_floorMod_7cf53 x 9).toInt = x.toInt % 9 := by
  unfold D_J9_floorMod_7cf53
  rw [irem_eq_mod]
  have hm : (x % 9).toInt = x.toInt.tmod 9 := by rw [Int32.toInt_mod]; rfl
  by_cases h : 0 ≤ x ^^^ 9
  · rw [if_pos h, hm]
    have h1 := (sgx x).mp h
    rw [Int.tmod_eq_emod_of_nonneg h1]
  · rw [if_neg h]
    have h1 : ¬ 0 ≤ x.toInt := fun q => h ((sgx x).mpr q)
    have h2 : x.toInt.tmod 9 = -((-x.toInt) % 9) := by
      rw [← Int.tmod_eq_emod_of_nonneg (by omega : (0 : Int) ≤ -x.toInt), Int.neg_tmod, Int.neg_neg]
    by_cases h0 : x % 9 = 0
    · rw [if_pos h0, hm]
      have h3 : (x % 9).toInt = 0 := by rw [h0]; rfl
      rw [hm] at h3
      omega
    · rw [if_neg h0, Int32.toInt_add, hm, show (9 : Int32).toInt = 9 from rfl]
      have h3 : ¬ x.toInt.tmod 9 = 0 := fun q => h0 (Int32.toInt_inj.mp (by rw [hm, q]; rfl))
      rw [Int.bmod_eq_of_le_mul_two (by omega) (by omega)]
      omega
theorem ti_remainderOf (x : Int32) : (D_X3_remainderOf x).toInt = x.toInt % 9 := ti_fm x
theorem in_remainderOf (x : Int32) : vp_in (D_X3_remainderOf x) 9 := by
  rw [vp_in_iff, ti_remainderOf]
  omega
def D_X3_counterpart  (v : Int32) (n : Int32) : (Int32) := D_X3_remainderOf (n - v)
set_option maxHeartbeats 4000000 in
set_option maxRecDepth 100000 in
theorem c_X3_counterpart (l : Launch) (D : va_G) (Y : YY) (sz : Nat) (v : Int32) (n : Int32) : Met l yX3_counterpart wsX3_counterpart ({ frames := 2, cells := 0, slots := 0, locals := 42 } : Room) (va_Pc [.int v, .int n] (Pst D Y sz (([] : va_W)))) ((fun A : Nat → Prop => Qsi D (fun r9 w9 => r9 = D_X3_counterpart v n ∧ w9 = ([] : va_W)) A) (va_A (([] : va_W)) sz)) 0 0 (va_A (([] : va_W)) sz) := by
  refine ct_in (cc := cX3_counterpart) (maxL := 2) (ret := (some .int)) (Qc := fun A : Nat → Prop => Qsi D (fun r9 w9 => r9 = D_X3_counterpart v n ∧ w9 = ([] : va_W)) A) (by decide +kernel) rfl (Nat.le_of_ble_eq_true rfl) ?_
  intro p e s m below meth c A ls hx hb hr hts hown hml hlk hin hsz hA hP hD hK hS hl
  have hown : s.vm.findClass RX3 = some m.cls := hown
  have hl : lv_has ls 2 [(0, .int v), (1, .int n)] := hl
  show W p l e ({ frames := 2, cells := 0, slots := 0, locals := 42 } : Room) s m ([.int v, .int n] : List Value).toArray below meth c s.heap [] 0 0 (MQ below (Qsi D (fun r9 w9 => r9 = D_X3_counterpart v n ∧ w9 = ([] : va_W)) A) ([.int v, .int n] : List Value).toArray s 0 0 A) (F0 m 0 ls [])
  refine lv_iload_n hx hb dX3_counterpart_0 rfl (lv_at hl 1 rfl) ?_
  refine lv_iload_n hx hb dX3_counterpart_1 rfl (lv_at hl 0 rfl) ?_
  refine lv_isub hx hb dX3_counterpart_2 ?_
  refine ck_iD (wr := ([] : va_W)) (ws' := ([] : va_W)) (va_runS (As := [.int (n - v)]) (rest := []) ⟨hx, hb, hml, hown, hts⟩ (c_X3_remainderOf l D Y s.heap.size (n - v)) (va_cwS 1 hts gX3_counterpart_X3_remainderOf rfl rfl rfl (by decide +kernel) ⟨Nat.le_of_ble_eq_true rfl, Nat.le_of_ble_eq_true rfl⟩) (pst_S hK hP hD [] rfl (by decide)) rfl rfl hl.1 rfl (lv_room (Nat.le_of_ble_eq_true rfl)) dX3_counterpart_3 ⟨Nat.zero_le _, Nat.zero_le _⟩) hP hD hS hA [] [] [] rfl rfl (by decide) (by decide) rfl (by decide) (fun H locs hP hD hS => ?_)
  have e9 : D_X3_counterpart v n = D_X3_remainderOf (n - v) := by rw [D_X3_counterpart]
  exact ret_i hx hb hr hlk hP hD hS dX3_counterpart_6 ⟨Nat.zero_le _, Nat.zero_le _⟩ ⟨e9.symm, rfl⟩
theorem in_counterpart (v n : Int32) : vp_in (D_X3_counterpart v n) 9 := in_remainderOf _
def D_X3_pairIndex  (a : Int32) (b : Int32) : (Int32) := if b ≤ a then (b * 9) + a else (a * 9) + b
set_option maxHeartbeats 4000000 in
set_option maxRecDepth 100000 in
theorem c_X3_pairIndex (l : Launch) (D : va_G) (Y : YY) (sz : Nat) (a : Int32) (b : Int32) : Met l yX3_pairIndex wsX3_pairIndex ({ frames := 0, cells := 0, slots := 0, locals := 0 } : Room) (va_Pc [.int a, .int b] (Pst D Y sz (([] : va_W)))) ((fun A : Nat → Prop => Qsi D (fun r9 w9 => r9 = D_X3_pairIndex a b ∧ w9 = ([] : va_W)) A) (va_A (([] : va_W)) sz)) 0 0 (va_A (([] : va_W)) sz) := by
  refine ct_in (cc := cX3_pairIndex) (maxL := 2) (ret := (some .int)) (Qc := fun A : Nat → Prop => Qsi D (fun r9 w9 => r9 = D_X3_pairIndex a b ∧ w9 = ([] : va_W)) A) (by decide +kernel) rfl (Nat.le_of_ble_eq_true rfl) ?_
  intro p e s m below meth c A ls hx hb hr hts hown hml hlk hin hsz hA hP hD hK hS hl
  have hown : s.vm.findClass RX3 = some m.cls := hown
  have hl : lv_has ls 2 [(0, .int a), (1, .int b)] := hl
  show W p l e ({ frames := 0, cells := 0, slots := 0, locals := 0 } : Room) s m ([.int a, .int b] : List Value).toArray below meth c s.heap [] 0 0 (MQ below (Qsi D (fun r9 w9 => r9 = D_X3_pairIndex a b ∧ w9 = ([] : va_W)) A) ([.int a, .int b] : List Value).toArray s 0 0 A) (F0 m 0 ls [])
  refine lv_iload_n hx hb dX3_pairIndex_0 rfl (lv_at hl 0 rfl) ?_
  refine lv_iload_n hx hb dX3_pairIndex_1 rfl (lv_at hl 1 rfl) ?_
  refine lv_icmp_ge (tgt := 14) hx hb dX3_pairIndex_2 (by decide) (fun c_1 => ?_) (fun c_1 => ?_)
  · refine lv_iload_n hx hb dX3_pairIndex_14 rfl (lv_at hl 1 rfl) ?_
    refine lv_bipush (v := 9) hx hb dX3_pairIndex_15 (by decide) ?_
    refine lv_imul hx hb dX3_pairIndex_17 ?_
    refine lv_iload_n hx hb dX3_pairIndex_18 rfl (lv_at hl 0 rfl) ?_
    refine lv_iadd hx hb dX3_pairIndex_19 ?_
    have e9 : D_X3_pairIndex a b = (b * 9) + a := by rw [D_X3_pairIndex, if_pos c_1]
    exact ret_i hx hb hr hlk hP hD hS dX3_pairIndex_20 ⟨Nat.zero_le _, Nat.zero_le _⟩ ⟨e9.symm, rfl⟩
  · refine lv_iload_n hx hb dX3_pairIndex_5 rfl (lv_at hl 0 rfl) ?_
    refine lv_bipush (v := 9) hx hb dX3_pairIndex_6 (by decide) ?_
    refine lv_imul hx hb dX3_pairIndex_8 ?_
    refine lv_iload_n hx hb dX3_pairIndex_9 rfl (lv_at hl 1 rfl) ?_
    refine lv_iadd hx hb dX3_pairIndex_10 ?_
    refine lv_goto (tgt := 20) hx hb dX3_pairIndex_11 (by decide) ?_
    have e9 : D_X3_pairIndex a b = (a * 9) + b := by rw [D_X3_pairIndex, if_neg c_1]
    exact ret_i hx hb hr hlk hP hD hS dX3_pairIndex_20 ⟨Nat.zero_le _, Nat.zero_le _⟩ ⟨e9.symm, rfl⟩
theorem in_pairIndex {a b : Int32} (ha : vp_in a 9) (hb : vp_in b 9) : vp_in (D_X3_pairIndex a b) 81 := by
  obtain ⟨j, hj, rfl⟩ := vp_in_of ha (by decide)
  obtain ⟨k, hk, rfl⟩ := vp_in_of hb (by decide)
  unfold D_X3_pairIndex
  split <;> (rw [show (9 : Int32) = nI 9 from rfl, pk_mul, nI_add]; exact vp_in_nI (by omega) (by decide))
theorem my_mul (k : Nat) {x : Int32} {n N : Nat} (h : vp_in x n) (h2 : k * (n - 1) < N) (hb : N < 2 ^ 31) : vp_in (nI k * x) N := by
  rw [vp_in_iff] at h
  obtain ⟨j, hj, rfl⟩ : ∃ j : Nat, j < n ∧ x = nI j := ⟨x.toInt.toNat, by omega, Int32.toInt_inj.mp (by rw [nI_toInt (by have := Int32.toInt_lt x; omega)]; omega)⟩
  rw [pk_mul]
  refine vp_in_nI (Nat.lt_of_le_of_lt (Nat.mul_le_mul_left k (by omega)) h2) hb
theorem my_rgA {x K : Int32} {n : Nat} (h0 : ¬ x < 0) (h1 : x < K) (hK : K.toInt = n) (hn : n < 2 ^ 31) : vp_in x n := by
  rw [vp_in_iff]
  rw [Int32.lt_iff_toInt_lt] at h0 h1
  have : (0 : Int32).toInt = 0 := rfl
  omega
theorem my_rgB {x K : Int32} {n : Nat} (h0 : ¬ x < 0) (h1 : x ≤ K) (hK : K.toInt + 1 = n) (hn : n < 2 ^ 31) : vp_in x n := by
  rw [vp_in_iff]
  rw [Int32.lt_iff_toInt_lt] at h0
  rw [Int32.le_iff_toInt_le] at h1
  have : (0 : Int32).toInt = 0 := rfl
  omega
theorem my_rgC {x K : Int32} {n : Nat} (h0 : ¬ x < 0) (h1 : ¬ K ≤ x) (hK : K.toInt = n) (hn : n < 2 ^ 31) : vp_in x n := my_rgA h0 (Int32.not_le.mp h1) hK hn
theorem my_rgD {x K : Int32} {n : Nat} (h0 : ¬ x < 0) (h1 : ¬ K < x) (hK : K.toInt + 1 = n) (hn : n < 2 ^ 31) : vp_in x n := my_rgB h0 (Int32.not_lt.mp h1) hK hn
theorem f3_isVillager {x : Int32} (h : ¬ D_X3_isVillager x = 0) : vp_in x 9 := by
  unfold D_X3_isVillager at h
  rw [vp_in_iff]
  simp only [Int32.lt_iff_toInt_lt, Int32.le_iff_toInt_le] at h
  have : (0 : Int32).toInt = 0 := rfl
  have : (9 : Int32).toInt = 9 := rfl
  split at h
  · exact absurd rfl h
  · split at h
    · exact absurd rfl h
    · omega
theorem f3_isNumber {x : Int32} (h : ¬ D_X3_isNumber x = 0) : vp_in x 1000 := by
  unfold D_X3_isNumber at h
  rw [vp_in_iff]
  simp only [Int32.lt_iff_toInt_lt, Int32.le_iff_toInt_le] at h
  have : (0 : Int32).toInt = 0 := rfl
  have : (999 : Int32).toInt = 999 := rfl
  split at h
  · exact absurd rfl h
  · split at h
    · exact absurd rfl h
    · omega
theorem f3_isSlot {x : Int32} (h : ¬ D_X3_isSlot x = 0) : vp_in x 2 := by
  unfold D_X3_isSlot at h
  rw [vp_in_iff]
  simp only [Int32.lt_iff_toInt_lt, Int32.le_iff_toInt_le] at h
  have : (0 : Int32).toInt = 0 := rfl
  have : (2 : Int32).toInt = 2 := rfl
  split at h
  · exact absurd rfl h
  · split at h
    · exact absurd rfl h
    · omega

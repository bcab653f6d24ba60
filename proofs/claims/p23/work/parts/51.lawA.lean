def D_L_up  (v : Int32) (n : Int32) : (Int32) := (v &&& 2147483647) - (v &&& 2147483647) / n * n
set_option maxHeartbeats 4000000 in
set_option maxRecDepth 100000 in
theorem c_L_up (l : Launch) (D : va_G) (Y : YY) (sz : Nat) (v : Int32) (n : Int32) (hn : ¬ n = 0) : Met l yL_up wsL_up ({ frames := 0, cells := 0, slots := 0, locals := 0 } : Room) (va_Pc [.int v, .int n] (Pst D Y sz (([] : va_W)))) ((fun A : Nat → Prop => Qsi D (fun r9 w9 => r9 = D_L_up v n ∧ w9 = ([] : va_W)) A) (va_A (([] : va_W)) sz)) 0 0 (va_A (([] : va_W)) sz) := by
  refine ct_in (cc := cL_up) (maxL := 2) (ret := (some .int)) (Qc := fun A : Nat → Prop => Qsi D (fun r9 w9 => r9 = D_L_up v n ∧ w9 = ([] : va_W)) A) (by decide +kernel) rfl (Nat.le_of_ble_eq_true rfl) ?_
  intro p e s m below meth c A ls hx hb hr hts hown hml hlk hin hsz hA hP hD hK hS hl
  have hown : s.vm.findClass RL = some m.cls := hown
  have hl : lv_has ls 2 [(0, .int v), (1, .int n)] := hl
  show W p l e ({ frames := 0, cells := 0, slots := 0, locals := 0 } : Room) s m ([.int v, .int n] : List Value).toArray below meth c s.heap [] 0 0 (MQ below (Qsi D (fun r9 w9 => r9 = D_L_up v n ∧ w9 = ([] : va_W)) A) ([.int v, .int n] : List Value).toArray s 0 0 A) (F0 m 0 ls [])
  refine lv_iload_n hx hb dL_up_0 rfl (lv_at hl 0 rfl) ?_
  refine lv_ldc (v := 2147483647) hx hb hown (hts (.constant RL 8 (2147483647)) (by decide +kernel)) dL_up_1 ?_
  refine lv_iand hx hb dL_up_3 ?_
  refine lv_iload_n hx hb dL_up_4 rfl (lv_at hl 1 rfl) ?_
  refine lv_irem hx hb dL_up_5 hn ?_
  have e9 : D_L_up v n = (v &&& 2147483647) - (v &&& 2147483647) / n * n := by rw [D_L_up]
  exact ret_i hx hb hr hlk hP hD hS dL_up_6 ⟨Nat.zero_le _, Nat.zero_le _⟩ ⟨e9.symm, rfl⟩
def D_L_there  (v : Int32) : (Int32) := (2 * v) - (2 * v) / 9 * 9
set_option maxHeartbeats 4000000 in
set_option maxRecDepth 100000 in
theorem c_L_there (l : Launch) (D : va_G) (Y : YY) (sz : Nat) (v : Int32) : Met l yL_there wsL_there ({ frames := 0, cells := 0, slots := 0, locals := 0 } : Room) (va_Pc [.int v] (Pst D Y sz (([] : va_W)))) ((fun A : Nat → Prop => Qsi D (fun r9 w9 => r9 = D_L_there v ∧ w9 = ([] : va_W)) A) (va_A (([] : va_W)) sz)) 0 0 (va_A (([] : va_W)) sz) := by
  refine ct_in (cc := cL_there) (maxL := 1) (ret := (some .int)) (Qc := fun A : Nat → Prop => Qsi D (fun r9 w9 => r9 = D_L_there v ∧ w9 = ([] : va_W)) A) (by decide +kernel) rfl (Nat.le_of_ble_eq_true rfl) ?_
  intro p e s m below meth c A ls hx hb hr hts hown hml hlk hin hsz hA hP hD hK hS hl
  have hown : s.vm.findClass RL = some m.cls := hown
  have hl : lv_has ls 1 [(0, .int v)] := hl
  show W p l e ({ frames := 0, cells := 0, slots := 0, locals := 0 } : Room) s m ([.int v] : List Value).toArray below meth c s.heap [] 0 0 (MQ below (Qsi D (fun r9 w9 => r9 = D_L_there v ∧ w9 = ([] : va_W)) A) ([.int v] : List Value).toArray s 0 0 A) (F0 m 0 ls [])
  refine lv_iconst (v := 2) hx hb dL_there_0 (by decide) ?_
  refine lv_iload_n hx hb dL_there_1 rfl (lv_at hl 0 rfl) ?_
  refine lv_imul hx hb dL_there_2 ?_
  refine lv_bipush (v := 9) hx hb dL_there_3 (by decide) ?_
  refine lv_irem hx hb dL_there_5 (by decide) ?_
  have e9 : D_L_there v = (2 * v) - (2 * v) / 9 * 9 := by rw [D_L_there]
  exact ret_i hx hb hr hlk hP hD hS dL_there_6 ⟨Nat.zero_le _, Nat.zero_le _⟩ ⟨e9.symm, rfl⟩
def D_L_twice  (v : Int32) : (Int32) := if (2 * v) ≤ 999 then (2 * v) else ((2 * v) - (2 * v) / 999 * 999) - ((2 * v) - (2 * v) / 999 * 999) / 9 * 9
set_option maxHeartbeats 4000000 in
set_option maxRecDepth 100000 in
theorem c_L_twice (l : Launch) (D : va_G) (Y : YY) (sz : Nat) (v : Int32) : Met l yL_twice wsL_twice ({ frames := 0, cells := 0, slots := 0, locals := 0 } : Room) (va_Pc [.int v] (Pst D Y sz (([] : va_W)))) ((fun A : Nat → Prop => Qsi D (fun r9 w9 => r9 = D_L_twice v ∧ w9 = ([] : va_W)) A) (va_A (([] : va_W)) sz)) 0 0 (va_A (([] : va_W)) sz) := by
  refine ct_in (cc := cL_twice) (maxL := 1) (ret := (some .int)) (Qc := fun A : Nat → Prop => Qsi D (fun r9 w9 => r9 = D_L_twice v ∧ w9 = ([] : va_W)) A) (by decide +kernel) rfl (Nat.le_of_ble_eq_true rfl) ?_
  intro p e s m below meth c A ls hx hb hr hts hown hml hlk hin hsz hA hP hD hK hS hl
  have hown : s.vm.findClass RL = some m.cls := hown
  have hl : lv_has ls 1 [(0, .int v)] := hl
  show W p l e ({ frames := 0, cells := 0, slots := 0, locals := 0 } : Room) s m ([.int v] : List Value).toArray below meth c s.heap [] 0 0 (MQ below (Qsi D (fun r9 w9 => r9 = D_L_twice v ∧ w9 = ([] : va_W)) A) ([.int v] : List Value).toArray s 0 0 A) (F0 m 0 ls [])
  refine lv_iconst (v := 2) hx hb dL_twice_0 (by decide) ?_
  refine lv_iload_n hx hb dL_twice_1 rfl (lv_at hl 0 rfl) ?_
  refine lv_imul hx hb dL_twice_2 ?_
  refine lv_sipush (v := 999) hx hb dL_twice_3 (by decide) ?_
  refine lv_icmp_le (tgt := 22) hx hb dL_twice_6 (by decide) (fun c_1 => ?_) (fun c_1 => ?_)
  · refine lv_iconst (v := 2) hx hb dL_twice_22 (by decide) ?_
    refine lv_iload_n hx hb dL_twice_23 rfl (lv_at hl 0 rfl) ?_
    refine lv_imul hx hb dL_twice_24 ?_
    have e9 : D_L_twice v = 2 * v := by rw [D_L_twice, if_pos c_1]
    exact ret_i hx hb hr hlk hP hD hS dL_twice_25 ⟨Nat.zero_le _, Nat.zero_le _⟩ ⟨e9.symm, rfl⟩
  · refine lv_iconst (v := 2) hx hb dL_twice_9 (by decide) ?_
    refine lv_iload_n hx hb dL_twice_10 rfl (lv_at hl 0 rfl) ?_
    refine lv_imul hx hb dL_twice_11 ?_
    refine lv_sipush (v := 999) hx hb dL_twice_12 (by decide) ?_
    refine lv_irem hx hb dL_twice_15 (by decide) ?_
    refine lv_bipush (v := 9) hx hb dL_twice_16 (by decide) ?_
    refine lv_irem hx hb dL_twice_18 (by decide) ?_
    refine lv_goto (tgt := 25) hx hb dL_twice_19 (by decide) ?_
    have e9 : D_L_twice v = ((2 * v) - (2 * v) / 999 * 999) - ((2 * v) - (2 * v) / 999 * 999) / 9 * 9 := by rw [D_L_twice, if_neg c_1]
    exact ret_i hx hb hr hlk hP hD hS dL_twice_25 ⟨Nat.zero_le _, Nat.zero_le _⟩ ⟨e9.symm, rfl⟩
def L_L_bits_4 (v : Int32) : Nat → (Int32) → (Int32) → (Int32)
  | 0, i, u => u
  | n_4 + 1, i, u => if 9 ≤ i then u else (L_L_bits_4 v n_4 (i + 1) (u + ((v >>> (i &&& 31)) &&& 1)))
def D_L_bits  (v : Int32) : (Int32) := (L_L_bits_4 v 10 0 0)
set_option maxHeartbeats 4000000 in
set_option maxRecDepth 100000 in
theorem c_L_bits (l : Launch) (D : va_G) (Y : YY) (sz : Nat) (v : Int32) : Met l yL_bits wsL_bits ({ frames := 0, cells := 0, slots := 0, locals := 0 } : Room) (va_Pc [.int v] (Pst D Y sz (([] : va_W)))) ((fun A : Nat → Prop => Qsi D (fun r9 w9 => r9 = D_L_bits v ∧ w9 = ([] : va_W)) A) (va_A (([] : va_W)) sz)) 0 0 (va_A (([] : va_W)) sz) := by
  refine ct_in (cc := cL_bits) (maxL := 3) (ret := (some .int)) (Qc := fun A : Nat → Prop => Qsi D (fun r9 w9 => r9 = D_L_bits v ∧ w9 = ([] : va_W)) A) (by decide +kernel) rfl (Nat.le_of_ble_eq_true rfl) ?_
  intro p e s m below meth c A ls hx hb hr hts hown hml hlk hin hsz hA hP hD hK hS hl
  have hown : s.vm.findClass RL = some m.cls := hown
  have hl : lv_has ls 3 [(0, .int v)] := hl
  show W p l e ({ frames := 0, cells := 0, slots := 0, locals := 0 } : Room) s m ([.int v] : List Value).toArray below meth c s.heap [] 0 0 (MQ below (Qsi D (fun r9 w9 => r9 = D_L_bits v ∧ w9 = ([] : va_W)) A) ([.int v] : List Value).toArray s 0 0 A) (F0 m 0 ls [])
  refine lv_iconst (v := 0) hx hb dL_bits_0 (by decide) ?_
  refine lv_istore_n (lv' := [(1, .int 0), (0, .int v)]) hx hb dL_bits_1 rfl hl (by decide) rfl (fun ls hl => ?_)
  refine lv_iconst (v := 0) hx hb dL_bits_2 (by decide) ?_
  refine lv_istore_n (lv' := [(2, .int 0), (1, .int 0), (0, .int v)]) hx hb dL_bits_3 rfl hl (by decide) rfl (fun ls hl => ?_)
  have loop_4 : ∀ (n_4 k_4 : Nat) (i : Int32) (u : Int32) (H : Heap) (locs : List Loc) (ls : Array Slot), 10 ≤ k_4 + n_4 → k_4 ≤ 9 → i = nI k_4 → va_P D vwCl (([] : va_W)) H → va_D A (([] : va_W)) → va_S A s.heap H locs → lv_has ls 3 [(2, .int i), (1, .int u), (0, .int v)] → L_L_bits_4 v n_4 i u = L_L_bits_4 v 10 0 0 → W p l e ({ frames := 0, cells := 0, slots := 0, locals := 0 } : Room) s m ([.int v] : List Value).toArray below meth c H locs 0 0 (MQ below (Qsi D (fun r9 w9 => r9 = D_L_bits v ∧ w9 = ([] : va_W)) A) ([.int v] : List Value).toArray s 0 0 A) (F0 m 4 ls []) := by
    intro n_4
    induction n_4 with
    | zero => intro k_4 i u H locs ls hkf hkN_4 ex_4 hP hD hS hl hR_4; exact absurd hkf (by omega)
    | succ n_4 ih_4 =>
      intro k_4 i u H locs ls hkf hkN_4 ex_4 hP hD hS hl hR_4
      refine lv_iload_n hx hb dL_bits_4 rfl (lv_at hl 0 rfl) ?_
      refine lv_bipush (v := 9) hx hb dL_bits_5 (by decide) ?_
      refine lv_icmp_ge (tgt := 24) hx hb dL_bits_7 (by decide) (fun c_1 => ?_) (fun c_1 => ?_)
      · have e8 : L_L_bits_4 v (n_4 + 1) i u = u := by rw [L_L_bits_4, if_pos c_1]
        have e8 := hR_4.symm.trans e8
        have eu : L_L_bits_4 v 10 0 0 = u := by rw [e8]
        clear e8 hR_4 ih_4
        refine lv_iload_n hx hb dL_bits_24 rfl (lv_at hl 1 rfl) ?_
        subst eu
        have e9 : D_L_bits v = (L_L_bits_4 v 10 0 0) := by rw [D_L_bits]
        exact ret_i hx hb hr hlk hP hD hS dL_bits_25 ⟨Nat.zero_le _, Nat.zero_le _⟩ ⟨e9.symm, rfl⟩
      · have hk_4 := my_lt ex_4 (show (9 : Int32) = nI 9 from rfl) (by decide) hkN_4 c_1
        refine lv_iload_n hx hb dL_bits_10 rfl (lv_at hl 1 rfl) ?_
        refine lv_iload_n hx hb dL_bits_11 rfl (lv_at hl 2 rfl) ?_
        refine lv_iload_n hx hb dL_bits_12 rfl (lv_at hl 0 rfl) ?_
        refine lv_ishr hx hb dL_bits_13 ?_
        refine lv_iconst (v := 1) hx hb dL_bits_14 (by decide) ?_
        refine lv_iand hx hb dL_bits_15 ?_
        refine lv_iadd hx hb dL_bits_16 ?_
        refine lv_istore_n (lv' := [(1, .int (u + ((v >>> (i &&& 31)) &&& 1))), (2, .int i), (0, .int v)]) hx hb dL_bits_17 rfl hl (by decide) rfl (fun ls hl => ?_)
        refine lv_iinc (v := i + 1) (lv' := [(2, .int (i + 1)), (1, .int (u + ((v >>> (i &&& 31)) &&& 1))), (0, .int v)]) hx hb dL_bits_18 hl (k := 1) rfl rfl (by decide) rfl (fun ls hl => ?_)
        refine lv_goto (tgt := 4) hx hb dL_bits_21 (by decide) ?_
        exact ih_4 (k_4 + 1) (i + 1) (u + ((v >>> (i &&& 31)) &&& 1)) _ _ _ (by omega) (by omega) (by rw [ex_4]; exact nI_1 k_4)  hP hD hS (lv_sub hl [0, 1, 2] rfl) (by rw [L_L_bits_4, if_neg c_1] at hR_4; exact hR_4)
  exact loop_4 10 0 0 0 _ _ _ (by omega) (Nat.zero_le _) nI_0.symm  hP hD hS (lv_sub hl [0, 1, 2] rfl) rfl

theorem my_mul (k : Nat) {x : Int32} {n N : Nat} (h : vp_in x n) (h2 : k * (n - 1) < N) (hb : N < 2 ^ 31) : vp_in (nI k * x) N := by
  rw [vp_in_iff] at h
  obtain ⟨j, hj, rfl⟩ : ∃ j : Nat, j < n ∧ x = nI j := ⟨x.toInt.toNat, by omega, Int32.toInt_inj.mp (by rw [nI_toInt (by have := Int32.toInt_lt x; omega)]; omega)⟩
  rw [pk_mul]
  refine vp_in_nI (Nat.lt_of_le_of_lt (Nat.mul_le_mul_left k (by omega)) h2) hb
theorem my_rgA {x K : Int32} {n : Nat} (h0 : ¬ x < 0) (h1 : x < K) (hK : K.toInt = n) (hn : n < 2 ^ 31) : vp_in x n := by
  rw [vp_in_iff]
  rw [Int32.lt_iff_toInt_lt] at h0 h1
  have : (0 : Int32).toInt = 0 := rfl
  omega
theorem my_rgB {x K : Int32} {n : Nat} (h0 : ¬ x < 0) (h1 : x ≤ K) (hK : K.toInt + 1 = n) (hn : n < 2 ^ 31) : vp_in x n := by
  rw [vp_in_iff]
  rw [Int32.lt_iff_toInt_lt] at h0
  rw [Int32.le_iff_toInt_le] at h1
  have : (0 : Int32).toInt = 0 := rfl
  omega
theorem my_rgC {x K : Int32} {n : Nat} (h0 : ¬ x < 0) (h1 : ¬ K ≤ x) (hK : K.toInt = n) (hn : n < 2 ^ 31) : vp_in x n := my_rgA h0 (Int32.not_le.mp h1) hK hn
theorem my_rgD {x K : Int32} {n : Nat} (h0 : ¬ x < 0) (h1 : ¬ K < x) (hK : K.toInt + 1 = n) (hn : n < 2 ^ 31) : vp_in x n := my_rgB h0 (Int32.not_lt.mp h1) hK hn
theorem f3_isVillager {x : Int32} (h : ¬ D_X3_isVillager x = 0) : vp_in x 9 := by
  unfold D_X3_isVillager at h
  rw [vp_in_iff]
  simp only [Int32.lt_iff_toInt_lt, Int32.le_iff_toInt_le] at h
  have : (0 : Int32).toInt = 0 := rfl
  have : (9 : Int32).toInt = 9 := rfl
  split at h
  · exact absurd rfl h
  · split at h
    · exact absurd rfl h
    · omega
theorem f3_isNumber {x : Int32} (h : ¬ D_X3_isNumber x = 0) : vp_in x 1000 := by
  unfold D_X3_isNumber at h
  rw [vp_in_iff]
  simp only [Int32.lt_iff_toInt_lt, Int32.le_iff_toInt_le] at h
  have : (0 : Int32).toInt = 0 := rfl
  have : (999 : Int32).toInt = 999 := rfl
  split at h
  · exact absurd rfl h
  · split at h
    · exact absurd rfl h
    · omega
theorem f3_isSlot {x : Int32} (h : ¬ D_X3_isSlot x = 0) : vp_in x 2 := by
  unfold D_X3_isSlot at h
  rw [vp_in_iff]
  simp only [Int32.lt_iff_toInt_lt, Int32.le_iff_toInt_le] at h
  have : (0 : Int32).toInt = 0 := rfl
  have : (2 : Int32).toInt = 2 := rfl
  split at h
  · exact absurd rfl h
  · split at h
    · exact absurd rfl h
    · omega
def D_X4_in  (x : Int64) (lo : Int64) (hi : Int64) : (Int32) := if (lg_cmp x lo) < 0 then 0 else (if 0 < (lg_cmp x hi) then 0 else 1)
set_option maxHeartbeats 4000000 in
set_option maxRecDepth 100000 in
theorem c_X4_in (l : Launch) (D : va_G) (Y : YY) (sz : Nat) (x : Int64) (lo : Int64) (hi : Int64) : Met l yX4_in wsX4_in ({ frames := 0, cells := 0, slots := 0, locals := 0 } : Room) (va_Pc [.long x, .long lo, .long hi] (Pst D Y sz (([] : va_W)))) ((fun A : Nat → Prop => Qsi D (fun r9 w9 => r9 = D_X4_in x lo hi ∧ w9 = ([] : va_W)) A) (va_A (([] : va_W)) sz)) 0 0 (va_A (([] : va_W)) sz) := by
  refine ct_in (cc := cX4_in) (maxL := 6) (ret := (some .boolean)) (Qc := fun A : Nat → Prop => Qsi D (fun r9 w9 => r9 = D_X4_in x lo hi ∧ w9 = ([] : va_W)) A) (by decide +kernel) rfl (Nat.le_of_ble_eq_true rfl) ?_
  intro p e s m below meth c A ls hx hb hr hts hown hml hlk hin hsz hA hP hD hK hS hl
  have hown : s.vm.findClass RX4 = some m.cls := hown
  have hl : lv_has ls 6 [(0, .long x), (2, .long lo), (4, .long hi)] := hl
  show W p l e ({ frames := 0, cells := 0, slots := 0, locals := 0 } : Room) s m ([.long x, .long lo, .long hi] : List Value).toArray below meth c s.heap [] 0 0 (MQ below (Qsi D (fun r9 w9 => r9 = D_X4_in x lo hi ∧ w9 = ([] : va_W)) A) ([.long x, .long lo, .long hi] : List Value).toArray s 0 0 A) (F0 m 0 ls [])
  refine lv_lload_n hx hb dX4_in_0 rfl (lv_at hl 0 rfl) ?_
  refine lv_lload_n hx hb dX4_in_1 rfl (lv_at hl 1 rfl) ?_
  refine W.lcmp hx hb dX4_in_2 ?_
  refine lv_if_lt (tgt := 17) hx hb dX4_in_3 (by decide) (fun c_1 => ?_) (fun c_1 => ?_)
  · refine lv_iconst (v := 0) hx hb dX4_in_17 (by decide) ?_
    have e9 : D_X4_in x lo hi = 0 := by rw [D_X4_in, if_pos c_1]
    exact ret_z hx hb hr rfl hlk hP hD hS dX4_in_18 ⟨Nat.zero_le _, Nat.zero_le _⟩ ⟨e9.symm, rfl⟩
  · refine lv_lload_n hx hb dX4_in_6 rfl (lv_at hl 0 rfl) ?_
    refine lv_lload hx hb dX4_in_7 (lv_at hl 2 rfl) ?_
    refine W.lcmp hx hb dX4_in_9 ?_
    refine lv_if_gt (tgt := 17) hx hb dX4_in_10 (by decide) (fun c_2 => ?_) (fun c_2 => ?_)
    · refine lv_iconst (v := 0) hx hb dX4_in_17 (by decide) ?_
      have e9 : D_X4_in x lo hi = 0 := by rw [D_X4_in, if_neg c_1, if_pos c_2]
      exact ret_z hx hb hr rfl hlk hP hD hS dX4_in_18 ⟨Nat.zero_le _, Nat.zero_le _⟩ ⟨e9.symm, rfl⟩
    · refine lv_iconst (v := 1) hx hb dX4_in_13 (by decide) ?_
      refine lv_goto (tgt := 18) hx hb dX4_in_14 (by decide) ?_
      have e9 : D_X4_in x lo hi = 1 := by rw [D_X4_in, if_neg c_1, if_neg c_2]
      exact ret_z hx hb hr rfl hlk hP hD hS dX4_in_18 ⟨Nat.zero_le _, Nat.zero_le _⟩ ⟨e9.symm, rfl⟩
theorem z_X4_in  (x : Int64) (lo : Int64) (hi : Int64) : D_X4_in x lo hi = 0 ∨ D_X4_in x lo hi = 1 := by unfold D_X4_in; (repeat' split) <;> simp
theorem f4_in {x : Int32} {b : Int64} {n : Nat} (h : ¬ D_X4_in x.toInt64 0 b = 0) (hb : b.toInt + 1 = n) : vp_in x n := by
  unfold D_X4_in at h
  rw [vp_in_iff]
  simp only [lg_cmp_lt, lg_cmp_gt, Int64.lt_iff_toInt_lt, Int32.toInt_toInt64] at h
  have : (0 : Int64).toInt = 0 := rfl
  split at h
  · exact absurd rfl h
  · split at h
    · exact absurd rfl h
    · omega
def D_X4_isVillager  (v : Int32) : (Int32) := D_X4_in v.toInt64 0 8
set_option maxHeartbeats 4000000 in
set_option maxRecDepth 100000 in
theorem c_X4_isVillager (l : Launch) (D : va_G) (Y : YY) (sz : Nat) (v : Int32) : Met l yX4_isVillager wsX4_isVillager ({ frames := 1, cells := 0, slots := 0, locals := 25 } : Room) (va_Pc [.int v] (Pst D Y sz (([] : va_W)))) ((fun A : Nat → Prop => Qsi D (fun r9 w9 => r9 = D_X4_isVillager v ∧ w9 = ([] : va_W)) A) (va_A (([] : va_W)) sz)) 0 0 (va_A (([] : va_W)) sz) := by
  refine ct_in (cc := cX4_isVillager) (maxL := 1) (ret := (some .boolean)) (Qc := fun A : Nat → Prop => Qsi D (fun r9 w9 => r9 = D_X4_isVillager v ∧ w9 = ([] : va_W)) A) (by decide +kernel) rfl (Nat.le_of_ble_eq_true rfl) ?_
  intro p e s m below meth c A ls hx hb hr hts hown hml hlk hin hsz hA hP hD hK hS hl
  have hown : s.vm.findClass RX4 = some m.cls := hown
  have hl : lv_has ls 1 [(0, .int v)] := hl
  show W p l e ({ frames := 1, cells := 0, slots := 0, locals := 25 } : Room) s m ([.int v] : List Value).toArray below meth c s.heap [] 0 0 (MQ below (Qsi D (fun r9 w9 => r9 = D_X4_isVillager v ∧ w9 = ([] : va_W)) A) ([.int v] : List Value).toArray s 0 0 A) (F0 m 0 ls [])
  refine lv_iload_n hx hb dX4_isVillager_0 rfl (lv_at hl 0 rfl) ?_
  refine lv_i2l (v := v.toInt64) hx hb dX4_isVillager_1 rfl ?_
  refine lv_lconst (v := 0) hx hb dX4_isVillager_2 (by decide) ?_
  refine lv_ldc2 (v := 8) hx hb hown (hts (.constantLong RX4 42 (8)) (by decide +kernel)) dX4_isVillager_3 ?_
  refine ck_iD (wr := ([] : va_W)) (ws' := ([] : va_W)) (va_runS (As := [.long v.toInt64, .long 0, .long 8]) (rest := []) ⟨hx, hb, hml, hown, hts⟩ (c_X4_in l D Y s.heap.size v.toInt64 0 8) (va_cwS 3 hts gX4_isVillager_X4_in rfl rfl rfl (by decide +kernel) ⟨Nat.le_of_ble_eq_true rfl, Nat.le_of_ble_eq_true rfl⟩) (pst_S hK hP hD [] rfl (by decide)) rfl rfl hl.1 rfl (lv_room (Nat.le_of_ble_eq_true rfl)) dX4_isVillager_6 ⟨Nat.zero_le _, Nat.zero_le _⟩) hP hD hS hA [] [] [] rfl rfl (by decide) (by decide) rfl (by decide) (fun H locs hP hD hS => ?_)
  have e9 : D_X4_isVillager v = D_X4_in v.toInt64 0 8 := by rw [D_X4_isVillager]
  exact ret_z hx hb hr (nar01 (z_X4_in _ _ _)) hlk hP hD hS dX4_isVillager_9 ⟨Nat.zero_le _, Nat.zero_le _⟩ ⟨e9.symm, rfl⟩
theorem z_X4_isVillager (v : Int32) : D_X4_isVillager v = 0 ∨ D_X4_isVillager v = 1 := z_X4_in _ _ _
theorem f4_isVillager {x : Int32} (h : ¬ D_X4_isVillager x = 0) : vp_in x 9 := f4_in h (by decide)
def D_X4_isNumber  (v : Int32) : (Int32) := D_X4_in v.toInt64 0 999
set_option maxHeartbeats 4000000 in
set_option maxRecDepth 100000 in
theorem c_X4_isNumber (l : Launch) (D : va_G) (Y : YY) (sz : Nat) (v : Int32) : Met l yX4_isNumber wsX4_isNumber ({ frames := 1, cells := 0, slots := 0, locals := 25 } : Room) (va_Pc [.int v] (Pst D Y sz (([] : va_W)))) ((fun A : Nat → Prop => Qsi D (fun r9 w9 => r9 = D_X4_isNumber v ∧ w9 = ([] : va_W)) A) (va_A (([] : va_W)) sz)) 0 0 (va_A (([] : va_W)) sz) := by
  refine ct_in (cc := cX4_isNumber) (maxL := 1) (ret := (some .boolean)) (Qc := fun A : Nat → Prop => Qsi D (fun r9 w9 => r9 = D_X4_isNumber v ∧ w9 = ([] : va_W)) A) (by decide +kernel) rfl (Nat.le_of_ble_eq_true rfl) ?_
  intro p e s m below meth c A ls hx hb hr hts hown hml hlk hin hsz hA hP hD hK hS hl
  have hown : s.vm.findClass RX4 = some m.cls := hown
  have hl : lv_has ls 1 [(0, .int v)] := hl
  show W p l e ({ frames := 1, cells := 0, slots := 0, locals := 25 } : Room) s m ([.int v] : List Value).toArray below meth c s.heap [] 0 0 (MQ below (Qsi D (fun r9 w9 => r9 = D_X4_isNumber v ∧ w9 = ([] : va_W)) A) ([.int v] : List Value).toArray s 0 0 A) (F0 m 0 ls [])
  refine lv_iload_n hx hb dX4_isNumber_0 rfl (lv_at hl 0 rfl) ?_
  refine lv_i2l (v := v.toInt64) hx hb dX4_isNumber_1 rfl ?_
  refine lv_lconst (v := 0) hx hb dX4_isNumber_2 (by decide) ?_
  refine lv_ldc2 (v := 999) hx hb hown (hts (.constantLong RX4 48 (999)) (by decide +kernel)) dX4_isNumber_3 ?_
  refine ck_iD (wr := ([] : va_W)) (ws' := ([] : va_W)) (va_runS (As := [.long v.toInt64, .long 0, .long 999]) (rest := []) ⟨hx, hb, hml, hown, hts⟩ (c_X4_in l D Y s.heap.size v.toInt64 0 999) (va_cwS 3 hts gX4_isNumber_X4_in rfl rfl rfl (by decide +kernel) ⟨Nat.le_of_ble_eq_true rfl, Nat.le_of_ble_eq_true rfl⟩) (pst_S hK hP hD [] rfl (by decide)) rfl rfl hl.1 rfl (lv_room (Nat.le_of_ble_eq_true rfl)) dX4_isNumber_6 ⟨Nat.zero_le _, Nat.zero_le _⟩) hP hD hS hA [] [] [] rfl rfl (by decide) (by decide) rfl (by decide) (fun H locs hP hD hS => ?_)
  have e9 : D_X4_isNumber v = D_X4_in v.toInt64 0 999 := by rw [D_X4_isNumber]
  exact ret_z hx hb hr (nar01 (z_X4_in _ _ _)) hlk hP hD hS dX4_isNumber_9 ⟨Nat.zero_le _, Nat.zero_le _⟩ ⟨e9.symm, rfl⟩
theorem z_X4_isNumber (v : Int32) : D_X4_isNumber v = 0 ∨ D_X4_isNumber v = 1 := z_X4_in _ _ _
theorem f4_isNumber {x : Int32} (h : ¬ D_X4_isNumber x = 0) : vp_in x 1000 := f4_in h (by decide)
def D_X4_isSlot  (v : Int32) : (Int32) := if v = 0 then 1 else (if v = 1 then 1 else 0)
set_option maxHeartbeats 4000000 in
set_option maxRecDepth 100000 in
theorem c_X4_isSlot (l : Launch) (D : va_G) (Y : YY) (sz : Nat) (v : Int32) : Met l yX4_isSlot wsX4_isSlot ({ frames := 0, cells := 0, slots := 0, locals := 0 } : Room) (va_Pc [.int v] (Pst D Y sz (([] : va_W)))) ((fun A : Nat → Prop => Qsi D (fun r9 w9 => r9 = D_X4_isSlot v ∧ w9 = ([] : va_W)) A) (va_A (([] : va_W)) sz)) 0 0 (va_A (([] : va_W)) sz) := by
  refine ct_in (cc := cX4_isSlot) (maxL := 1) (ret := (some .boolean)) (Qc := fun A : Nat → Prop => Qsi D (fun r9 w9 => r9 = D_X4_isSlot v ∧ w9 = ([] : va_W)) A) (by decide +kernel) rfl (Nat.le_of_ble_eq_true rfl) ?_
  intro p e s m below meth c A ls hx hb hr hts hown hml hlk hin hsz hA hP hD hK hS hl
  have hown : s.vm.findClass RX4 = some m.cls := hown
  have hl : lv_has ls 1 [(0, .int v)] := hl
  show W p l e ({ frames := 0, cells := 0, slots := 0, locals := 0 } : Room) s m ([.int v] : List Value).toArray below meth c s.heap [] 0 0 (MQ below (Qsi D (fun r9 w9 => r9 = D_X4_isSlot v ∧ w9 = ([] : va_W)) A) ([.int v] : List Value).toArray s 0 0 A) (F0 m 0 ls [])
  refine lv_iload_n hx hb dX4_isSlot_0 rfl (lv_at hl 0 rfl) ?_
  refine lv_if_eq (tgt := 9) hx hb dX4_isSlot_1 (by decide) (fun c_1 => ?_) (fun c_1 => ?_)
  · refine lv_iconst (v := 1) hx hb dX4_isSlot_9 (by decide) ?_
    refine lv_goto (tgt := 14) hx hb dX4_isSlot_10 (by decide) ?_
    have e9 : D_X4_isSlot v = 1 := by rw [D_X4_isSlot, if_pos c_1]
    exact ret_z hx hb hr rfl hlk hP hD hS dX4_isSlot_14 ⟨Nat.zero_le _, Nat.zero_le _⟩ ⟨e9.symm, rfl⟩
  · refine lv_iload_n hx hb dX4_isSlot_4 rfl (lv_at hl 0 rfl) ?_
    refine lv_iconst (v := 1) hx hb dX4_isSlot_5 (by decide) ?_
    refine lv_icmp_ne (tgt := 13) hx hb dX4_isSlot_6 (by decide) (fun c_2 => ?_) (fun c_2 => ?_)
    · refine lv_iconst (v := 0) hx hb dX4_isSlot_13 (by decide) ?_
      have e9 : D_X4_isSlot v = 0 := by rw [D_X4_isSlot, if_neg c_1, if_neg c_2]
      exact ret_z hx hb hr rfl hlk hP hD hS dX4_isSlot_14 ⟨Nat.zero_le _, Nat.zero_le _⟩ ⟨e9.symm, rfl⟩
    · refine lv_iconst (v := 1) hx hb dX4_isSlot_9 (by decide) ?_
      refine lv_goto (tgt := 14) hx hb dX4_isSlot_10 (by decide) ?_
      have e9 : D_X4_isSlot v = 1 := by rw [D_X4_isSlot, if_neg c_1, if_pos c_2]
      exact ret_z hx hb hr rfl hlk hP hD hS dX4_isSlot_14 ⟨Nat.zero_le _, Nat.zero_le _⟩ ⟨e9.symm, rfl⟩
theorem z_X4_isSlot  (v : Int32) : D_X4_isSlot v = 0 ∨ D_X4_isSlot v = 1 := by unfold D_X4_isSlot; (repeat' split) <;> simp
theorem f4_isSlot {x : Int32} (h : ¬ D_X4_isSlot x = 0) : vp_in x 2 := by
  unfold D_X4_isSlot at h
  split at h
  · rename_i e; rw [e]; unfold vp_in; decide
  · split at h
    · rename_i e; rw [e]; unfold vp_in; decide
    · exact absurd rfl h
def D_X4_isSetting  (g : Int32) (v : Int32) : (Int32) := if (D_X4_in g.toInt64 0 2) = 0 then 0 else (if g = 2 then (if (D_X4_in v.toInt64 (-9) 9) = 0 then 0 else 1) else (if (D_X4_in v.toInt64 0 9) = 0 then 0 else 1))
set_option maxHeartbeats 4000000 in
set_option maxRecDepth 100000 in
theorem c_X4_isSetting (l : Launch) (D : va_G) (Y : YY) (sz : Nat) (g : Int32) (v : Int32) : Met l yX4_isSetting wsX4_isSetting ({ frames := 1, cells := 0, slots := 0, locals := 25 } : Room) (va_Pc [.int g, .int v] (Pst D Y sz (([] : va_W)))) ((fun A : Nat → Prop => Qsi D (fun r9 w9 => r9 = D_X4_isSetting g v ∧ w9 = ([] : va_W)) A) (va_A (([] : va_W)) sz)) 0 0 (va_A (([] : va_W)) sz) := by
  refine ct_in (cc := cX4_isSetting) (maxL := 2) (ret := (some .boolean)) (Qc := fun A : Nat → Prop => Qsi D (fun r9 w9 => r9 = D_X4_isSetting g v ∧ w9 = ([] : va_W)) A) (by decide +kernel) rfl (Nat.le_of_ble_eq_true rfl) ?_
  intro p e s m below meth c A ls hx hb hr hts hown hml hlk hin hsz hA hP hD hK hS hl
  have hown : s.vm.findClass RX4 = some m.cls := hown
  have hl : lv_has ls 2 [(0, .int g), (1, .int v)] := hl
  show W p l e ({ frames := 1, cells := 0, slots := 0, locals := 25 } : Room) s m ([.int g, .int v] : List Value).toArray below meth c s.heap [] 0 0 (MQ below (Qsi D (fun r9 w9 => r9 = D_X4_isSetting g v ∧ w9 = ([] : va_W)) A) ([.int g, .int v] : List Value).toArray s 0 0 A) (F0 m 0 ls [])
  refine lv_iload_n hx hb dX4_isSetting_0 rfl (lv_at hl 0 rfl) ?_
  refine lv_i2l (v := g.toInt64) hx hb dX4_isSetting_1 rfl ?_
  refine lv_lconst (v := 0) hx hb dX4_isSetting_2 (by decide) ?_
  refine lv_ldc2 (v := 2) hx hb hown (hts (.constantLong RX4 82 (2)) (by decide +kernel)) dX4_isSetting_3 ?_
  refine ck_iD (wr := ([] : va_W)) (ws' := ([] : va_W)) (va_runS (As := [.long g.toInt64, .long 0, .long 2]) (rest := []) ⟨hx, hb, hml, hown, hts⟩ (c_X4_in l D Y s.heap.size g.toInt64 0 2) (va_cwS 3 hts gX4_isSetting_X4_in rfl rfl rfl (by decide +kernel) ⟨Nat.le_of_ble_eq_true rfl, Nat.le_of_ble_eq_true rfl⟩) (pst_S hK hP hD [] rfl (by decide)) rfl rfl hl.1 rfl (lv_room (Nat.le_of_ble_eq_true rfl)) dX4_isSetting_6 ⟨Nat.zero_le _, Nat.zero_le _⟩) hP hD hS hA [] [] [] rfl rfl (by decide) (by decide) rfl (by decide) (fun H locs hP hD hS => ?_)
  refine lv_if_eq (tgt := 39) hx hb dX4_isSetting_9 (by decide) (fun c_1 => ?_) (fun c_1 => ?_)
  · refine lv_iconst (v := 0) hx hb dX4_isSetting_39 (by decide) ?_
    have e9 : D_X4_isSetting g v = 0 := by rw [D_X4_isSetting, if_pos c_1]
    exact ret_z hx hb hr rfl hlk hP hD hS dX4_isSetting_40 ⟨Nat.zero_le _, Nat.zero_le _⟩ ⟨e9.symm, rfl⟩
  · refine lv_iload_n hx hb dX4_isSetting_12 rfl (lv_at hl 1 rfl) ?_
    refine lv_i2l (v := v.toInt64) hx hb dX4_isSetting_13 rfl ?_
    refine lv_iload_n hx hb dX4_isSetting_14 rfl (lv_at hl 0 rfl) ?_
    refine lv_iconst (v := 2) hx hb dX4_isSetting_15 (by decide) ?_
    refine lv_icmp_ne (tgt := 25) hx hb dX4_isSetting_16 (by decide) (fun c_2 => ?_) (fun c_2 => ?_)
    · refine lv_lconst (v := 0) hx hb dX4_isSetting_25 (by decide) ?_
      refine lv_ldc2 (v := 9) hx hb hown (hts (.constantLong RX4 86 (9)) (by decide +kernel)) dX4_isSetting_26 ?_
      refine ck_iD (wr := ([] : va_W)) (ws' := ([] : va_W)) (va_runS (As := [.long v.toInt64, .long 0, .long 9]) (rest := []) ⟨hx, hb, hml, hown, hts⟩ (c_X4_in l D Y H.size v.toInt64 0 9) (va_cwS 3 hts gX4_isSetting_X4_in rfl rfl rfl (by decide +kernel) ⟨Nat.le_of_ble_eq_true rfl, Nat.le_of_ble_eq_true rfl⟩) (pst_S hK hP hD [] rfl (by decide)) rfl rfl hl.1 rfl (lv_room (Nat.le_of_ble_eq_true rfl)) dX4_isSetting_29 ⟨Nat.zero_le _, Nat.zero_le _⟩) hP hD hS hA [] [] [] rfl rfl (by decide) (by decide) rfl (by decide) (fun H locs hP hD hS => ?_)
      refine lv_if_eq (tgt := 39) hx hb dX4_isSetting_32 (by decide) (fun c_3 => ?_) (fun c_3 => ?_)
      · refine lv_iconst (v := 0) hx hb dX4_isSetting_39 (by decide) ?_
        have e9 : D_X4_isSetting g v = 0 := by rw [D_X4_isSetting, if_neg c_1, if_neg c_2, if_pos c_3]
        exact ret_z hx hb hr rfl hlk hP hD hS dX4_isSetting_40 ⟨Nat.zero_le _, Nat.zero_le _⟩ ⟨e9.symm, rfl⟩
      · refine lv_iconst (v := 1) hx hb dX4_isSetting_35 (by decide) ?_
        refine lv_goto (tgt := 40) hx hb dX4_isSetting_36 (by decide) ?_
        have e9 : D_X4_isSetting g v = 1 := by rw [D_X4_isSetting, if_neg c_1, if_neg c_2, if_neg c_3]
        exact ret_z hx hb hr rfl hlk hP hD hS dX4_isSetting_40 ⟨Nat.zero_le _, Nat.zero_le _⟩ ⟨e9.symm, rfl⟩
    · refine lv_ldc2 (v := (-9)) hx hb hown (hts (.constantLong RX4 84 (-9)) (by decide +kernel)) dX4_isSetting_19 ?_
      refine lv_goto (tgt := 26) hx hb dX4_isSetting_22 (by decide) ?_
      refine lv_ldc2 (v := 9) hx hb hown (hts (.constantLong RX4 86 (9)) (by decide +kernel)) dX4_isSetting_26 ?_
      refine ck_iD (wr := ([] : va_W)) (ws' := ([] : va_W)) (va_runS (As := [.long v.toInt64, .long (-9), .long 9]) (rest := []) ⟨hx, hb, hml, hown, hts⟩ (c_X4_in l D Y H.size v.toInt64 (-9) 9) (va_cwS 3 hts gX4_isSetting_X4_in rfl rfl rfl (by decide +kernel) ⟨Nat.le_of_ble_eq_true rfl, Nat.le_of_ble_eq_true rfl⟩) (pst_S hK hP hD [] rfl (by decide)) rfl rfl hl.1 rfl (lv_room (Nat.le_of_ble_eq_true rfl)) dX4_isSetting_29 ⟨Nat.zero_le _, Nat.zero_le _⟩) hP hD hS hA [] [] [] rfl rfl (by decide) (by decide) rfl (by decide) (fun H locs hP hD hS => ?_)
      refine lv_if_eq (tgt := 39) hx hb dX4_isSetting_32 (by decide) (fun c_4 => ?_) (fun c_4 => ?_)
      · refine lv_iconst (v := 0) hx hb dX4_isSetting_39 (by decide) ?_
        have e9 : D_X4_isSetting g v = 0 := by rw [D_X4_isSetting, if_neg c_1, if_pos c_2, if_pos c_4]
        exact ret_z hx hb hr rfl hlk hP hD hS dX4_isSetting_40 ⟨Nat.zero_le _, Nat.zero_le _⟩ ⟨e9.symm, rfl⟩
      · refine lv_iconst (v := 1) hx hb dX4_isSetting_35 (by decide) ?_
        refine lv_goto (tgt := 40) hx hb dX4_isSetting_36 (by decide) ?_
        have e9 : D_X4_isSetting g v = 1 := by rw [D_X4_isSetting, if_neg c_1, if_pos c_2, if_neg c_4]
        exact ret_z hx hb hr rfl hlk hP hD hS dX4_isSetting_40 ⟨Nat.zero_le _, Nat.zero_le _⟩ ⟨e9.symm, rfl⟩
theorem z_X4_isSetting  (g : Int32) (v : Int32) : D_X4_isSetting g v = 0 ∨ D_X4_isSetting g v = 1 := by unfold D_X4_isSetting; (repeat' split) <;> simp
def D_X4_pairAt  (a : Int32) (b : Int32) : (Int32) := (9 * a) + b
set_option maxHeartbeats 4000000 in
set_option maxRecDepth 100000 in
theorem c_X4_pairAt (l : Launch) (D : va_G) (Y : YY) (sz : Nat) (a : Int32) (b : Int32) : Met l yX4_pairAt wsX4_pairAt ({ frames := 0, cells := 0, slots := 0, locals := 0 } : Room) (va_Pc [.int a, .int b] (Pst D Y sz (([] : va_W)))) ((fun A : Nat → Prop => Qsi D (fun r9 w9 => r9 = D_X4_pairAt a b ∧ w9 = ([] : va_W)) A) (va_A (([] : va_W)) sz)) 0 0 (va_A (([] : va_W)) sz) := by
  refine ct_in (cc := cX4_pairAt) (maxL := 2) (ret := (some .int)) (Qc := fun A : Nat → Prop => Qsi D (fun r9 w9 => r9 = D_X4_pairAt a b ∧ w9 = ([] : va_W)) A) (by decide +kernel) rfl (Nat.le_of_ble_eq_true rfl) ?_
  intro p e s m below meth c A ls hx hb hr hts hown hml hlk hin hsz hA hP hD hK hS hl
  have hown : s.vm.findClass RX4 = some m.cls := hown
  have hl : lv_has ls 2 [(0, .int a), (1, .int b)] := hl
  show W p l e ({ frames := 0, cells := 0, slots := 0, locals := 0 } : Room) s m ([.int a, .int b] : List Value).toArray below meth c s.heap [] 0 0 (MQ below (Qsi D (fun r9 w9 => r9 = D_X4_pairAt a b ∧ w9 = ([] : va_W)) A) ([.int a, .int b] : List Value).toArray s 0 0 A) (F0 m 0 ls [])
  refine lv_bipush (v := 9) hx hb dX4_pairAt_0 (by decide) ?_
  refine lv_iload_n hx hb dX4_pairAt_2 rfl (lv_at hl 0 rfl) ?_
  refine lv_imul hx hb dX4_pairAt_3 ?_
  refine lv_iload_n hx hb dX4_pairAt_4 rfl (lv_at hl 1 rfl) ?_
  refine lv_iadd hx hb dX4_pairAt_5 ?_
  have e9 : D_X4_pairAt a b = (9 * a) + b := by rw [D_X4_pairAt]
  exact ret_i hx hb hr hlk hP hD hS dX4_pairAt_6 ⟨Nat.zero_le _, Nat.zero_le _⟩ ⟨e9.symm, rfl⟩
theorem in_pairAt {a b : Int32} (ha : vp_in a 9) (hb : vp_in b 9) : vp_in (D_X4_pairAt a b) 81 := my_add (n := 73) (k := 9) (my_mul 9 ha (by decide) (by decide)) hb (by decide) (by decide)
def D_X4_partnerBy  (v : Int32) (n : Int32) : (Int32) := (((n - n / 9 * 9) + 9) - v) - (((n - n / 9 * 9) + 9) - v) / 9 * 9
set_option maxHeartbeats 4000000 in
set_option maxRecDepth 100000 in
theorem c_X4_partnerBy (l : Launch) (D : va_G) (Y : YY) (sz : Nat) (v : Int32) (n : Int32) : Met l yX4_partnerBy wsX4_partnerBy ({ frames := 0, cells := 0, slots := 0, locals := 0 } : Room) (va_Pc [.int v, .int n] (Pst D Y sz (([] : va_W)))) ((fun A : Nat → Prop => Qsi D (fun r9 w9 => r9 = D_X4_partnerBy v n ∧ w9 = ([] : va_W)) A) (va_A (([] : va_W)) sz)) 0 0 (va_A (([] : va_W)) sz) := by
  refine ct_in (cc := cX4_partnerBy) (maxL := 2) (ret := (some .int)) (Qc := fun A : Nat → Prop => Qsi D (fun r9 w9 => r9 = D_X4_partnerBy v n ∧ w9 = ([] : va_W)) A) (by decide +kernel) rfl (Nat.le_of_ble_eq_true rfl) ?_
  intro p e s m below meth c A ls hx hb hr hts hown hml hlk hin hsz hA hP hD hK hS hl
  have hown : s.vm.findClass RX4 = some m.cls := hown
  have hl : lv_has ls 2 [(0, .int v), (1, .int n)] := hl
  show W p l e ({ frames := 0, cells := 0, slots := 0, locals := 0 } : Room) s m ([.int v, .int n] : List Value).toArray below meth c s.heap [] 0 0 (MQ below (Qsi D (fun r9 w9 => r9 = D_X4_partnerBy v n ∧ w9 = ([] : va_W)) A) ([.int v, .int n] : List Value).toArray s 0 0 A) (F0 m 0 ls [])
  refine lv_iload_n hx hb dX4_partnerBy_0 rfl (lv_at hl 1 rfl) ?_
  refine lv_bipush (v := 9) hx hb dX4_partnerBy_1 (by decide) ?_
  refine lv_irem hx hb dX4_partnerBy_3 (by decide) ?_
  refine lv_bipush (v := 9) hx hb dX4_partnerBy_4 (by decide) ?_
  refine lv_iadd hx hb dX4_partnerBy_6 ?_
  refine lv_iload_n hx hb dX4_partnerBy_7 rfl (lv_at hl 0 rfl) ?_
  refine lv_isub hx hb dX4_partnerBy_8 ?_
  refine lv_bipush (v := 9) hx hb dX4_partnerBy_9 (by decide) ?_
  refine lv_irem hx hb dX4_partnerBy_11 (by decide) ?_
  have e9 : D_X4_partnerBy v n = (((n - n / 9 * 9) + 9) - v) - (((n - n / 9 * 9) + 9) - v) / 9 * 9 := by rw [D_X4_partnerBy]
  exact ret_i hx hb hr hlk hP hD hS dX4_partnerBy_12 ⟨Nat.zero_le _, Nat.zero_le _⟩ ⟨e9.symm, rfl⟩
theorem in_partnerBy {v n : Int32} (hv : vp_in v 9) (hn : vp_in n 1000) : vp_in (D_X4_partnerBy v n) 9 := by
  obtain ⟨i, hi, e1⟩ := vp_in_of (my_rem hn (by decide)) (by decide)
  obtain ⟨j, hj, rfl⟩ := vp_in_of hv (by decide)
  unfold D_X4_partnerBy
  rw [e1, show (9 : Int32) = nI 9 from rfl, nI_add, pk_sub (by omega)]
  exact my_rem (n := 18) (vp_in_nI (by omega) (by decide)) (by decide)
def D_X4_isThere (M : Nat → Nat → Int32) (v : Int32) : (Int32) := if (M 0 (15 + v).toNatClampNeg) = 1 then 1 else 0
set_option maxRecDepth 100000 in
theorem in_X4_isThere_RX4 : ∀ w ∈ u_ws RX4 TX4 13, w ∈ wsX4_isThere := by decide +kernel
set_option maxHeartbeats 4000000 in
set_option maxRecDepth 100000 in
theorem c_X4_isThere (l : Launch) (D : va_G) (Y : YY) (sz : Nat) (q : Nat → Nat) (M : Nat → Nat → Int32) (mo : Nat) (v : Int32) (h_v : vp_in v 9) : Met l yX4_isThere wsX4_isThere ({ frames := 0, cells := 0, slots := 0, locals := 0 } : Room) (va_Pc [.ref mo, .int v] (Pst D Y sz (wM Y mo q M))) ((fun A : Nat → Prop => Qsi D (fun r9 w9 => r9 = D_X4_isThere M v ∧ w9 = wM Y mo q M) A) (va_A (wM Y mo q M) sz)) 0 0 (va_A (wM Y mo q M) sz) := by
  refine ct_in (cc := cX4_isThere) (maxL := 2) (ret := (some .boolean)) (Qc := fun A : Nat → Prop => Qsi D (fun r9 w9 => r9 = D_X4_isThere M v ∧ w9 = wM Y mo q M) A) (by decide +kernel) rfl (Nat.le_of_ble_eq_true rfl) ?_
  intro p e s m below meth c A ls hx hb hr hts hown hml hlk hin hsz hA hP hD hK hS hl
  have hown : s.vm.findClass RX4 = some m.cls := hown
  have hl : lv_has ls 2 [(0, .ref mo), (1, .int v)] := hl
  show W p l e ({ frames := 0, cells := 0, slots := 0, locals := 0 } : Room) s m ([.ref mo, .int v] : List Value).toArray below meth c s.heap [] 0 0 (MQ below (Qsi D (fun r9 w9 => r9 = D_X4_isThere M v ∧ w9 = wM Y mo q M) A) ([.ref mo, .int v] : List Value).toArray s 0 0 A) (F0 m 0 ls [])
  refine lv_aload_n hx hb dX4_isThere_0 rfl (lv_at hl 0 rfl) ?_
  refine va_get (D := D) (ci := 4) (v := .ref (q 0)) (C := RX4) (T := TX4) (N := 13) hx hb hts in_X4_isThere_RX4 hown hK.1 hP 0 rfl rfl 0 (by decide) (hts (.fieldLink RX4 7 "NineDancersModel" "all" "[I") (by decide +kernel)) (fun _ h9 => h9) rfl dX4_isThere_1 ?_
  refine lv_bipush (v := 15) hx hb dX4_isThere_4 (by decide) ?_
  refine lv_iload_n hx hb dX4_isThere_6 rfl (lv_at hl 1 rfl) ?_
  refine lv_iadd hx hb dX4_isThere_7 ?_
  refine va_iald (D := D) hx hb hK.1 hP 1 0 rfl rfl (my_wid (my_off 15 h_v (Nat.le_refl _) (by decide)) (by decide) (by decide)) dX4_isThere_8 ?_
  refine lv_iconst (v := 1) hx hb dX4_isThere_9 (by decide) ?_
  refine lv_icmp_ne (tgt := 17) hx hb dX4_isThere_10 (by decide) (fun c_1 => ?_) (fun c_1 => ?_)
  · refine lv_iconst (v := 0) hx hb dX4_isThere_17 (by decide) ?_
    have e9 : D_X4_isThere M v = 0 := by rw [D_X4_isThere, if_neg c_1]
    exact ret_z hx hb hr rfl hlk hP hD hS dX4_isThere_18 ⟨Nat.zero_le _, Nat.zero_le _⟩ ⟨e9.symm, rfl⟩
  · refine lv_iconst (v := 1) hx hb dX4_isThere_13 (by decide) ?_
    refine lv_goto (tgt := 18) hx hb dX4_isThere_14 (by decide) ?_
    have e9 : D_X4_isThere M v = 1 := by rw [D_X4_isThere, if_pos c_1]
    exact ret_z hx hb hr rfl hlk hP hD hS dX4_isThere_18 ⟨Nat.zero_le _, Nat.zero_le _⟩ ⟨e9.symm, rfl⟩
theorem z_X4_isThere (M : Nat → Nat → Int32) (v : Int32) : D_X4_isThere M v = 0 ∨ D_X4_isThere M v = 1 := by unfold D_X4_isThere; (repeat' split) <;> simp
def D_X4_canDance (M : Nat → Nat → Int32) (v : Int32) : (Int32) := if (D_X4_isThere M v) = 0 then 0 else (if (M 0 (24 + v).toNatClampNeg) < (M 0 (0 : Int32).toNatClampNeg) then 0 else 1)
set_option maxRecDepth 100000 in
theorem in_X4_canDance_RX4 : ∀ w ∈ u_ws RX4 TX4 13, w ∈ wsX4_canDance := by decide +kernel
set_option maxHeartbeats 4000000 in
set_option maxRecDepth 100000 in
theorem c_X4_canDance (l : Launch) (D : va_G) (Y : YY) (sz : Nat) (q : Nat → Nat) (M : Nat → Nat → Int32) (mo : Nat) (v : Int32) (h_v : vp_in v 9) : Met l yX4_canDance wsX4_canDance ({ frames := 1, cells := 0, slots := 0, locals := 21 } : Room) (va_Pc [.ref mo, .int v] (Pst D Y sz (wM Y mo q M))) ((fun A : Nat → Prop => Qsi D (fun r9 w9 => r9 = D_X4_canDance M v ∧ w9 = wM Y mo q M) A) (va_A (wM Y mo q M) sz)) 0 0 (va_A (wM Y mo q M) sz) := by
  refine ct_in (cc := cX4_canDance) (maxL := 2) (ret := (some .boolean)) (Qc := fun A : Nat → Prop => Qsi D (fun r9 w9 => r9 = D_X4_canDance M v ∧ w9 = wM Y mo q M) A) (by decide +kernel) rfl (Nat.le_of_ble_eq_true rfl) ?_
  intro p e s m below meth c A ls hx hb hr hts hown hml hlk hin hsz hA hP hD hK hS hl
  have hown : s.vm.findClass RX4 = some m.cls := hown
  have hl : lv_has ls 2 [(0, .ref mo), (1, .int v)] := hl
  show W p l e ({ frames := 1, cells := 0, slots := 0, locals := 21 } : Room) s m ([.ref mo, .int v] : List Value).toArray below meth c s.heap [] 0 0 (MQ below (Qsi D (fun r9 w9 => r9 = D_X4_canDance M v ∧ w9 = wM Y mo q M) A) ([.ref mo, .int v] : List Value).toArray s 0 0 A) (F0 m 0 ls [])
  refine lv_aload_n hx hb dX4_canDance_0 rfl (lv_at hl 0 rfl) ?_
  refine lv_iload_n hx hb dX4_canDance_1 rfl (lv_at hl 1 rfl) ?_
  refine ck_iD (wr := ([] : va_W)) (ws' := wM Y mo q M) (va_runV (As := [.int v]) (rest := []) ⟨hx, hb, hml, hown, hts⟩ (c_X4_isThere l D Y s.heap.size q M mo v h_v) (cwV 1 hts gX4_canDance_X4_isThere rfl rfl rfl (by decide +kernel) ⟨Nat.le_of_ble_eq_true rfl, Nat.le_of_ble_eq_true rfl⟩) (pst_V hK hP hD [0, 1, 2, 3, 4, 5, 6, 7, 8, 9] rfl (by decide) (q0 := 0) rfl rfl) rfl rfl hl.1 rfl (lv_room (Nat.le_of_ble_eq_true rfl)) dX4_canDance_2 ⟨Nat.zero_le _, Nat.zero_le _⟩) hP hD hS hA [0, 1, 2, 3, 4, 5, 6, 7, 8, 9] [] [0, 1, 2, 3, 4, 5, 6, 7, 8, 9] rfl rfl (by decide) (by decide) rfl (by decide) (fun H locs hP hD hS => ?_)
  refine lv_if_eq (tgt := 30) hx hb dX4_canDance_5 (by decide) (fun c_1 => ?_) (fun c_1 => ?_)
  · refine lv_iconst (v := 0) hx hb dX4_canDance_30 (by decide) ?_
    have e9 : D_X4_canDance M v = 0 := by rw [D_X4_canDance, if_pos c_1]
    exact ret_z hx hb hr rfl hlk hP hD hS dX4_canDance_31 ⟨Nat.zero_le _, Nat.zero_le _⟩ ⟨e9.symm, rfl⟩
  · refine lv_aload_n hx hb dX4_canDance_8 rfl (lv_at hl 0 rfl) ?_
    refine va_get (D := D) (ci := 4) (v := .ref (q 0)) (C := RX4) (T := TX4) (N := 13) hx hb hts in_X4_canDance_RX4 hown hK.1 hP 0 rfl rfl 0 (by decide) (hts (.fieldLink RX4 7 "NineDancersModel" "all" "[I") (by decide +kernel)) (fun _ h9 => h9) rfl dX4_canDance_9 ?_
    refine lv_bipush (v := 24) hx hb dX4_canDance_12 (by decide) ?_
    refine lv_iload_n hx hb dX4_canDance_14 rfl (lv_at hl 1 rfl) ?_
    refine lv_iadd hx hb dX4_canDance_15 ?_
    refine va_iald (D := D) hx hb hK.1 hP 1 0 rfl rfl (my_wid (my_off 24 h_v (Nat.le_refl _) (by decide)) (by decide) (by decide)) dX4_canDance_16 ?_
    refine lv_aload_n hx hb dX4_canDance_17 rfl (lv_at hl 0 rfl) ?_
    refine va_get (D := D) (ci := 4) (v := .ref (q 0)) (C := RX4) (T := TX4) (N := 13) hx hb hts in_X4_canDance_RX4 hown hK.1 hP 0 rfl rfl 0 (by decide) (hts (.fieldLink RX4 7 "NineDancersModel" "all" "[I") (by decide +kernel)) (fun _ h9 => h9) rfl dX4_canDance_18 ?_
    refine lv_iconst (v := 0) hx hb dX4_canDance_21 (by decide) ?_
    refine va_iald (D := D) hx hb hK.1 hP 1 0 rfl rfl (by unfold vp_in; decide) dX4_canDance_22 ?_
    refine lv_icmp_lt (tgt := 30) hx hb dX4_canDance_23 (by decide) (fun c_2 => ?_) (fun c_2 => ?_)
    · refine lv_iconst (v := 0) hx hb dX4_canDance_30 (by decide) ?_
      have e9 : D_X4_canDance M v = 0 := by rw [D_X4_canDance, if_neg c_1, if_pos c_2]
      exact ret_z hx hb hr rfl hlk hP hD hS dX4_canDance_31 ⟨Nat.zero_le _, Nat.zero_le _⟩ ⟨e9.symm, rfl⟩
    · refine lv_iconst (v := 1) hx hb dX4_canDance_26 (by decide) ?_
      refine lv_goto (tgt := 31) hx hb dX4_canDance_27 (by decide) ?_
      have e9 : D_X4_canDance M v = 1 := by rw [D_X4_canDance, if_neg c_1, if_neg c_2]
      exact ret_z hx hb hr rfl hlk hP hD hS dX4_canDance_31 ⟨Nat.zero_le _, Nat.zero_le _⟩ ⟨e9.symm, rfl⟩
theorem z_X4_canDance (M : Nat → Nat → Int32) (v : Int32) : D_X4_canDance M v = 0 ∨ D_X4_canDance M v = 1 := by unfold D_X4_canDance; (repeat' split) <;> simp
def D_X4_dances (M : Nat → Nat → Int32) (v : Int32) (n : Int32) : (Int32) := if (D_X4_partnerBy v n) = v then 0 else (if (D_X4_canDance M v) = 0 then 0 else (if (D_X4_canDance M (D_X4_partnerBy v n)) = 0 then 0 else 1))
set_option maxHeartbeats 4000000 in
set_option maxRecDepth 100000 in
theorem c_X4_dances (l : Launch) (D : va_G) (Y : YY) (sz : Nat) (q : Nat → Nat) (M : Nat → Nat → Int32) (mo : Nat) (v : Int32) (n : Int32) (h_v : vp_in v 9) (h_n : vp_in n 1000) : Met l yX4_dances wsX4_dances ({ frames := 2, cells := 0, slots := 0, locals := 42 } : Room) (va_Pc [.ref mo, .int v, .int n] (Pst D Y sz (wM Y mo q M))) ((fun A : Nat → Prop => Qsi D (fun r9 w9 => r9 = D_X4_dances M v n ∧ w9 = wM Y mo q M) A) (va_A (wM Y mo q M) sz)) 0 0 (va_A (wM Y mo q M) sz) := by
  refine ct_in (cc := cX4_dances) (maxL := 4) (ret := (some .boolean)) (Qc := fun A : Nat → Prop => Qsi D (fun r9 w9 => r9 = D_X4_dances M v n ∧ w9 = wM Y mo q M) A) (by decide +kernel) rfl (Nat.le_of_ble_eq_true rfl) ?_
  intro p e s m below meth c A ls hx hb hr hts hown hml hlk hin hsz hA hP hD hK hS hl
  have hown : s.vm.findClass RX4 = some m.cls := hown
  have hl : lv_has ls 4 [(0, .ref mo), (1, .int v), (2, .int n)] := hl
  show W p l e ({ frames := 2, cells := 0, slots := 0, locals := 42 } : Room) s m ([.ref mo, .int v, .int n] : List Value).toArray below meth c s.heap [] 0 0 (MQ below (Qsi D (fun r9 w9 => r9 = D_X4_dances M v n ∧ w9 = wM Y mo q M) A) ([.ref mo, .int v, .int n] : List Value).toArray s 0 0 A) (F0 m 0 ls [])
  refine lv_iload_n hx hb dX4_dances_0 rfl (lv_at hl 1 rfl) ?_
  refine lv_iload_n hx hb dX4_dances_1 rfl (lv_at hl 2 rfl) ?_
  refine ck_iD (wr := wM Y mo q M) (ws' := wM Y mo q M) (va_runS (As := [.int v, .int n]) (rest := []) ⟨hx, hb, hml, hown, hts⟩ (c_X4_partnerBy l D Y s.heap.size v n) (va_cwS 2 hts gX4_dances_X4_partnerBy rfl rfl rfl (by decide +kernel) ⟨Nat.le_of_ble_eq_true rfl, Nat.le_of_ble_eq_true rfl⟩) (pst_S hK hP hD [] rfl (by decide)) rfl rfl hl.1 rfl (lv_room (Nat.le_of_ble_eq_true rfl)) dX4_dances_2 ⟨Nat.zero_le _, Nat.zero_le _⟩) hP hD hS hA [] [0, 1, 2, 3, 4, 5, 6, 7, 8, 9] [0, 1, 2, 3, 4, 5, 6, 7, 8, 9] rfl rfl (by decide) (by decide) rfl (by decide) (fun H locs hP hD hS => ?_)
  refine lv_istore_n (lv' := [(3, .int (D_X4_partnerBy v n)), (0, .ref mo), (1, .int v), (2, .int n)]) hx hb dX4_dances_5 rfl hl (by decide) rfl (fun ls hl => ?_)
  refine lv_iload_n hx hb dX4_dances_6 rfl (lv_at hl 0 rfl) ?_
  refine lv_iload_n hx hb dX4_dances_7 rfl (lv_at hl 2 rfl) ?_
  refine lv_icmp_eq (tgt := 31) hx hb dX4_dances_8 (by decide) (fun c_1 => ?_) (fun c_1 => ?_)
  · refine lv_iconst (v := 0) hx hb dX4_dances_31 (by decide) ?_
    have e9 : D_X4_dances M v n = 0 := by rw [D_X4_dances, if_pos c_1]
    exact ret_z hx hb hr rfl hlk hP hD hS dX4_dances_32 ⟨Nat.zero_le _, Nat.zero_le _⟩ ⟨e9.symm, rfl⟩
  · refine lv_aload_n hx hb dX4_dances_11 rfl (lv_at hl 1 rfl) ?_
    refine lv_iload_n hx hb dX4_dances_12 rfl (lv_at hl 2 rfl) ?_
    refine ck_iD (wr := ([] : va_W)) (ws' := wM Y mo q M) (va_runV (As := [.int v]) (rest := []) ⟨hx, hb, hml, hown, hts⟩ (c_X4_canDance l D Y H.size q M mo v h_v) (cwV 1 hts gX4_dances_X4_canDance rfl rfl rfl (by decide +kernel) ⟨Nat.le_of_ble_eq_true rfl, Nat.le_of_ble_eq_true rfl⟩) (pst_V hK hP hD [0, 1, 2, 3, 4, 5, 6, 7, 8, 9] rfl (by decide) (q0 := 0) rfl rfl) rfl rfl hl.1 rfl (lv_room (Nat.le_of_ble_eq_true rfl)) dX4_dances_13 ⟨Nat.zero_le _, Nat.zero_le _⟩) hP hD hS hA [0, 1, 2, 3, 4, 5, 6, 7, 8, 9] [] [0, 1, 2, 3, 4, 5, 6, 7, 8, 9] rfl rfl (by decide) (by decide) rfl (by decide) (fun H locs hP hD hS => ?_)
    refine lv_if_eq (tgt := 31) hx hb dX4_dances_16 (by decide) (fun c_2 => ?_) (fun c_2 => ?_)
    · refine lv_iconst (v := 0) hx hb dX4_dances_31 (by decide) ?_
      have e9 : D_X4_dances M v n = 0 := by rw [D_X4_dances, if_neg c_1, if_pos c_2]
      exact ret_z hx hb hr rfl hlk hP hD hS dX4_dances_32 ⟨Nat.zero_le _, Nat.zero_le _⟩ ⟨e9.symm, rfl⟩
    · refine lv_aload_n hx hb dX4_dances_19 rfl (lv_at hl 1 rfl) ?_
      refine lv_iload_n hx hb dX4_dances_20 rfl (lv_at hl 0 rfl) ?_
      refine ck_iD (wr := ([] : va_W)) (ws' := wM Y mo q M) (va_runV (As := [.int (D_X4_partnerBy v n)]) (rest := []) ⟨hx, hb, hml, hown, hts⟩ (c_X4_canDance l D Y H.size q M mo (D_X4_partnerBy v n) (in_partnerBy h_v h_n)) (cwV 1 hts gX4_dances_X4_canDance rfl rfl rfl (by decide +kernel) ⟨Nat.le_of_ble_eq_true rfl, Nat.le_of_ble_eq_true rfl⟩) (pst_V hK hP hD [0, 1, 2, 3, 4, 5, 6, 7, 8, 9] rfl (by decide) (q0 := 0) rfl rfl) rfl rfl hl.1 rfl (lv_room (Nat.le_of_ble_eq_true rfl)) dX4_dances_21 ⟨Nat.zero_le _, Nat.zero_le _⟩) hP hD hS hA [0, 1, 2, 3, 4, 5, 6, 7, 8, 9] [] [0, 1, 2, 3, 4, 5, 6, 7, 8, 9] rfl rfl (by decide) (by decide) rfl (by decide) (fun H locs hP hD hS => ?_)
      refine lv_if_eq (tgt := 31) hx hb dX4_dances_24 (by decide) (fun c_3 => ?_) (fun c_3 => ?_)
      · refine lv_iconst (v := 0) hx hb dX4_dances_31 (by decide) ?_
        have e9 : D_X4_dances M v n = 0 := by rw [D_X4_dances, if_neg c_1, if_neg c_2, if_pos c_3]
        exact ret_z hx hb hr rfl hlk hP hD hS dX4_dances_32 ⟨Nat.zero_le _, Nat.zero_le _⟩ ⟨e9.symm, rfl⟩
      · refine lv_iconst (v := 1) hx hb dX4_dances_27 (by decide) ?_
        refine lv_goto (tgt := 32) hx hb dX4_dances_28 (by decide) ?_
        have e9 : D_X4_dances M v n = 1 := by rw [D_X4_dances, if_neg c_1, if_neg c_2, if_neg c_3]
        exact ret_z hx hb hr rfl hlk hP hD hS dX4_dances_32 ⟨Nat.zero_le _, Nat.zero_le _⟩ ⟨e9.symm, rfl⟩
theorem z_X4_dances (M : Nat → Nat → Int32) (v : Int32) (n : Int32) : D_X4_dances M v n = 0 ∨ D_X4_dances M v n = 1 := by unfold D_X4_dances; (repeat' split) <;> simp
def D_X4_joyOf (M : Nat → Nat → Int32) (v : Int32) (w : Int32) : (Int32) := (M 0 (2 : Int32).toNatClampNeg) + (M 0 (69 + (D_X4_pairAt v w)).toNatClampNeg)
set_option maxRecDepth 100000 in
theorem in_X4_joyOf_RX4 : ∀ w ∈ u_ws RX4 TX4 13, w ∈ wsX4_joyOf := by decide +kernel
set_option maxHeartbeats 4000000 in
set_option maxRecDepth 100000 in
theorem c_X4_joyOf (l : Launch) (D : va_G) (Y : YY) (sz : Nat) (q : Nat → Nat) (M : Nat → Nat → Int32) (mo : Nat) (v : Int32) (w : Int32) (h_v : vp_in v 9) (h_w : vp_in w 9) : Met l yX4_joyOf wsX4_joyOf ({ frames := 1, cells := 0, slots := 0, locals := 21 } : Room) (va_Pc [.ref mo, .int v, .int w] (Pst D Y sz (wM Y mo q M))) ((fun A : Nat → Prop => Qsi D (fun r9 w9 => r9 = D_X4_joyOf M v w ∧ w9 = wM Y mo q M) A) (va_A (wM Y mo q M) sz)) 0 0 (va_A (wM Y mo q M) sz) := by
  refine ct_in (cc := cX4_joyOf) (maxL := 3) (ret := (some .int)) (Qc := fun A : Nat → Prop => Qsi D (fun r9 w9 => r9 = D_X4_joyOf M v w ∧ w9 = wM Y mo q M) A) (by decide +kernel) rfl (Nat.le_of_ble_eq_true rfl) ?_
  intro p e s m below meth c A ls hx hb hr hts hown hml hlk hin hsz hA hP hD hK hS hl
  have hown : s.vm.findClass RX4 = some m.cls := hown
  have hl : lv_has ls 3 [(0, .ref mo), (1, .int v), (2, .int w)] := hl
  show W p l e ({ frames := 1, cells := 0, slots := 0, locals := 21 } : Room) s m ([.ref mo, .int v, .int w] : List Value).toArray below meth c s.heap [] 0 0 (MQ below (Qsi D (fun r9 w9 => r9 = D_X4_joyOf M v w ∧ w9 = wM Y mo q M) A) ([.ref mo, .int v, .int w] : List Value).toArray s 0 0 A) (F0 m 0 ls [])
  refine lv_aload_n hx hb dX4_joyOf_0 rfl (lv_at hl 0 rfl) ?_
  refine va_get (D := D) (ci := 4) (v := .ref (q 0)) (C := RX4) (T := TX4) (N := 13) hx hb hts in_X4_joyOf_RX4 hown hK.1 hP 0 rfl rfl 0 (by decide) (hts (.fieldLink RX4 7 "NineDancersModel" "all" "[I") (by decide +kernel)) (fun _ h9 => h9) rfl dX4_joyOf_1 ?_
  refine lv_iconst (v := 2) hx hb dX4_joyOf_4 (by decide) ?_
  refine va_iald (D := D) hx hb hK.1 hP 1 0 rfl rfl (by unfold vp_in; decide) dX4_joyOf_5 ?_
  refine lv_aload_n hx hb dX4_joyOf_6 rfl (lv_at hl 0 rfl) ?_
  refine va_get (D := D) (ci := 4) (v := .ref (q 0)) (C := RX4) (T := TX4) (N := 13) hx hb hts in_X4_joyOf_RX4 hown hK.1 hP 0 rfl rfl 0 (by decide) (hts (.fieldLink RX4 7 "NineDancersModel" "all" "[I") (by decide +kernel)) (fun _ h9 => h9) rfl dX4_joyOf_7 ?_
  refine lv_bipush (v := 69) hx hb dX4_joyOf_10 (by decide) ?_
  refine lv_iload_n hx hb dX4_joyOf_12 rfl (lv_at hl 1 rfl) ?_
  refine lv_iload_n hx hb dX4_joyOf_13 rfl (lv_at hl 2 rfl) ?_
  refine ck_iD (wr := wM Y mo q M) (ws' := wM Y mo q M) (va_runS (As := [.int v, .int w]) (rest := [.int 69, .ref (q 0), .int (M 0 (2 : Int32).toNatClampNeg)]) ⟨hx, hb, hml, hown, hts⟩ (c_X4_pairAt l D Y s.heap.size v w) (va_cwS 2 hts gX4_joyOf_X4_pairAt rfl rfl rfl (by decide +kernel) ⟨Nat.le_of_ble_eq_true rfl, Nat.le_of_ble_eq_true rfl⟩) (pst_S hK hP hD [] rfl (by decide)) rfl rfl hl.1 rfl (lv_room (Nat.le_of_ble_eq_true rfl)) dX4_joyOf_14 ⟨Nat.zero_le _, Nat.zero_le _⟩) hP hD hS hA [] [0, 1, 2, 3, 4, 5, 6, 7, 8, 9] [0, 1, 2, 3, 4, 5, 6, 7, 8, 9] rfl rfl (by decide) (by decide) rfl (by decide) (fun H locs hP hD hS => ?_)
  refine lv_iadd hx hb dX4_joyOf_17 ?_
  refine va_iald (D := D) hx hb hK.1 hP 1 0 rfl rfl (my_wid (my_off 69 (in_pairAt h_v h_w) (Nat.le_refl _) (by decide)) (by decide) (by decide)) dX4_joyOf_18 ?_
  refine lv_iadd hx hb dX4_joyOf_19 ?_
  have e9 : D_X4_joyOf M v w = (M 0 (2 : Int32).toNatClampNeg) + (M 0 (69 + (D_X4_pairAt v w)).toNatClampNeg) := by rw [D_X4_joyOf]
  exact ret_i hx hb hr hlk hP hD hS dX4_joyOf_20 ⟨Nat.zero_le _, Nat.zero_le _⟩ ⟨e9.symm, rfl⟩
def T_X4_danced_1 (M : Nat → Nat → Int32) (v : Int32) (w : Int32) : Nat → Nat → Int32 := s2 M 0 (33 + v).toNatClampNeg ((M 0 (33 + v).toNatClampNeg) + (D_X4_joyOf M v w))
def T_X4_danced_2 (v : Int32) (S_1 : Nat → Nat → Int32) : Nat → Nat → Int32 := s2 S_1 0 (24 + v).toNatClampNeg ((S_1 0 (24 + v).toNatClampNeg) - (S_1 0 (0 : Int32).toNatClampNeg))
def T_X4_danced_3 (v : Int32) (S_2 : Nat → Nat → Int32) : Nat → Nat → Int32 := s2 S_2 0 (42 + v).toNatClampNeg ((S_2 0 (42 + v).toNatClampNeg) + 1)
def T_X4_danced_4 (v : Int32) (w : Int32) (S_3 : Nat → Nat → Int32) : Nat → Nat → Int32 := s2 S_3 0 (150 + (D_X4_pairAt v w)).toNatClampNeg ((S_3 0 (150 + (D_X4_pairAt v w)).toNatClampNeg) + 1)
def T_X4_danced_5 (v : Int32) (w : Int32) (S_4 : Nat → Nat → Int32) : Nat → Nat → Int32 := s2 S_4 0 (231 + (D_X4_pairAt v w)).toNatClampNeg (S_4 0 (3 : Int32).toNatClampNeg)
def D_X4_danced (M : Nat → Nat → Int32) (v : Int32) (w : Int32) : (Nat → Nat → Int32) := (T_X4_danced_5 v w (T_X4_danced_4 v w (T_X4_danced_3 v (T_X4_danced_2 v (T_X4_danced_1 M v w)))))
set_option maxRecDepth 100000 in
theorem in_X4_danced_RX4 : ∀ w ∈ u_ws RX4 TX4 13, w ∈ wsX4_danced := by decide +kernel
set_option maxHeartbeats 4000000 in
set_option maxRecDepth 100000 in
theorem c_X4_danced (l : Launch) (D : va_G) (Y : YY) (sz : Nat) (q : Nat → Nat) (M : Nat → Nat → Int32) (mo : Nat) (v : Int32) (w : Int32) (h_v : vp_in v 9) (h_w : vp_in w 9) : Met l yX4_danced wsX4_danced ({ frames := 2, cells := 0, slots := 0, locals := 43 } : Room) (va_Pc [.ref mo, .int v, .int w] (Pst D Y sz (wM Y mo q M))) ((fun A : Nat → Prop => Qsv D (fun w9 => w9 = wM Y mo q (D_X4_danced M v w)) A) (va_A (wM Y mo q M) sz)) 0 0 (va_A (wM Y mo q M) sz) := by
  refine ct_in (cc := cX4_danced) (maxL := 3) (ret := none) (Qc := fun A : Nat → Prop => Qsv D (fun w9 => w9 = wM Y mo q (D_X4_danced M v w)) A) (by decide +kernel) rfl (Nat.le_of_ble_eq_true rfl) ?_
  intro p e s m below meth c A ls hx hb hr hts hown hml hlk hin hsz hA hP hD hK hS hl
  have hown : s.vm.findClass RX4 = some m.cls := hown
  have hl : lv_has ls 3 [(0, .ref mo), (1, .int v), (2, .int w)] := hl
  show W p l e ({ frames := 2, cells := 0, slots := 0, locals := 43 } : Room) s m ([.ref mo, .int v, .int w] : List Value).toArray below meth c s.heap [] 0 0 (MQ below (Qsv D (fun w9 => w9 = wM Y mo q (D_X4_danced M v w)) A) ([.ref mo, .int v, .int w] : List Value).toArray s 0 0 A) (F0 m 0 ls [])
  refine lv_aload_n hx hb dX4_danced_0 rfl (lv_at hl 0 rfl) ?_
  refine va_get (D := D) (ci := 4) (v := .ref (q 0)) (C := RX4) (T := TX4) (N := 13) hx hb hts in_X4_danced_RX4 hown hK.1 hP 0 rfl rfl 0 (by decide) (hts (.fieldLink RX4 7 "NineDancersModel" "all" "[I") (by decide +kernel)) (fun _ h9 => h9) rfl dX4_danced_1 ?_
  refine lv_bipush (v := 33) hx hb dX4_danced_4 (by decide) ?_
  refine lv_iload_n hx hb dX4_danced_6 rfl (lv_at hl 1 rfl) ?_
  refine lv_iadd hx hb dX4_danced_7 ?_
  refine lv_dup2_11 hx hb dX4_danced_8 rfl rfl ?_
  refine va_iald (D := D) hx hb hK.1 hP 1 0 rfl rfl (my_wid (my_off 33 h_v (Nat.le_refl _) (by decide)) (by decide) (by decide)) dX4_danced_9 ?_
  refine lv_aload_n hx hb dX4_danced_10 rfl (lv_at hl 0 rfl) ?_
  refine lv_iload_n hx hb dX4_danced_11 rfl (lv_at hl 1 rfl) ?_
  refine lv_iload_n hx hb dX4_danced_12 rfl (lv_at hl 2 rfl) ?_
  refine ck_iD (wr := ([] : va_W)) (ws' := wM Y mo q M) (va_runV (As := [.int v, .int w]) (rest := [.int (M 0 (33 + v).toNatClampNeg), .int (33 + v), .ref (q 0)]) ⟨hx, hb, hml, hown, hts⟩ (c_X4_joyOf l D Y s.heap.size q M mo v w h_v h_w) (cwV 2 hts gX4_danced_X4_joyOf rfl rfl rfl (by decide +kernel) ⟨Nat.le_of_ble_eq_true rfl, Nat.le_of_ble_eq_true rfl⟩) (pst_V hK hP hD [0, 1, 2, 3, 4, 5, 6, 7, 8, 9] rfl (by decide) (q0 := 0) rfl rfl) rfl rfl hl.1 rfl (lv_room (Nat.le_of_ble_eq_true rfl)) dX4_danced_13 ⟨Nat.zero_le _, Nat.zero_le _⟩) hP hD hS hA [0, 1, 2, 3, 4, 5, 6, 7, 8, 9] [] [0, 1, 2, 3, 4, 5, 6, 7, 8, 9] rfl rfl (by decide) (by decide) rfl (by decide) (fun H locs hP hD hS => ?_)
  refine lv_iadd hx hb dX4_danced_16 ?_
  refine va_iast (D := D) hx hb hK.1 hP hD hS 1 0 rfl rfl (my_wid (my_off 33 h_v (Nat.le_refl _) (by decide)) (by decide) (by decide)) dX4_danced_17 (fun H locs hP hD hS => ?_)
  have hP : va_P D vwCl (wM Y mo q (T_X4_danced_1 M v w)) H := hP
  have hD : va_D A (wM Y mo q (T_X4_danced_1 M v w)) := hD
  obtain ⟨S_1, eS_1⟩ : ∃ z9, T_X4_danced_1 M v w = z9 := ⟨_, rfl⟩
  rw [eS_1] at hP hD
  refine lv_aload_n hx hb dX4_danced_18 rfl (lv_at hl 0 rfl) ?_
  refine va_get (D := D) (ci := 4) (v := .ref (q 0)) (C := RX4) (T := TX4) (N := 13) hx hb hts in_X4_danced_RX4 hown hK.1 hP 0 rfl rfl 0 (by decide) (hts (.fieldLink RX4 7 "NineDancersModel" "all" "[I") (by decide +kernel)) (fun _ h9 => h9) rfl dX4_danced_19 ?_
  refine lv_bipush (v := 24) hx hb dX4_danced_22 (by decide) ?_
  refine lv_iload_n hx hb dX4_danced_24 rfl (lv_at hl 1 rfl) ?_
  refine lv_iadd hx hb dX4_danced_25 ?_
  refine lv_dup2_11 hx hb dX4_danced_26 rfl rfl ?_
  refine va_iald (D := D) hx hb hK.1 hP 1 0 rfl rfl (my_wid (my_off 24 h_v (Nat.le_refl _) (by decide)) (by decide) (by decide)) dX4_danced_27 ?_
  refine lv_aload_n hx hb dX4_danced_28 rfl (lv_at hl 0 rfl) ?_
  refine va_get (D := D) (ci := 4) (v := .ref (q 0)) (C := RX4) (T := TX4) (N := 13) hx hb hts in_X4_danced_RX4 hown hK.1 hP 0 rfl rfl 0 (by decide) (hts (.fieldLink RX4 7 "NineDancersModel" "all" "[I") (by decide +kernel)) (fun _ h9 => h9) rfl dX4_danced_29 ?_
  refine lv_iconst (v := 0) hx hb dX4_danced_32 (by decide) ?_
  refine va_iald (D := D) hx hb hK.1 hP 1 0 rfl rfl (by unfold vp_in; decide) dX4_danced_33 ?_
  refine lv_isub hx hb dX4_danced_34 ?_
  refine va_iast (D := D) hx hb hK.1 hP hD hS 1 0 rfl rfl (my_wid (my_off 24 h_v (Nat.le_refl _) (by decide)) (by decide) (by decide)) dX4_danced_35 (fun H locs hP hD hS => ?_)
  have hP : va_P D vwCl (wM Y mo q (T_X4_danced_2 v S_1)) H := hP
  have hD : va_D A (wM Y mo q (T_X4_danced_2 v S_1)) := hD
  obtain ⟨S_2, eS_2⟩ : ∃ z9, T_X4_danced_2 v S_1 = z9 := ⟨_, rfl⟩
  rw [eS_2] at hP hD
  refine lv_aload_n hx hb dX4_danced_36 rfl (lv_at hl 0 rfl) ?_
  refine va_get (D := D) (ci := 4) (v := .ref (q 0)) (C := RX4) (T := TX4) (N := 13) hx hb hts in_X4_danced_RX4 hown hK.1 hP 0 rfl rfl 0 (by decide) (hts (.fieldLink RX4 7 "NineDancersModel" "all" "[I") (by decide +kernel)) (fun _ h9 => h9) rfl dX4_danced_37 ?_
  refine lv_bipush (v := 42) hx hb dX4_danced_40 (by decide) ?_
  refine lv_iload_n hx hb dX4_danced_42 rfl (lv_at hl 1 rfl) ?_
  refine lv_iadd hx hb dX4_danced_43 ?_
  refine lv_dup2_11 hx hb dX4_danced_44 rfl rfl ?_
  refine va_iald (D := D) hx hb hK.1 hP 1 0 rfl rfl (my_wid (my_off 42 h_v (Nat.le_refl _) (by decide)) (by decide) (by decide)) dX4_danced_45 ?_
  refine lv_iconst (v := 1) hx hb dX4_danced_46 (by decide) ?_
  refine lv_iadd hx hb dX4_danced_47 ?_
  refine va_iast (D := D) hx hb hK.1 hP hD hS 1 0 rfl rfl (my_wid (my_off 42 h_v (Nat.le_refl _) (by decide)) (by decide) (by decide)) dX4_danced_48 (fun H locs hP hD hS => ?_)
  have hP : va_P D vwCl (wM Y mo q (T_X4_danced_3 v S_2)) H := hP
  have hD : va_D A (wM Y mo q (T_X4_danced_3 v S_2)) := hD
  obtain ⟨S_3, eS_3⟩ : ∃ z9, T_X4_danced_3 v S_2 = z9 := ⟨_, rfl⟩
  rw [eS_3] at hP hD
  refine lv_aload_n hx hb dX4_danced_49 rfl (lv_at hl 0 rfl) ?_
  refine va_get (D := D) (ci := 4) (v := .ref (q 0)) (C := RX4) (T := TX4) (N := 13) hx hb hts in_X4_danced_RX4 hown hK.1 hP 0 rfl rfl 0 (by decide) (hts (.fieldLink RX4 7 "NineDancersModel" "all" "[I") (by decide +kernel)) (fun _ h9 => h9) rfl dX4_danced_50 ?_
  refine lv_sipush (v := 150) hx hb dX4_danced_53 (by decide) ?_
  refine lv_iload_n hx hb dX4_danced_56 rfl (lv_at hl 1 rfl) ?_
  refine lv_iload_n hx hb dX4_danced_57 rfl (lv_at hl 2 rfl) ?_
  refine ck_iD (wr := wM Y mo q S_3) (ws' := wM Y mo q S_3) (va_runS (As := [.int v, .int w]) (rest := [.int 150, .ref (q 0)]) ⟨hx, hb, hml, hown, hts⟩ (c_X4_pairAt l D Y H.size v w) (va_cwS 2 hts gX4_danced_X4_pairAt rfl rfl rfl (by decide +kernel) ⟨Nat.le_of_ble_eq_true rfl, Nat.le_of_ble_eq_true rfl⟩) (pst_S hK hP hD [] rfl (by decide)) rfl rfl hl.1 rfl (lv_room (Nat.le_of_ble_eq_true rfl)) dX4_danced_58 ⟨Nat.zero_le _, Nat.zero_le _⟩) hP hD hS hA [] [0, 1, 2, 3, 4, 5, 6, 7, 8, 9] [0, 1, 2, 3, 4, 5, 6, 7, 8, 9] rfl rfl (by decide) (by decide) rfl (by decide) (fun H locs hP hD hS => ?_)
  refine lv_iadd hx hb dX4_danced_61 ?_
  refine lv_dup2_11 hx hb dX4_danced_62 rfl rfl ?_
  refine va_iald (D := D) hx hb hK.1 hP 1 0 rfl rfl (my_wid (my_off 150 (in_pairAt h_v h_w) (Nat.le_refl _) (by decide)) (by decide) (by decide)) dX4_danced_63 ?_
  refine lv_iconst (v := 1) hx hb dX4_danced_64 (by decide) ?_
  refine lv_iadd hx hb dX4_danced_65 ?_
  refine va_iast (D := D) hx hb hK.1 hP hD hS 1 0 rfl rfl (my_wid (my_off 150 (in_pairAt h_v h_w) (Nat.le_refl _) (by decide)) (by decide) (by decide)) dX4_danced_66 (fun H locs hP hD hS => ?_)
  have hP : va_P D vwCl (wM Y mo q (T_X4_danced_4 v w S_3)) H := hP
  have hD : va_D A (wM Y mo q (T_X4_danced_4 v w S_3)) := hD
  obtain ⟨S_4, eS_4⟩ : ∃ z9, T_X4_danced_4 v w S_3 = z9 := ⟨_, rfl⟩
  rw [eS_4] at hP hD
  refine lv_aload_n hx hb dX4_danced_67 rfl (lv_at hl 0 rfl) ?_
  refine va_get (D := D) (ci := 4) (v := .ref (q 0)) (C := RX4) (T := TX4) (N := 13) hx hb hts in_X4_danced_RX4 hown hK.1 hP 0 rfl rfl 0 (by decide) (hts (.fieldLink RX4 7 "NineDancersModel" "all" "[I") (by decide +kernel)) (fun _ h9 => h9) rfl dX4_danced_68 ?_
  refine lv_sipush (v := 231) hx hb dX4_danced_71 (by decide) ?_
  refine lv_iload_n hx hb dX4_danced_74 rfl (lv_at hl 1 rfl) ?_
  refine lv_iload_n hx hb dX4_danced_75 rfl (lv_at hl 2 rfl) ?_
  refine ck_iD (wr := wM Y mo q S_4) (ws' := wM Y mo q S_4) (va_runS (As := [.int v, .int w]) (rest := [.int 231, .ref (q 0)]) ⟨hx, hb, hml, hown, hts⟩ (c_X4_pairAt l D Y H.size v w) (va_cwS 2 hts gX4_danced_X4_pairAt rfl rfl rfl (by decide +kernel) ⟨Nat.le_of_ble_eq_true rfl, Nat.le_of_ble_eq_true rfl⟩) (pst_S hK hP hD [] rfl (by decide)) rfl rfl hl.1 rfl (lv_room (Nat.le_of_ble_eq_true rfl)) dX4_danced_76 ⟨Nat.zero_le _, Nat.zero_le _⟩) hP hD hS hA [] [0, 1, 2, 3, 4, 5, 6, 7, 8, 9] [0, 1, 2, 3, 4, 5, 6, 7, 8, 9] rfl rfl (by decide) (by decide) rfl (by decide) (fun H locs hP hD hS => ?_)
  refine lv_iadd hx hb dX4_danced_79 ?_
  refine lv_aload_n hx hb dX4_danced_80 rfl (lv_at hl 0 rfl) ?_
  refine va_get (D := D) (ci := 4) (v := .ref (q 0)) (C := RX4) (T := TX4) (N := 13) hx hb hts in_X4_danced_RX4 hown hK.1 hP 0 rfl rfl 0 (by decide) (hts (.fieldLink RX4 7 "NineDancersModel" "all" "[I") (by decide +kernel)) (fun _ h9 => h9) rfl dX4_danced_81 ?_
  refine lv_iconst (v := 3) hx hb dX4_danced_84 (by decide) ?_
  refine va_iald (D := D) hx hb hK.1 hP 1 0 rfl rfl (by unfold vp_in; decide) dX4_danced_85 ?_
  refine va_iast (D := D) hx hb hK.1 hP hD hS 1 0 rfl rfl (my_off 231 (in_pairAt h_v h_w) (Nat.le_refl _) (by decide)) dX4_danced_86 (fun H locs hP hD hS => ?_)
  have hP : va_P D vwCl (wM Y mo q (T_X4_danced_5 v w S_4)) H := hP
  have hD : va_D A (wM Y mo q (T_X4_danced_5 v w S_4)) := hD
  obtain ⟨S_5, eS_5⟩ : ∃ z9, T_X4_danced_5 v w S_4 = z9 := ⟨_, rfl⟩
  rw [eS_5] at hP hD
  subst eS_5
  subst eS_4
  subst eS_3
  subst eS_2
  subst eS_1
  have e9 : D_X4_danced M v w = (T_X4_danced_5 v w (T_X4_danced_4 v w (T_X4_danced_3 v (T_X4_danced_2 v (T_X4_danced_1 M v w))))) := by rw [D_X4_danced]
  exact ret_v hx hb hr hlk hP hD hS dX4_danced_87 ⟨Nat.zero_le _, Nat.zero_le _⟩ (by rw [e9])
def V_X4_rested_1 (M : Nat → Nat → Int32) (v : Int32) : Int32 := (M 0 (24 + v).toNatClampNeg) + (M 0 (1 : Int32).toNatClampNeg)
def T_X4_rested_2 (M : Nat → Nat → Int32) (v : Int32) : Nat → Nat → Int32 := s2 M 0 (24 + v).toNatClampNeg (V_X4_rested_1 M v)
def T_X4_rested_3 (v : Int32) (S_1 : Nat → Nat → Int32) : Nat → Nat → Int32 := s2 S_1 0 (51 + v).toNatClampNeg ((S_1 0 (51 + v).toNatClampNeg) + 1)
def T_X4_rested_4 (v : Int32) (S_2 : Nat → Nat → Int32) : Nat → Nat → Int32 := s2 S_2 0 (60 + v).toNatClampNeg ((S_2 0 (60 + v).toNatClampNeg) + 0)
def T_X4_rested_5 (v : Int32) (S_2 : Nat → Nat → Int32) : Nat → Nat → Int32 := s2 S_2 0 (60 + v).toNatClampNeg ((S_2 0 (60 + v).toNatClampNeg) + 1)
def T_X4_rested_6 (M : Nat → Nat → Int32) (v : Int32) : Nat → Nat → Int32 := s2 M 0 (24 + v).toNatClampNeg 20
def T_X4_rested_7 (v : Int32) (S_5 : Nat → Nat → Int32) : Nat → Nat → Int32 := s2 S_5 0 (51 + v).toNatClampNeg ((S_5 0 (51 + v).toNatClampNeg) + 1)
def T_X4_rested_8 (v : Int32) (S_6 : Nat → Nat → Int32) : Nat → Nat → Int32 := s2 S_6 0 (60 + v).toNatClampNeg ((S_6 0 (60 + v).toNatClampNeg) + 0)
def T_X4_rested_9 (v : Int32) (S_6 : Nat → Nat → Int32) : Nat → Nat → Int32 := s2 S_6 0 (60 + v).toNatClampNeg ((S_6 0 (60 + v).toNatClampNeg) + 1)
def D_X4_rested (M : Nat → Nat → Int32) (v : Int32) (al : Int32) : (Nat → Nat → Int32) := if (V_X4_rested_1 M v) ≤ 20 then (if al = 0 then (T_X4_rested_4 v (T_X4_rested_3 v (T_X4_rested_2 M v))) else (T_X4_rested_5 v (T_X4_rested_3 v (T_X4_rested_2 M v)))) else (if al = 0 then (T_X4_rested_8 v (T_X4_rested_7 v (T_X4_rested_6 M v))) else (T_X4_rested_9 v (T_X4_rested_7 v (T_X4_rested_6 M v))))
set_option maxRecDepth 100000 in
theorem in_X4_rested_RX4 : ∀ w ∈ u_ws RX4 TX4 13, w ∈ wsX4_rested := by decide +kernel
set_option maxHeartbeats 4000000 in
set_option maxRecDepth 100000 in
theorem c_X4_rested (l : Launch) (D : va_G) (Y : YY) (sz : Nat) (q : Nat → Nat) (M : Nat → Nat → Int32) (mo : Nat) (v : Int32) (al : Int32) (h_v : vp_in v 9) : Met l yX4_rested wsX4_rested ({ frames := 0, cells := 0, slots := 0, locals := 0 } : Room) (va_Pc [.ref mo, .int v, .int al] (Pst D Y sz (wM Y mo q M))) ((fun A : Nat → Prop => Qsv D (fun w9 => w9 = wM Y mo q (D_X4_rested M v al)) A) (va_A (wM Y mo q M) sz)) 0 0 (va_A (wM Y mo q M) sz) := by
  refine ct_in (cc := cX4_rested) (maxL := 4) (ret := none) (Qc := fun A : Nat → Prop => Qsv D (fun w9 => w9 = wM Y mo q (D_X4_rested M v al)) A) (by decide +kernel) rfl (Nat.le_of_ble_eq_true rfl) ?_
  intro p e s m below meth c A ls hx hb hr hts hown hml hlk hin hsz hA hP hD hK hS hl
  have hown : s.vm.findClass RX4 = some m.cls := hown
  have hl : lv_has ls 4 [(0, .ref mo), (1, .int v), (2, .int al)] := hl
  show W p l e ({ frames := 0, cells := 0, slots := 0, locals := 0 } : Room) s m ([.ref mo, .int v, .int al] : List Value).toArray below meth c s.heap [] 0 0 (MQ below (Qsv D (fun w9 => w9 = wM Y mo q (D_X4_rested M v al)) A) ([.ref mo, .int v, .int al] : List Value).toArray s 0 0 A) (F0 m 0 ls [])
  refine lv_aload_n hx hb dX4_rested_0 rfl (lv_at hl 0 rfl) ?_
  refine va_get (D := D) (ci := 4) (v := .ref (q 0)) (C := RX4) (T := TX4) (N := 13) hx hb hts in_X4_rested_RX4 hown hK.1 hP 0 rfl rfl 0 (by decide) (hts (.fieldLink RX4 7 "NineDancersModel" "all" "[I") (by decide +kernel)) (fun _ h9 => h9) rfl dX4_rested_1 ?_
  refine lv_bipush (v := 24) hx hb dX4_rested_4 (by decide) ?_
  refine lv_iload_n hx hb dX4_rested_6 rfl (lv_at hl 1 rfl) ?_
  refine lv_iadd hx hb dX4_rested_7 ?_
  refine va_iald (D := D) hx hb hK.1 hP 1 0 rfl rfl (my_wid (my_off 24 h_v (Nat.le_refl _) (by decide)) (by decide) (by decide)) dX4_rested_8 ?_
  refine lv_aload_n hx hb dX4_rested_9 rfl (lv_at hl 0 rfl) ?_
  refine va_get (D := D) (ci := 4) (v := .ref (q 0)) (C := RX4) (T := TX4) (N := 13) hx hb hts in_X4_rested_RX4 hown hK.1 hP 0 rfl rfl 0 (by decide) (hts (.fieldLink RX4 7 "NineDancersModel" "all" "[I") (by decide +kernel)) (fun _ h9 => h9) rfl dX4_rested_10 ?_
  refine lv_iconst (v := 1) hx hb dX4_rested_13 (by decide) ?_
  refine va_iald (D := D) hx hb hK.1 hP 1 0 rfl rfl (by unfold vp_in; decide) dX4_rested_14 ?_
  refine lv_iadd hx hb dX4_rested_15 ?_
  refine lv_istore_n (lv' := [(3, .int (V_X4_rested_1 M v)), (0, .ref mo), (1, .int v), (2, .int al)]) hx hb dX4_rested_16 rfl hl (by decide) rfl (fun ls hl => ?_)
  refine lv_aload_n hx hb dX4_rested_17 rfl (lv_at hl 1 rfl) ?_
  refine va_get (D := D) (ci := 4) (v := .ref (q 0)) (C := RX4) (T := TX4) (N := 13) hx hb hts in_X4_rested_RX4 hown hK.1 hP 0 rfl rfl 0 (by decide) (hts (.fieldLink RX4 7 "NineDancersModel" "all" "[I") (by decide +kernel)) (fun _ h9 => h9) rfl dX4_rested_18 ?_
  refine lv_bipush (v := 24) hx hb dX4_rested_21 (by decide) ?_
  refine lv_iload_n hx hb dX4_rested_23 rfl (lv_at hl 2 rfl) ?_
  refine lv_iadd hx hb dX4_rested_24 ?_
  refine lv_iload_n hx hb dX4_rested_25 rfl (lv_at hl 0 rfl) ?_
  refine lv_bipush (v := 20) hx hb dX4_rested_26 (by decide) ?_
  refine lv_icmp_le (tgt := 36) hx hb dX4_rested_28 (by decide) (fun c_1 => ?_) (fun c_1 => ?_)
  · refine lv_iload_n hx hb dX4_rested_36 rfl (lv_at hl 0 rfl) ?_
    refine va_iast (D := D) hx hb hK.1 hP hD hS 1 0 rfl rfl (my_wid (my_off 24 h_v (Nat.le_refl _) (by decide)) (by decide) (by decide)) dX4_rested_37 (fun H locs hP hD hS => ?_)
    have hP : va_P D vwCl (wM Y mo q (T_X4_rested_2 M v)) H := hP
    have hD : va_D A (wM Y mo q (T_X4_rested_2 M v)) := hD
    obtain ⟨S_1, eS_1⟩ : ∃ z9, T_X4_rested_2 M v = z9 := ⟨_, rfl⟩
    rw [eS_1] at hP hD
    refine lv_aload_n hx hb dX4_rested_38 rfl (lv_at hl 1 rfl) ?_
    refine va_get (D := D) (ci := 4) (v := .ref (q 0)) (C := RX4) (T := TX4) (N := 13) hx hb hts in_X4_rested_RX4 hown hK.1 hP 0 rfl rfl 0 (by decide) (hts (.fieldLink RX4 7 "NineDancersModel" "all" "[I") (by decide +kernel)) (fun _ h9 => h9) rfl dX4_rested_39 ?_
    refine lv_bipush (v := 51) hx hb dX4_rested_42 (by decide) ?_
    refine lv_iload_n hx hb dX4_rested_44 rfl (lv_at hl 2 rfl) ?_
    refine lv_iadd hx hb dX4_rested_45 ?_
    refine lv_dup2_11 hx hb dX4_rested_46 rfl rfl ?_
    refine va_iald (D := D) hx hb hK.1 hP 1 0 rfl rfl (my_wid (my_off 51 h_v (Nat.le_refl _) (by decide)) (by decide) (by decide)) dX4_rested_47 ?_
    refine lv_iconst (v := 1) hx hb dX4_rested_48 (by decide) ?_
    refine lv_iadd hx hb dX4_rested_49 ?_
    refine va_iast (D := D) hx hb hK.1 hP hD hS 1 0 rfl rfl (my_wid (my_off 51 h_v (Nat.le_refl _) (by decide)) (by decide) (by decide)) dX4_rested_50 (fun H locs hP hD hS => ?_)
    have hP : va_P D vwCl (wM Y mo q (T_X4_rested_3 v S_1)) H := hP
    have hD : va_D A (wM Y mo q (T_X4_rested_3 v S_1)) := hD
    obtain ⟨S_2, eS_2⟩ : ∃ z9, T_X4_rested_3 v S_1 = z9 := ⟨_, rfl⟩
    rw [eS_2] at hP hD
    refine lv_aload_n hx hb dX4_rested_51 rfl (lv_at hl 1 rfl) ?_
    refine va_get (D := D) (ci := 4) (v := .ref (q 0)) (C := RX4) (T := TX4) (N := 13) hx hb hts in_X4_rested_RX4 hown hK.1 hP 0 rfl rfl 0 (by decide) (hts (.fieldLink RX4 7 "NineDancersModel" "all" "[I") (by decide +kernel)) (fun _ h9 => h9) rfl dX4_rested_52 ?_
    refine lv_bipush (v := 60) hx hb dX4_rested_55 (by decide) ?_
    refine lv_iload_n hx hb dX4_rested_57 rfl (lv_at hl 2 rfl) ?_
    refine lv_iadd hx hb dX4_rested_58 ?_
    refine lv_dup2_11 hx hb dX4_rested_59 rfl rfl ?_
    refine va_iald (D := D) hx hb hK.1 hP 1 0 rfl rfl (my_wid (my_off 60 h_v (Nat.le_refl _) (by decide)) (by decide) (by decide)) dX4_rested_60 ?_
    refine lv_iload_n hx hb dX4_rested_61 rfl (lv_at hl 3 rfl) ?_
    refine lv_if_eq (tgt := 69) hx hb dX4_rested_62 (by decide) (fun c_2 => ?_) (fun c_2 => ?_)
    · refine lv_iconst (v := 0) hx hb dX4_rested_69 (by decide) ?_
      refine lv_iadd hx hb dX4_rested_70 ?_
      refine va_iast (D := D) hx hb hK.1 hP hD hS 1 0 rfl rfl (my_wid (my_off 60 h_v (Nat.le_refl _) (by decide)) (by decide) (by decide)) dX4_rested_71 (fun H locs hP hD hS => ?_)
      have hP : va_P D vwCl (wM Y mo q (T_X4_rested_4 v S_2)) H := hP
      have hD : va_D A (wM Y mo q (T_X4_rested_4 v S_2)) := hD
      obtain ⟨S_3, eS_3⟩ : ∃ z9, T_X4_rested_4 v S_2 = z9 := ⟨_, rfl⟩
      rw [eS_3] at hP hD
      subst eS_3
      subst eS_2
      subst eS_1
      have e9 : D_X4_rested M v al = (T_X4_rested_4 v (T_X4_rested_3 v (T_X4_rested_2 M v))) := by rw [D_X4_rested, if_pos c_1, if_pos c_2]
      exact ret_v hx hb hr hlk hP hD hS dX4_rested_72 ⟨Nat.zero_le _, Nat.zero_le _⟩ (by rw [e9])
    · refine lv_iconst (v := 1) hx hb dX4_rested_65 (by decide) ?_
      refine lv_goto (tgt := 70) hx hb dX4_rested_66 (by decide) ?_
      refine lv_iadd hx hb dX4_rested_70 ?_
      refine va_iast (D := D) hx hb hK.1 hP hD hS 1 0 rfl rfl (my_wid (my_off 60 h_v (Nat.le_refl _) (by decide)) (by decide) (by decide)) dX4_rested_71 (fun H locs hP hD hS => ?_)
      have hP : va_P D vwCl (wM Y mo q (T_X4_rested_5 v S_2)) H := hP
      have hD : va_D A (wM Y mo q (T_X4_rested_5 v S_2)) := hD
      obtain ⟨S_4, eS_4⟩ : ∃ z9, T_X4_rested_5 v S_2 = z9 := ⟨_, rfl⟩
      rw [eS_4] at hP hD
      subst eS_4
      subst eS_2
      subst eS_1
      have e9 : D_X4_rested M v al = (T_X4_rested_5 v (T_X4_rested_3 v (T_X4_rested_2 M v))) := by rw [D_X4_rested, if_pos c_1, if_neg c_2]
      exact ret_v hx hb hr hlk hP hD hS dX4_rested_72 ⟨Nat.zero_le _, Nat.zero_le _⟩ (by rw [e9])
  · refine lv_bipush (v := 20) hx hb dX4_rested_31 (by decide) ?_
    refine lv_goto (tgt := 37) hx hb dX4_rested_33 (by decide) ?_
    refine va_iast (D := D) hx hb hK.1 hP hD hS 1 0 rfl rfl (my_wid (my_off 24 h_v (Nat.le_refl _) (by decide)) (by decide) (by decide)) dX4_rested_37 (fun H locs hP hD hS => ?_)
    have hP : va_P D vwCl (wM Y mo q (T_X4_rested_6 M v)) H := hP
    have hD : va_D A (wM Y mo q (T_X4_rested_6 M v)) := hD
    obtain ⟨S_5, eS_5⟩ : ∃ z9, T_X4_rested_6 M v = z9 := ⟨_, rfl⟩
    rw [eS_5] at hP hD
    refine lv_aload_n hx hb dX4_rested_38 rfl (lv_at hl 1 rfl) ?_
    refine va_get (D := D) (ci := 4) (v := .ref (q 0)) (C := RX4) (T := TX4) (N := 13) hx hb hts in_X4_rested_RX4 hown hK.1 hP 0 rfl rfl 0 (by decide) (hts (.fieldLink RX4 7 "NineDancersModel" "all" "[I") (by decide +kernel)) (fun _ h9 => h9) rfl dX4_rested_39 ?_
    refine lv_bipush (v := 51) hx hb dX4_rested_42 (by decide) ?_
    refine lv_iload_n hx hb dX4_rested_44 rfl (lv_at hl 2 rfl) ?_
    refine lv_iadd hx hb dX4_rested_45 ?_
    refine lv_dup2_11 hx hb dX4_rested_46 rfl rfl ?_
    refine va_iald (D := D) hx hb hK.1 hP 1 0 rfl rfl (my_wid (my_off 51 h_v (Nat.le_refl _) (by decide)) (by decide) (by decide)) dX4_rested_47 ?_
    refine lv_iconst (v := 1) hx hb dX4_rested_48 (by decide) ?_
    refine lv_iadd hx hb dX4_rested_49 ?_
    refine va_iast (D := D) hx hb hK.1 hP hD hS 1 0 rfl rfl (my_wid (my_off 51 h_v (Nat.le_refl _) (by decide)) (by decide) (by decide)) dX4_rested_50 (fun H locs hP hD hS => ?_)
    have hP : va_P D vwCl (wM Y mo q (T_X4_rested_7 v S_5)) H := hP
    have hD : va_D A (wM Y mo q (T_X4_rested_7 v S_5)) := hD
    obtain ⟨S_6, eS_6⟩ : ∃ z9, T_X4_rested_7 v S_5 = z9 := ⟨_, rfl⟩
    rw [eS_6] at hP hD
    refine lv_aload_n hx hb dX4_rested_51 rfl (lv_at hl 1 rfl) ?_
    refine va_get (D := D) (ci := 4) (v := .ref (q 0)) (C := RX4) (T := TX4) (N := 13) hx hb hts in_X4_rested_RX4 hown hK.1 hP 0 rfl rfl 0 (by decide) (hts (.fieldLink RX4 7 "NineDancersModel" "all" "[I") (by decide +kernel)) (fun _ h9 => h9) rfl dX4_rested_52 ?_
    refine lv_bipush (v := 60) hx hb dX4_rested_55 (by decide) ?_
    refine lv_iload_n hx hb dX4_rested_57 rfl (lv_at hl 2 rfl) ?_
    refine lv_iadd hx hb dX4_rested_58 ?_
    refine lv_dup2_11 hx hb dX4_rested_59 rfl rfl ?_
    refine va_iald (D := D) hx hb hK.1 hP 1 0 rfl rfl (my_wid (my_off 60 h_v (Nat.le_refl _) (by decide)) (by decide) (by decide)) dX4_rested_60 ?_
    refine lv_iload_n hx hb dX4_rested_61 rfl (lv_at hl 3 rfl) ?_
    refine lv_if_eq (tgt := 69) hx hb dX4_rested_62 (by decide) (fun c_3 => ?_) (fun c_3 => ?_)
    · refine lv_iconst (v := 0) hx hb dX4_rested_69 (by decide) ?_
      refine lv_iadd hx hb dX4_rested_70 ?_
      refine va_iast (D := D) hx hb hK.1 hP hD hS 1 0 rfl rfl (my_wid (my_off 60 h_v (Nat.le_refl _) (by decide)) (by decide) (by decide)) dX4_rested_71 (fun H locs hP hD hS => ?_)
      have hP : va_P D vwCl (wM Y mo q (T_X4_rested_8 v S_6)) H := hP
      have hD : va_D A (wM Y mo q (T_X4_rested_8 v S_6)) := hD
      obtain ⟨S_7, eS_7⟩ : ∃ z9, T_X4_rested_8 v S_6 = z9 := ⟨_, rfl⟩
      rw [eS_7] at hP hD
      subst eS_7
      subst eS_6
      subst eS_5
      have e9 : D_X4_rested M v al = (T_X4_rested_8 v (T_X4_rested_7 v (T_X4_rested_6 M v))) := by rw [D_X4_rested, if_neg c_1, if_pos c_3]
      exact ret_v hx hb hr hlk hP hD hS dX4_rested_72 ⟨Nat.zero_le _, Nat.zero_le _⟩ (by rw [e9])
    · refine lv_iconst (v := 1) hx hb dX4_rested_65 (by decide) ?_
      refine lv_goto (tgt := 70) hx hb dX4_rested_66 (by decide) ?_
      refine lv_iadd hx hb dX4_rested_70 ?_
      refine va_iast (D := D) hx hb hK.1 hP hD hS 1 0 rfl rfl (my_wid (my_off 60 h_v (Nat.le_refl _) (by decide)) (by decide) (by decide)) dX4_rested_71 (fun H locs hP hD hS => ?_)
      have hP : va_P D vwCl (wM Y mo q (T_X4_rested_9 v S_6)) H := hP
      have hD : va_D A (wM Y mo q (T_X4_rested_9 v S_6)) := hD
      obtain ⟨S_8, eS_8⟩ : ∃ z9, T_X4_rested_9 v S_6 = z9 := ⟨_, rfl⟩
      rw [eS_8] at hP hD
      subst eS_8
      subst eS_6
      subst eS_5
      have e9 : D_X4_rested M v al = (T_X4_rested_9 v (T_X4_rested_7 v (T_X4_rested_6 M v))) := by rw [D_X4_rested, if_neg c_1, if_neg c_3]
      exact ret_v hx hb hr hlk hP hD hS dX4_rested_72 ⟨Nat.zero_le _, Nat.zero_le _⟩ (by rw [e9])

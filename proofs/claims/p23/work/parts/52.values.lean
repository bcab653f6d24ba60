/-! the law's small methods, by numbers -/
theorem and_nn (v : Int32) : ∃ j : Nat, j < 2 ^ 31 ∧ v &&& 2147483647 = nI j := by
  refine nI_of (fun q => ?_)
  rw [Int32.lt_iff_toInt_lt, show (0 : Int32).toInt = 0 from rfl, ← Int32.toInt_toBitVec] at q
  have hm : (v &&& 2147483647).toBitVec.msb = false := by
    rw [Int32.toBitVec_and, BitVec.msb_and]
    have : (2147483647 : Int32).toBitVec.msb = false := by decide
    rw [this, Bool.and_false]
  have := BitVec.toInt_nonneg_of_msb_false hm
  omega
theorem up_eq (v : Int32) {n : Nat} (h0 : 0 < n) (hn : n < 2 ^ 31) : ∃ j : Nat, j < n ∧ D_L_up v (nI n) = nI j := by
  obtain ⟨j, hj, e⟩ := and_nn v
  unfold D_L_up
  rw [e, pk_rem hj h0 hn]
  exact ⟨j % n, Nat.mod_lt _ h0, rfl⟩
theorem there_eq : ∀ k, k < 9 → D_L_there (nI k) = nI (dbl k) := by decide +kernel
def tw (v : Nat) : Nat := if 2 * v ≤ 999 then 2 * v else 2 * v % 999 % 9
theorem twice_eq : ∀ v, v < 1000 → D_L_twice (nI v) = nI (tw v) := by decide +kernel
theorem tw_lt : ∀ v, v < 1000 → tw v < 1000 := by decide +kernel
theorem tw_mod : ∀ v, v < 1000 → tw v % 9 = dbl (v % 9) := by decide +kernel
theorem bits_eq : ∀ m, m < 512 → D_L_bits (nI m) = nI (bsum m) := by decide +kernel
/-! histories, one step back -/
theorem HB.back {n : Nat} {u w : HS} (h : HB n u w) (h0 : 0 < u.1) : HB n (u.1 - 1, u.2) (w.1 - 1, w.2) := by
  obtain ⟨e, h1, h2, h3⟩ := h
  refine ⟨by show u.1 - 1 = w.1 - 1; rw [e], ⟨by show u.1 - 1 ≤ 6; have := h1.1; omega, h1.2⟩, ⟨by show w.1 - 1 ≤ 6; have := h2.1; omega, h2.2⟩, fun k hk => ?_⟩
  have hk : k < u.1 - 1 := hk
  exact h3 k (by omega)
/-! a number on the pad -/
def putd (P : Nat → Nat → Int32) (len d : Nat) : Nat → Nat → Int32 := s2 (s2 P 0 len (nI (48 + d))) 1 0 (nI (len + 1))
theorem ch_one : ∀ d, d < 10 → D_X3_charactersIn (lN (48 + d)) = 1 := by decide +kernel
theorem ch_nar : ∀ d, d < 10 → vp_nar .char ((((((lN (48 + d)).toUInt64 >>> ((8 * (0 : Int32)).toInt64.toUInt64 &&& Int64.toUInt64 63)).toInt64 &&& 255).toInt32).toUInt32 % 65536).toInt32) = nI (48 + d) := by decide +kernel
theorem put_d {P : Nat → Nat → Int32} {len d : Nat} (hl : P 1 0 = nI len) (hL : len < 60) (hd : d < 10) : D_X3_put P (lN (48 + d)) = (nI (len + 1), putd P len d) := by
  have e1 : nI len + 1 - 1 = nI len := by rw [nI_1, nI_pred]
  have eA : D_X1_append P (lN (48 + d)) 1 = putd P len d := by
    unfold D_X1_append
    rw [hl, e1, L_X1_append_10, hl, if_neg (nI_nlt (Nat.le_refl len) (by omega))]
    have eT : T_X1_append_2 (lN (48 + d)) 1 (nI len) P = s2 P 0 len (nI (48 + d)) := by
      unfold T_X1_append_2
      rw [hl, e1, nI_clamp (by omega), show nI len - nI len = 0 by simp, ch_nar d hd]
    rw [eT, L_X1_append_10]
    have e3 : s2 P 0 len (nI (48 + d)) 1 0 = nI len := by rw [s2_ne (by decide)]; exact hl
    rw [e3]
    have e4 : nI len + (-1) < nI len := by
      cases len with
      | zero => decide
      | succ n => rw [pk_m1]; exact nI_lt (by omega) (by omega)
    rw [if_pos e4]
    unfold T_X1_append_1 putd
    rw [e3, nI_1]
  unfold D_X3_put
  rw [ch_one d hd, if_neg (by decide), hl, nI_1, if_pos (show nI (len + 1) ≤ 60 from nI_le (b := 60) (by omega) (by decide)), eA]
  congr 1
/-- the pad holds digits only -/
def dig (P : Nat → Nat → Int32) (len : Nat) (d : Nat → Nat) : Prop := P 1 0 = nI len ∧ 0 < len ∧ len ≤ 3 ∧ (∀ k, k < len → d k < 10 ∧ P 0 k = nI (48 + d k)) ∧ (1 < len → 0 < d 0)
def val (d : Nat → Nat) : Nat → Nat
  | 0 => 0
  | k + 1 => 10 * val d k + d k
theorem val_lt {d : Nat → Nat} : ∀ k, (∀ j, j < k → d j < 10) → val d k < 10 ^ k
  | 0, _ => by show 0 < 1; decide
  | k + 1, h => by
    have h1 := val_lt k (fun j hj => h j (by omega))
    have h2 := h k (by omega)
    show 10 * val d k + d k < 10 ^ (k + 1)
    rw [Nat.pow_succ]
    omega
theorem isD : ∀ d, d < 10 → ¬ D_X1_isDigit (nI (48 + d)) = 0 ∧ ¬ nI (48 + d) = 44 ∧ ¬ nI (48 + d) = 42 ∧ nI (48 + d) - 48 = nI d := by decide +kernel
theorem dig_lt {P : Nat → Nat → Int32} {len : Nat} {d : Nat → Nat} (h : dig P len d) {i : Nat} (hi : i < len) : ¬ P 1 0 ≤ nI i := by
  rw [h.1]
  exact nI_ge hi (by have := h.2.2.1; omega)
theorem st_0 (P : Nat → Nat → Int32) : D_X1_startsCall P (nI 0) = 1 := if_pos rfl
theorem st_n {P : Nat → Nat → Int32} {len : Nat} {d : Nat → Nat} (h : dig P len d) {i : Nat} (hi : i + 1 < len) : D_X1_startsCall P (nI (i + 1)) = 0 := by
  have hL := h.2.2.1
  have e := h.2.2.2.1 i (by omega)
  unfold D_X1_startsCall
  rw [if_neg (nI_ne0 (by omega) (by omega)), nI_pred, nI_clamp (by omega), e.2, if_neg (isD _ e.1).2.1]
theorem ht_n {P : Nat → Nat → Int32} {len : Nat} {d : Nat → Nat} (h : dig P len d) {i : Nat} (hi : i < 60) : D_X1_hasTimes P (nI i) = 0 := by
  have hL := h.2.2.1
  unfold D_X1_hasTimes
  rw [nI_1]
  by_cases c : i + 1 < len
  · have e := h.2.2.2.1 (i + 1) c
    rw [if_neg (dig_lt h c), nI_clamp (by omega), e.2, if_neg (isD _ e.1).2.2.1]
  · rw [h.1, if_pos (nI_le (by omega) (by omega))]
theorem ff_step {P : Nat → Nat → Int32} {len : Nat} {d : Nat → Nat} (h : dig P len d) (fu : Nat) (aft : Int32) : ∀ i, i < len → L_X1_firstFault_9 P (fu + 1) (nI i) (nI (val d i)) (nI i) aft = L_X1_firstFault_9 P fu (nI (i + 1)) (nI (val d (i + 1))) (nI (i + 1)) aft := by
  intro i hi
  have hL := h.2.2.1
  have e := h.2.2.2.1 i hi
  have q := isD _ e.1
  rw [L_X1_firstFault_9, if_neg (dig_lt h hi), nI_clamp (by omega), e.2, if_neg q.1, q.2.2.2]
  have hc : ¬ D_X1_canTakeDigit (nI (val d i)) (nI i) = 0 := by
    unfold D_X1_canTakeDigit
    by_cases z : i = 0
    · subst z; rw [if_pos (show nI 0 = 0 from rfl)]; decide
    · have h0 := h.2.2.2.2 (by omega)
      have hv := val_lt (d := d) i (fun j hj => (h.2.2.2.1 j (by omega)).1)
      have hp : 0 < val d i := by
        obtain rfl | rfl : i = 1 ∨ i = 2 := by omega
        · show 0 < 10 * 0 + d 0; omega
        · show 0 < 10 * (10 * 0 + d 0) + d 1; omega
      have hb : val d i < 2 ^ 31 := by
        obtain rfl | rfl : i = 1 ∨ i = 2 := by omega
        · omega
        · omega
      rw [if_neg (nI_ne0 (by omega) (by omega)), if_neg (nI_nle hp hb), if_neg (show ¬ (3 : Int32) ≤ nI i from nI_ge (b := 3) (by omega) (by decide))]
      decide
  rw [if_neg hc, nI_1, show (10 : Int32) = nI 10 from rfl, pk_mul, nI_add]
  rfl
theorem ff_end {P : Nat → Nat → Int32} {len : Nat} {d : Nat → Nat} (h : dig P len d) (fu : Nat) (nu aft : Int32) : L_X1_firstFault_9 P (fu + 1) (nI len) nu (nI len) aft = (-1000006) := by
  rw [L_X1_firstFault_9, h.1, if_pos (Int32.le_refl _), if_neg (nI_nle h.2.1 (by have := h.2.2.1; omega))]
theorem ff_eq {P : Nat → Nat → Int32} {len : Nat} {d : Nat → Nat} (h : dig P len d) : D_X1_firstFault P = (-1000006) := by
  unfold D_X1_firstFault
  have hL := h.2.2.1
  have h0 := h.2.1
  show L_X1_firstFault_9 P 61 (nI 0) (nI (val d 0)) (nI 0) 0 = _
  obtain rfl | rfl | rfl : len = 1 ∨ len = 2 ∨ len = 3 := by omega
  · rw [ff_step h 60 0 0 (by omega)]; exact ff_end h 59 _ 0
  · rw [ff_step h 60 0 0 (by omega), ff_step h 59 0 1 (by omega)]; exact ff_end h 58 _ 0
  · rw [ff_step h 60 0 0 (by omega), ff_step h 59 0 1 (by omega), ff_step h 58 0 2 (by omega)]; exact ff_end h 57 _ 0
theorem na_step {P : Nat → Nat → Int32} {len : Nat} {d : Nat → Nat} (h : dig P len d) (v : Int32) (fu : Nat) : ∀ i, i < len → L_X1_numberAt_21 P v (fu + 1) (nI i) (nI (val d i)) = L_X1_numberAt_21 P v fu (nI (i + 1)) (nI (val d (i + 1))) := by
  intro i hi
  have hL := h.2.2.1
  have e := h.2.2.2.1 i hi
  have q := isD _ e.1
  rw [L_X1_numberAt_21, if_neg (dig_lt h hi), nI_clamp (by omega), e.2, if_neg q.1, q.2.2.2, nI_1, show (10 : Int32) = nI 10 from rfl, pk_mul, nI_add]
  rfl
theorem na_end {P : Nat → Nat → Int32} {len : Nat} {d : Nat → Nat} (h : dig P len d) (v : Int32) (fu : Nat) (nu : Int32) : L_X1_numberAt_21 P v (fu + 1) (nI len) nu = nu := by
  rw [L_X1_numberAt_21, h.1, if_pos (Int32.le_refl _)]
theorem na_eq {P : Nat → Nat → Int32} {len : Nat} {d : Nat → Nat} (h : dig P len d) : D_X1_numberAt P (nI 0) = nI (val d len) := by
  unfold D_X1_numberAt
  have hL := h.2.2.1
  have h0 := h.2.1
  show L_X1_numberAt_21 P (nI 0) 61 (nI 0) (nI (val d 0)) = _
  obtain rfl | rfl | rfl : len = 1 ∨ len = 2 ∨ len = 3 := by omega
  · rw [na_step h _ 60 0 (by omega)]; exact na_end h _ 59 _
  · rw [na_step h _ 60 0 (by omega), na_step h _ 59 1 (by omega)]; exact na_end h _ 58 _
  · rw [na_step h _ 60 0 (by omega), na_step h _ 59 1 (by omega), na_step h _ 58 2 (by omega)]; exact na_end h _ 57 _
theorem ri_n {P : Nat → Nat → Int32} {len : Nat} {d : Nat → Nat} (h : dig P len d) (u : Int32) : ∀ fu i, i + 1 ≤ len → len + 1 ≤ (i + 1) + fu → L_X1_roundsInAll_4 P fu (nI (i + 1)) u = u := by
  intro fu
  induction fu with
  | zero => intro i h1 h2; exact absurd h2 (by omega)
  | succ fu ih =>
    intro i h1 h2
    rw [L_X1_roundsInAll_4]
    by_cases c : P 1 0 ≤ nI (i + 1)
    · rw [if_pos c]
    · rw [if_neg c]
      have hi : i + 1 < len := my_lt rfl h.1 (by have := h.2.2.1; omega) h1 c
      rw [st_n h hi, if_pos rfl, nI_1]
      exact ih (i + 1) (by omega) (by omega)
theorem ri_eq {P : Nat → Nat → Int32} {len : Nat} {d : Nat → Nat} (h : dig P len d) : D_X1_roundsInAll P = 1 := by
  unfold D_X1_roundsInAll
  have h0 := h.2.1
  have hL := h.2.2.1
  show L_X1_roundsInAll_4 P (60 + 1) (nI 0) 0 = 1
  rw [L_X1_roundsInAll_4, if_neg (dig_lt h h0), st_0, if_neg (by decide), ta1 (ht_n h (by omega)), nI_1, ri_n h _ 60 0 (by omega) (by omega)]
  rfl
theorem te_eq (S : Nat → Nat → Int32) (k : Int32) : D_X3_tell S k 1 = (0 + (D_X2_danceRound S k).1, (D_X2_danceRound S k).2) := by
  unfold D_X3_tell
  rw [L_X3_tell_5, if_neg (by decide), L_X3_tell_5, if_pos (by decide)]
theorem tn_n {P : Nat → Nat → Int32} {len : Nat} {d : Nat → Nat} (h : dig P len d) (S : Nat → Nat → Int32) (u : Int32) (S1 : Nat → Nat → Int32) : ∀ fu i, i + 1 ≤ len → len + 1 ≤ (i + 1) + fu → L_X3_tellNumbersOfPad_4 P S fu (nI (i + 1)) u S1 = (u, S1) := by
  intro fu
  induction fu with
  | zero => intro i h1 h2; exact absurd h2 (by omega)
  | succ fu ih =>
    intro i h1 h2
    rw [L_X3_tellNumbersOfPad_4]
    by_cases c : P 1 0 ≤ nI (i + 1)
    · rw [if_pos c]
    · rw [if_neg c]
      have hi : i + 1 < len := my_lt rfl h.1 (by have := h.2.2.1; omega) h1 c
      rw [st_n h hi, if_pos rfl, nI_1]
      exact ih (i + 1) (by omega) (by omega)
theorem tn_eq {P : Nat → Nat → Int32} {len : Nat} {d : Nat → Nat} (h : dig P len d) (S : Nat → Nat → Int32) : D_X3_tellNumbersOfPad P S = D_X2_danceRound S (nI (val d len)) := by
  unfold D_X3_tellNumbersOfPad
  have h0 := h.2.1
  have hL := h.2.2.1
  have e : L_X3_tellNumbersOfPad_4 P S 61 0 0 S = D_X2_danceRound S (nI (val d len)) := by
    show L_X3_tellNumbersOfPad_4 P S (60 + 1) (nI 0) 0 S = _
    rw [L_X3_tellNumbersOfPad_4, if_neg (dig_lt h h0), st_0, if_neg (by decide)]
    unfold V_X3_tellNumbersOfPad_1
    rw [ta1 (ht_n h (by omega)), na_eq h, te_eq, nI_1, tn_n h _ _ _ 60 0 (by omega) (by omega)]
    refine Prod.ext ?_ rfl
    show 0 + (0 + _) = _
    simp
  rw [e]
theorem read_eq {P : Nat → Nat → Int32} {len : Nat} {d : Nat → Nat} (h : dig P len d) {S : Nat → Nat → Int32} {n : Nat} (hS : Inv n S) (hn : n ≤ 100) (u : HS) : D_X3_read P S u = (nI (pc S (val d len % 9) 9), (D_X1_empty P).2, RS S (val d len), D_X0_remember u S) := by
  have e9 : (9999 : Int32).toInt = 9999 := rfl
  have hR := hS.2.1
  have hv : val d len < 1000 := by
    have := val_lt (d := d) len (fun j hj => (h.2.2.2.1 j hj).1)
    have hL := h.2.2.1
    obtain rfl | rfl | rfl : len = 1 ∨ len = 2 ∨ len = 3 := by have := h.2.1; omega
    · omega
    · omega
    · omega
  unfold D_X3_read
  rw [ff_eq h, if_pos rfl, ri_eq h, if_pos (show S 10 1 + 1 ≤ 9999 by rw [Int32.le_iff_toInt_le, e9, ti_inc hR.1 (by omega)]; omega), tn_eq h, round_eq S hv]

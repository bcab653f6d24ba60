/-! WHAT A ROUND DOES, told at once: plain facts on a state's rows -/
theorem s2_ne {S : Nat → Nat → Int32} {k i a : Nat} {x : Int32} (h : a ≠ k) : s2 S k i x a = S a := by
  unfold s2
  cases hb : Nat.beq a k with
  | false => rfl
  | true => exact absurd (Nat.eq_of_beq_eq_true hb) h
theorem s2_ap {S : Nat → Nat → Int32} {k i a j : Nat} {x : Int32} : s2 S k i x a j = if a = k then (if j = i then x else S a j) else S a j := by
  by_cases h : a = k
  · subst h
    rw [if_pos rfl]
    unfold s2
    rw [Nat.beq_refl, cond_true]
    rfl
  · rw [if_neg h, s2_ne h]
def cn (t k : Nat) : Nat := (t + 9 - k) % 9
theorem cn_ok : ∀ t, t < 9 → ∀ k, k < 9 → cn t k < 9 ∧ cn t (cn t k) = k := by decide
theorem cp_eq {j n : Nat} (hj : j < 9) (hn : n < 1000) : D_X3_counterpart (nI j) (nI n) = nI (cn (n % 9) j) := by
  apply Int32.toInt_inj.mp
  unfold D_X3_counterpart
  rw [ti_remainderOf, pk_sub_toInt (by omega) (by omega), nI_toInt (by unfold cn; omega)]
  unfold cn
  omega
def px (a b : Nat) : Nat := if b ≤ a then b * 9 + a else a * 9 + b
theorem px_ok : ∀ a, a < 9 → ∀ b, b < 9 → (D_X3_pairIndex (nI a) (nI b)).toNatClampNeg = px a b ∧ px a b < 81 ∧ px a b = px b a := by decide +kernel
abbrev thr (S : Nat → Nat → Int32) (k : Nat) : Prop := ¬ D_X2_isThere S (nI k) = 0
abbrev cand (S : Nat → Nat → Int32) (t k : Nat) : Prop := cn t k ≠ k ∧ thr S k ∧ thr S (cn t k) ∧ ¬ S 1 k < S 0 0 ∧ ¬ S 1 (cn t k) < S 0 0
theorem thr_congr {S T : Nat → Nat → Int32} (h : S 10 0 = T 10 0) (v : Int32) : D_X2_isThere S v = D_X2_isThere T v := by
  unfold D_X2_isThere
  rw [h]
def mn (S : Nat → Nat → Int32) (a : Nat) : Int32 := if 20 < S 1 a + S 0 1 then 20 else S 1 a + S 0 1
theorem clamp9 {a : Nat} (ha : a < 9) : (nI a).toNatClampNeg = a := nI_clamp (by omega)
theorem rest_r (S : Nat → Nat → Int32) {a : Nat} (ha : a < 9) (row j : Nat) : D_X2_rest S (nI a) row j = if thr S a ∧ j = a ∧ row = 1 then mn S a else if thr S a ∧ j = a ∧ row = 4 then S 4 a + 1 else S row j := by
  unfold D_X2_rest
  by_cases h : D_X2_isThere S (nI a) = 0
  · simp [h]
  · rw [if_neg h]
    unfold T_X2_rest_2 T_X2_rest_1 mn
    by_cases hj : j = a
    · subst hj
      by_cases r1 : row = 1
      · subst r1
        simp [s2_ap, clamp9 ha, h, show (1 : Int32).toNatClampNeg = 1 from rfl]
      · by_cases r4 : row = 4
        · subst r4
          simp [s2_ap, clamp9 ha, h]
        · simp [s2_ap, clamp9 ha, h, r1, r4]
    · simp [s2_ap, clamp9 ha, h, hj]
theorem alone_r (S : Nat → Nat → Int32) {a : Nat} (ha : a < 9) (row j : Nat) : D_X2_leaveAlone S (nI a) row j = if thr S a ∧ j = a ∧ row = 1 then mn S a else if thr S a ∧ j = a ∧ row = 4 then S 4 a + 1 else if thr S a ∧ j = a ∧ row = 5 then S 5 a + 1 else S row j := by
  unfold D_X2_leaveAlone
  by_cases h : D_X2_isThere S (nI a) = 0
  · simp [h]
  · rw [if_neg h]
    have h' : D_X2_isThere (T_X2_leaveAlone_1 S (nI a)) (nI a) = D_X2_isThere S (nI a) := thr_congr (by unfold T_X2_leaveAlone_1; rw [s2_ne (by decide)]) _
    rw [rest_r _ ha]
    unfold mn
    rw [show thr (T_X2_leaveAlone_1 S (nI a)) a = thr S a from by unfold thr; rw [h']]
    unfold T_X2_leaveAlone_1
    by_cases hj : j = a
    · subst hj
      by_cases r1 : row = 1
      · subst r1
        simp [s2_ap, clamp9 ha, h]
      · by_cases r4 : row = 4
        · subst r4
          simp [s2_ap, clamp9 ha, h]
        · by_cases r5 : row = 5
          · subst r5
            simp [s2_ap, clamp9 ha, h]
          · simp [s2_ap, clamp9 ha, h, r1, r4, r5]
    · simp [s2_ap, clamp9 ha, h, hj]
theorem take_r (S : Nat → Nat → Int32) {a : Nat} (ha : a < 9) (y : Int32) (row j : Nat) : D_X2_takePart S (nI a) y row j = if j = a ∧ row = 1 then S 1 a - S 0 0 else if j = a ∧ row = 2 then S 2 a + y else if j = a ∧ row = 3 then S 3 a + 1 else S row j := by
  unfold D_X2_takePart T_X2_takePart_3 T_X2_takePart_2 T_X2_takePart_1
  by_cases hj : j = a
  · subst hj
    by_cases r1 : row = 1
    · subst r1
      simp [s2_ap, clamp9 ha, show (0 : Int32).toNatClampNeg = 0 from rfl]
    · by_cases r2 : row = 2
      · subst r2
        simp [s2_ap, clamp9 ha]
      · by_cases r3 : row = 3
        · subst r3
          simp [s2_ap, clamp9 ha]
        · simp [s2_ap, clamp9 ha, r1, r2, r3]
  · simp [s2_ap, clamp9 ha, hj]
theorem dance_r (S : Nat → Nat → Int32) {a b : Nat} (ha : a < 9) (hb : b < 9) (hab : a ≠ b) (row j : Nat) : D_X2_dance S (nI a) (nI b) row j = if (j = a ∨ j = b) ∧ row = 1 then S 1 j - S 0 0 else if (j = a ∨ j = b) ∧ row = 2 then S 2 j + (S 0 2 + S 6 (px a b)) else if (j = a ∨ j = b) ∧ row = 3 then S 3 j + 1 else if j = px a b ∧ row = 7 then S 7 j + 1 else if j = px a b ∧ row = 8 then S 10 1 else S row j := by
  unfold D_X2_dance T_X2_dance_2 T_X2_dance_1 D_X2_joyOfEach
  simp only [(px_ok a ha b hb).1, show (2 : Int32).toNatClampNeg = 2 from rfl]
  rw [s2_ap, s2_ap]
  simp only [s2_ap, take_r _ hb, take_r _ ha]
  by_cases r1 : row = 1
  · subst r1
    by_cases j1 : j = a
    · subst j1; simp [hab]
    · by_cases j2 : j = b
      · subst j2; simp [j1]
      · simp [j1, j2]
  · by_cases r2 : row = 2
    · subst r2
      by_cases j1 : j = a
      · subst j1; simp [hab]
      · by_cases j2 : j = b
        · subst j2; simp [j1]
        · simp [j1, j2]
    · by_cases r3 : row = 3
      · subst r3
        by_cases j1 : j = a
        · subst j1; simp [hab]
        · by_cases j2 : j = b
          · subst j2; simp [j1]
          · simp [j1, j2]
      · by_cases r7 : row = 7
        · subst r7; simp
        · by_cases r8 : row = 8
          · subst r8; simp
          · simp [r1, r2, r3, r7, r8]

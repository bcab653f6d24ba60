/-! WHAT A ROUND DOES, told at once: plain facts on a state's rows -/
theorem s2_ne {S : Nat → Nat → Int32} {k i a : Nat} {x : Int32} (h : a ≠ k) : s2 S k i x a = S a := by
  unfold s2
  cases hb : Nat.beq a k with
  | false => rfl
  | true => exact absurd (Nat.eq_of_beq_eq_true hb) h
theorem s2_ap {S : Nat → Nat → Int32} {k i a j : Nat} {x : Int32} : s2 S k i x a j = if a = k then (if j = i then x else S a j) else S a j := by
  by_cases h : a = k
  · subst h
    rw [if_pos rfl]
    unfold s2
    rw [Nat.beq_refl, cond_true]
    rfl
  · rw [if_neg h, s2_ne h]
def cn (t k : Nat) : Nat := (t + 9 - k) % 9
theorem cn_ok : ∀ t, t < 9 → ∀ k, k < 9 → cn t k < 9 ∧ cn t (cn t k) = k := by decide
theorem cp_eq {j n : Nat} (hj : j < 9) (hn : n < 1000) : D_X3_counterpart (nI j) (nI n) = nI (cn (n % 9) j) := by
  apply Int32.toInt_inj.mp
  unfold D_X3_counterpart
  rw [ti_remainderOf, pk_sub_toInt (by omega) (by omega), nI_toInt (by unfold cn; omega)]
  unfold cn
  omega
def px (a b : Nat) : Nat := if b ≤ a then b * 9 + a else a * 9 + b
theorem px_ok : ∀ a, a < 9 → ∀ b, b < 9 → (D_X3_pairIndex (nI a) (nI b)).toNatClampNeg = px a b ∧ px a b < 81 ∧ px a b = px b a := by decide +kernel
abbrev thr (S : Nat → Nat → Int32) (k : Nat) : Prop := ¬ D_X2_isThere S (nI k) = 0
abbrev cand (S : Nat → Nat → Int32) (t k : Nat) : Prop := cn t k ≠ k ∧ thr S k ∧ thr S (cn t k) ∧ ¬ S 1 k < S 0 0 ∧ ¬ S 1 (cn t k) < S 0 0
theorem thr_congr {S T : Nat → Nat → Int32} (h : S 10 0 = T 10 0) (v : Int32) : D_X2_isThere S v = D_X2_isThere T v := by
  unfold D_X2_isThere
  rw [h]
def mn (S : Nat → Nat → Int32) (a : Nat) : Int32 := if 20 < S 1 a + S 0 1 then 20 else S 1 a + S 0 1
theorem clamp9 {a : Nat} (ha : a < 9) : (nI a).toNatClampNeg = a := nI_clamp (by omega)
theorem rest_r (S : Nat → Nat → Int32) {a : Nat} (ha : a < 9) (row j : Nat) : D_X2_rest S (nI a) row j = if thr S a ∧ j = a ∧ row = 1 then mn S a else if thr S a ∧ j = a ∧ row = 4 then S 4 a + 1 else S row j := by
  unfold D_X2_rest
  by_cases h : D_X2_isThere S (nI a) = 0
  · simp [h]
  · rw [if_neg h]
    unfold T_X2_rest_2 T_X2_rest_1 mn
    by_cases hj : j = a
    · subst hj
      by_cases r1 : row = 1
      · subst r1
        simp [s2_ap, clamp9 ha, h, show (1 : Int32).toNatClampNeg = 1 from rfl]
      · by_cases r4 : row = 4
        · subst r4
          simp [s2_ap, clamp9 ha, h]
        · simp [s2_ap, clamp9 ha, h, r1, r4]
    · simp [s2_ap, clamp9 ha, h, hj]
theorem alone_r (S : Nat → Nat → Int32) {a : Nat} (ha : a < 9) (row j : Nat) : D_X2_leaveAlone S (nI a) row j = if thr S a ∧ j = a ∧ row = 1 then mn S a else if thr S a ∧ j = a ∧ row = 4 then S 4 a + 1 else if thr S a ∧ j = a ∧ row = 5 then S 5 a + 1 else S row j := by
  unfold D_X2_leaveAlone
  by_cases h : D_X2_isThere S (nI a) = 0
  · simp [h]
  · rw [if_neg h]
    have h' : D_X2_isThere (T_X2_leaveAlone_1 S (nI a)) (nI a) = D_X2_isThere S (nI a) := thr_congr (by unfold T_X2_leaveAlone_1; rw [s2_ne (by decide)]) _
    rw [rest_r _ ha]
    unfold mn
    simp only [thr, h']
    unfold T_X2_leaveAlone_1
    by_cases hj : j = a
    · subst hj
      by_cases r1 : row = 1
      · subst r1
        simp [s2_ap, clamp9 ha, h]
      · by_cases r4 : row = 4
        · subst r4
          simp [s2_ap, clamp9 ha, h]
        · by_cases r5 : row = 5
          · subst r5
            simp [s2_ap, clamp9 ha, h]
          · simp [s2_ap, clamp9 ha, h, r1, r4, r5]
    · simp [s2_ap, clamp9 ha, h, hj]
theorem take_r (S : Nat → Nat → Int32) {a : Nat} (ha : a < 9) (y : Int32) (row j : Nat) : D_X2_takePart S (nI a) y row j = if j = a ∧ row = 1 then S 1 a - S 0 0 else if j = a ∧ row = 2 then S 2 a + y else if j = a ∧ row = 3 then S 3 a + 1 else S row j := by
  unfold D_X2_takePart T_X2_takePart_3 T_X2_takePart_2 T_X2_takePart_1
  by_cases hj : j = a
  · subst hj
    by_cases r1 : row = 1
    · subst r1
      simp [s2_ap, clamp9 ha, show (0 : Int32).toNatClampNeg = 0 from rfl]
    · by_cases r2 : row = 2
      · subst r2
        simp [s2_ap, clamp9 ha]
      · by_cases r3 : row = 3
        · subst r3
          simp [s2_ap, clamp9 ha]
        · simp [s2_ap, clamp9 ha, r1, r2, r3]
  · simp [s2_ap, clamp9 ha, hj]
theorem dance_r (S : Nat → Nat → Int32) {a b : Nat} (ha : a < 9) (hb : b < 9) (hab : a ≠ b) (row j : Nat) : D_X2_dance S (nI a) (nI b) row j = if (j = a ∨ j = b) ∧ row = 1 then S 1 j - S 0 0 else if (j = a ∨ j = b) ∧ row = 2 then S 2 j + (S 0 2 + S 6 (px a b)) else if (j = a ∨ j = b) ∧ row = 3 then S 3 j + 1 else if j = px a b ∧ row = 7 then S 7 j + 1 else if j = px a b ∧ row = 8 then S 10 1 else S row j := by
  unfold D_X2_dance T_X2_dance_2 T_X2_dance_1 D_X2_joyOfEach
  simp only [(px_ok a ha b hb).1, show (2 : Int32).toNatClampNeg = 2 from rfl]
  rw [s2_ap, s2_ap]
  simp only [s2_ap, take_r _ hb, take_r _ ha]
  by_cases r1 : row = 1
  · subst r1
    by_cases j1 : j = a
    · subst j1; simp [hab]
    · by_cases j2 : j = b
      · subst j2; simp [j1]
      · simp [j1, j2]
  · by_cases r2 : row = 2
    · subst r2
      by_cases j1 : j = a
      · subst j1; simp [hab]
      · by_cases j2 : j = b
        · subst j2; simp [j1]
        · simp [j1, j2]
    · by_cases r3 : row = 3
      · subst r3
        by_cases j1 : j = a
        · subst j1; simp [hab]
        · by_cases j2 : j = b
          · subst j2; simp [j1]
          · simp [j1, j2]
      · by_cases r7 : row = 7
        · subst r7
          by_cases jj : j = px a b
          · simp [jj]
          · simp [jj]
        · by_cases r8 : row = 8
          · subst r8; simp
          · simp [r1, r2, r3, r7, r8]

/-! the round, told at once: t the told remainder, the villagers whose pair is begun before i done -/
def nS (S : Nat → Nat → Int32) (t k : Nat) : Int32 := if cand S t k then S 1 k - S 0 0 else if thr S k then mn S k else S 1 k
def nJ (S : Nat → Nat → Int32) (t k : Nat) : Int32 := if cand S t k then S 2 k + (S 0 2 + S 6 (px k (cn t k))) else S 2 k
def nD (S : Nat → Nat → Int32) (t k : Nat) : Int32 := if cand S t k then S 3 k + 1 else S 3 k
def nR (S : Nat → Nat → Int32) (t k : Nat) : Int32 := if cand S t k then S 4 k else if thr S k then S 4 k + 1 else S 4 k
def nA (S : Nat → Nat → Int32) (t k : Nat) : Int32 := if cand S t k then S 5 k else if thr S k ∧ cn t k ≠ k then S 5 k + 1 else S 5 k
abbrev dp (S : Nat → Nat → Int32) (t i j : Nat) : Prop := j < 81 ∧ j / 9 < i ∧ j / 9 < j % 9 ∧ cn t (j / 9) = j % 9 ∧ cand S t (j / 9)
abbrev pd (t i j : Nat) : Prop := j < 9 ∧ (j < i ∨ cn t j < i)
def FR (S : Nat → Nat → Int32) (t i : Nat) : Nat → Nat → Int32 := fun row j =>
  if row = 1 then (if pd t i j then nS S t j else S 1 j) else if row = 2 then (if pd t i j then nJ S t j else S 2 j) else if row = 3 then (if pd t i j then nD S t j else S 3 j)
  else if row = 4 then (if pd t i j then nR S t j else S 4 j) else if row = 5 then (if pd t i j then nA S t j else S 5 j)
  else if row = 7 then (if dp S t i j then S 7 j + 1 else S 7 j) else if row = 8 then (if dp S t i j then S 10 1 else S 8 j) else S row j
theorem FR_o {S : Nat → Nat → Int32} {t i row j : Nat} (h1 : row ≠ 1) (h2 : row ≠ 2) (h3 : row ≠ 3) (h4 : row ≠ 4) (h5 : row ≠ 5) (h7 : row ≠ 7) (h8 : row ≠ 8) : FR S t i row j = S row j := by
  unfold FR
  simp [h1, h2, h3, h4, h5, h7, h8]
theorem FR_thr (S : Nat → Nat → Int32) (t i : Nat) (v : Int32) : D_X2_isThere (FR S t i) v = D_X2_isThere S v := thr_congr (FR_o (by decide) (by decide) (by decide) (by decide) (by decide) (by decide) (by decide)) v
theorem cand_sym {S : Nat → Nat → Int32} {t k : Nat} (ht : t < 9) (hk : k < 9) (h : cand S t k) : cand S t (cn t k) := by
  obtain ⟨h1, h2, h3, h4, h5⟩ := h
  have e := (cn_ok t ht k hk).2
  refine ⟨?_, h3, ?_, h5, ?_⟩
  · rw [e]; exact fun q => h1 q.symm
  · rw [e]; exact h2
  · rw [e]; exact h4
theorem px_at : ∀ i, i < 9 → ∀ b, b < 9 → i < b → px i b / 9 = i ∧ px i b % 9 = b ∧ px i b < 81 := by decide
theorem at_px : ∀ j, j < 81 → j / 9 < j % 9 → px (j / 9) (j % 9) = j := by decide
/-- the step where nobody is new -/
theorem step_old (S : Nat → Nat → Int32) {t i : Nat} (ht : t < 9) (hi : i < 9) (hb : cn t i < i) : FR S t i = FR S t (i + 1) := by
  have hp : ∀ j, pd t i j ↔ pd t (i + 1) j := fun j => by
    constructor
    · rintro ⟨h1, h2⟩; exact ⟨h1, by omega⟩
    · rintro ⟨h1, h2⟩
      refine ⟨h1, ?_⟩
      have e := (cn_ok t ht j h1).2
      by_cases h3 : j = i
      · subst h3; exact Or.inr hb
      · by_cases h4 : cn t j = i
        · rw [h4] at e; omega
        · omega
  have hd : ∀ j, dp S t i j ↔ dp S t (i + 1) j := fun j => by
    constructor
    · rintro ⟨h1, h2, h3⟩; exact ⟨h1, by omega, h3⟩
    · rintro ⟨h1, h2, h3, h4, h5⟩
      refine ⟨h1, ?_, h3, h4, h5⟩
      by_cases h6 : j / 9 = i
      · rw [h6] at h4 h3; omega
      · omega
  funext row j
  unfold FR
  simp only [hp, hd]
/-- the one who sits -/
theorem step_sit (S : Nat → Nat → Int32) {t i : Nat} (ht : t < 9) (hi : i < 9) (hb : cn t i = i) : D_X2_rest (FR S t i) (nI i) = FR S t (i + 1) := by
  have hp : ∀ j, pd t (i + 1) j ↔ (pd t i j ∨ j = i) := fun j => by
    constructor
    · rintro ⟨h1, h2⟩
      have e := (cn_ok t ht j h1).2
      by_cases h3 : j = i
      · exact Or.inr h3
      · left
        refine ⟨h1, ?_⟩
        by_cases h4 : cn t j = i
        · rw [h4, hb] at e; omega
        · omega
    · rintro (⟨h1, h2⟩ | rfl)
      · exact ⟨h1, by omega⟩
      · exact ⟨hi, by omega⟩
  have hn : ¬ pd t i i := fun q => by have := q.2; omega
  have hc : ¬ cand S t i := fun q => q.1 hb
  have hd : ∀ j, dp S t (i + 1) j ↔ dp S t i j := fun j => by
    constructor
    · rintro ⟨h1, h2, h3, h4, h5⟩
      refine ⟨h1, ?_, h3, h4, h5⟩
      by_cases h6 : j / 9 = i
      · rw [h6, hb] at h4; omega
      · omega
    · rintro ⟨h1, h2, h3⟩; exact ⟨h1, by omega, h3⟩
  have f1 : FR S t i 1 i = S 1 i := by unfold FR; simp [hn]
  have f4 : FR S t i 4 i = S 4 i := by unfold FR; simp [hn]
  have f0 : ∀ j, FR S t i 0 j = S 0 j := fun j => FR_o (by decide) (by decide) (by decide) (by decide) (by decide) (by decide) (by decide)
  funext row j
  rw [rest_r _ hi]
  have em : mn (FR S t i) i = mn S i := by unfold mn; rw [f1, f0]
  rw [em, f4]
  simp only [thr, FR_thr]
  by_cases hj : j = i
  · subst hj
    by_cases h : D_X2_isThere S (nI j) = 0
    · unfold FR nS nJ nD nR nA
      simp [h, hp, hn, hc, hd, hb]
    · by_cases r1 : row = 1
      · subst r1
        unfold FR nS
        simp [h, hp, hc]
      · by_cases r4 : row = 4
        · subst r4
          unfold FR nR
          simp [h, hp, hc]
        · unfold FR nJ nD nA
          simp [h, hp, hn, hc, hd, r1, r4, hb]
  · unfold FR
    simp [hj, hp, hd]

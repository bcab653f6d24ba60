/-! the two who would meet: they dance, or are left alone -/
theorem pd_two {t i : Nat} (ht : t < 9) (hi : i < 9) (hb : i < cn t i) (j : Nat) : pd t (i + 1) j ↔ (pd t i j ∨ j = i ∨ j = cn t i) := by
  have hb9 := cn_ok t ht i hi
  constructor
  · rintro ⟨h1, h2⟩
    have e := cn_ok t ht j h1
    by_cases h3 : j = i
    · exact Or.inr (Or.inl h3)
    · by_cases h4 : cn t j = i
      · right; right
        rw [← h4]; exact e.2.symm
      · left
        exact ⟨h1, by omega⟩
  · rintro (⟨h1, h2⟩ | rfl | rfl)
    · exact ⟨h1, by omega⟩
    · exact ⟨hi, by omega⟩
    · exact ⟨hb9.1, Or.inr (by rw [hb9.2]; omega)⟩
theorem pd_no1 (t i : Nat) (hb : i ≤ cn t i) : ¬ pd t i i := fun q => by have := q.2; omega
theorem pd_no2 {t i : Nat} (ht : t < 9) (hi : i < 9) (hb : i < cn t i) : ¬ pd t i (cn t i) := fun q => by
  have := q.2
  rw [(cn_ok t ht i hi).2] at this
  omega
theorem FR_un {S : Nat → Nat → Int32} {t i j row : Nat} (h : ¬ pd t i j) (r7 : row ≠ 7) (r8 : row ≠ 8) : FR S t i row j = S row j := by
  unfold FR
  simp [h, r7, r8]
  (repeat' split) <;> first | rfl | (subst_vars; rfl)
theorem step_alone (S : Nat → Nat → Int32) {t i : Nat} (ht : t < 9) (hi : i < 9) (hb : i < cn t i) (hc : ¬ cand S t i) : D_X2_leaveAlone (D_X2_leaveAlone (FR S t i) (nI i)) (nI (cn t i)) = FR S t (i + 1) := by
  have hb9 := cn_ok t ht i hi
  have n1 := pd_no1 t i (Nat.le_of_lt hb)
  have n2 := pd_no2 ht hi hb
  have hp := pd_two ht hi hb
  have hc2 : ¬ cand S t (cn t i) := fun q => hc (by have := cand_sym ht hb9.1 q; rw [hb9.2] at this; exact this)
  have hd : ∀ j, dp S t (i + 1) j ↔ dp S t i j := fun j => by
    constructor
    · rintro ⟨h1, h2, h3, h4, h5⟩
      refine ⟨h1, ?_, h3, h4, h5⟩
      by_cases h6 : j / 9 = i
      · rw [h6] at h5; exact absurd h5 hc
      · omega
    · rintro ⟨h1, h2, h3⟩; exact ⟨h1, by omega, h3⟩
  have hne : cn t i ≠ i := by omega
  have f0 : ∀ j, FR S t i 0 j = S 0 j := fun j => FR_o (by decide) (by decide) (by decide) (by decide) (by decide) (by decide) (by decide)
  have f10 : FR S t i 10 0 = S 10 0 := FR_o (by decide) (by decide) (by decide) (by decide) (by decide) (by decide) (by decide)
  have x10 : D_X2_leaveAlone (FR S t i) (nI i) 10 0 = S 10 0 := by rw [alone_r _ hi]; simp [f10]
  have xt : D_X2_isThere (D_X2_leaveAlone (FR S t i) (nI i)) (nI (cn t i)) = D_X2_isThere S (nI (cn t i)) := thr_congr x10 _
  have e1 : mn (FR S t i) i = mn S i := by unfold mn; rw [FR_un n1 (by decide) (by decide), f0]
  have e2 : mn (D_X2_leaveAlone (FR S t i) (nI i)) (cn t i) = mn S (cn t i) := by
    unfold mn
    rw [alone_r _ hi, alone_r _ hi]
    simp [hne, f0, FR_un n2 (show 1 ≠ 7 by decide) (show 1 ≠ 8 by decide)]
  have e4 : D_X2_leaveAlone (FR S t i) (nI i) 4 (cn t i) = S 4 (cn t i) := by
    rw [alone_r _ hi]
    simp [hne, FR_un n2 (show 4 ≠ 7 by decide) (show 4 ≠ 8 by decide)]
  have e5 : D_X2_leaveAlone (FR S t i) (nI i) 5 (cn t i) = S 5 (cn t i) := by
    rw [alone_r _ hi]
    simp [hne, FR_un n2 (show 5 ≠ 7 by decide) (show 5 ≠ 8 by decide)]
  funext row j
  rw [alone_r _ hb9.1, e2, e4, e5]
  simp only [thr, xt]
  rw [alone_r _ hi, e1, FR_un n1 (show 4 ≠ 7 by decide) (show 4 ≠ 8 by decide), FR_un n1 (show 5 ≠ 7 by decide) (show 5 ≠ 8 by decide)]
  simp only [thr, FR_thr]
  by_cases h7 : row = 7
  · subst h7; unfold FR; simp [hd]
  · by_cases h8 : row = 8
    · subst h8; unfold FR; simp [hd]
    · by_cases j1 : j = i
      · subst j1
        have hj2 : ¬ j = cn t j := fun q => hne q.symm
        have hpt : pd t (j + 1) j := (hp j).mpr (Or.inr (Or.inl rfl))
        rw [FR_un n1 h7 h8]
        unfold FR nS nJ nD nR nA
        simp only [if_pos hpt, if_neg hc, h7, h8, if_false]
        by_cases h : D_X2_isThere S (nI j) = 0
        · simp [h, hj2]
          (repeat' split) <;> first | rfl | (subst_vars; rfl) | simp_all
        · simp [h, hj2, hne]
          (repeat' split) <;> first | rfl | (subst_vars; rfl) | (simp only [*]; done) | simp_all
      · by_cases j2 : j = cn t i
        · subst j2
          have hpt : pd t (i + 1) (cn t i) := (hp _).mpr (Or.inr (Or.inr rfl))
          rw [FR_un n2 h7 h8]
          unfold FR nS nJ nD nR nA
          simp only [if_pos hpt, if_neg hc2, h7, h8, if_false]
          by_cases h : D_X2_isThere S (nI (cn t i)) = 0
          · simp [h, hne]
            (repeat' split) <;> first | rfl | (subst_vars; rfl) | simp_all
          · simp [h, hne, hb9.2]
            clear hd hp hb9 x10 xt e1 e2 e4 e5 ht hi hb f0 f10 n1 n2 hc
            (repeat' split) <;> first | rfl | (subst_vars; rfl) | (exfalso; omega)
        · have hpe : pd t (i + 1) j ↔ pd t i j := by rw [hp]; simp [j1, j2]
          simp only [j1, j2, false_and, and_false, if_false]
          unfold FR
          simp only [hpe, hd]
theorem step_dance (S : Nat → Nat → Int32) {t i : Nat} (ht : t < 9) (hi : i < 9) (hb : i < cn t i) (hc : cand S t i) : D_X2_dance (FR S t i) (nI i) (nI (cn t i)) = FR S t (i + 1) := by
  have hb9 := cn_ok t ht i hi
  have n1 := pd_no1 t i (Nat.le_of_lt hb)
  have n2 := pd_no2 ht hi hb
  have hp := pd_two ht hi hb
  have hc2 := cand_sym ht hi hc
  have hpx := px_at i hi (cn t i) hb9.1 hb
  have hd : ∀ j, dp S t (i + 1) j ↔ (dp S t i j ∨ j = px i (cn t i)) := fun j => by
    constructor
    · rintro ⟨h1, h2, h3, h4, h5⟩
      by_cases h6 : j / 9 = i
      · right
        rw [h6] at h4
        rw [← at_px j h1 h3, h6, h4]
      · left
        exact ⟨h1, by omega, h3, h4, h5⟩
    · rintro (⟨h1, h2, h3⟩ | rfl)
      · exact ⟨h1, by omega, h3⟩
      · refine ⟨hpx.2.2, by omega, by omega, ?_, ?_⟩
        · rw [hpx.1, hpx.2.1]
        · rw [hpx.1]; exact hc
  have hnd : ¬ dp S t i (px i (cn t i)) := fun q => by have := q.2.1; omega
  have hne : cn t i ≠ i := by omega
  have f0 : ∀ j, FR S t i 0 j = S 0 j := fun j => FR_o (by decide) (by decide) (by decide) (by decide) (by decide) (by decide) (by decide)
  have f6 : ∀ j, FR S t i 6 j = S 6 j := fun j => FR_o (by decide) (by decide) (by decide) (by decide) (by decide) (by decide) (by decide)
  have f10 : FR S t i 10 1 = S 10 1 := FR_o (by decide) (by decide) (by decide) (by decide) (by decide) (by decide) (by decide)
  funext row j
  rw [dance_r _ hi hb9.1 (fun q => hne q.symm), f0, f0, f6, f10]
  by_cases h7 : row = 7
  · subst h7
    by_cases hj : j = px i (cn t i)
    · subst hj; unfold FR; simp [hd, hnd]
    · unfold FR; simp [hd, hj]
  · by_cases h8 : row = 8
    · subst h8
      by_cases hj : j = px i (cn t i)
      · subst hj; unfold FR; simp [hd]
      · unfold FR; simp [hd, hj]
    · by_cases j1 : j = i
      · subst j1
        have hpt : pd t (j + 1) j := (hp j).mpr (Or.inr (Or.inl rfl))
        rw [FR_un n1 (show 1 ≠ 7 by decide) (show 1 ≠ 8 by decide), FR_un n1 (show 2 ≠ 7 by decide) (show 2 ≠ 8 by decide), FR_un n1 (show 3 ≠ 7 by decide) (show 3 ≠ 8 by decide), FR_un n1 h7 h8]
        unfold FR nS nJ nD nR nA
        simp only [if_pos hpt, if_pos hc, h7, h8, if_false]
        simp
        (repeat' split) <;> first | rfl | (subst_vars; rfl) | simp_all
      · by_cases j2 : j = cn t i
        · subst j2
          have hpt : pd t (i + 1) (cn t i) := (hp _).mpr (Or.inr (Or.inr rfl))
          rw [FR_un n2 (show 1 ≠ 7 by decide) (show 1 ≠ 8 by decide), FR_un n2 (show 2 ≠ 7 by decide) (show 2 ≠ 8 by decide), FR_un n2 (show 3 ≠ 7 by decide) (show 3 ≠ 8 by decide), FR_un n2 h7 h8]
          unfold FR nS nJ nD nR nA
          simp only [if_pos hpt, if_pos hc2, h7, h8, if_false, hb9.2]
          have hsym : px (cn t i) i = px i (cn t i) := ((px_ok i hi (cn t i) hb9.1).2.2).symm
          rw [hsym]
          simp
          (repeat' split) <;> first | rfl | (subst_vars; rfl) | simp_all
        · have hpe : pd t (i + 1) j ↔ pd t i j := by rw [hp]; simp [j1, j2]
          simp only [j1, j2, false_or, false_and, if_false, h7, h8, and_false]
          unfold FR
          simp only [hpe, h7, h8, if_false]
/-- how many pairs dance -/
def pc (S : Nat → Nat → Int32) (t : Nat) : Nat → Nat
  | 0 => 0
  | i + 1 => pc S t i + (if i < cn t i ∧ cand S t i then 1 else 0)
theorem pc_le (S : Nat → Nat → Int32) (t : Nat) : ∀ i, pc S t i ≤ i := by
  intro i
  induction i with
  | zero => exact Nat.le_refl 0
  | succ i ih => unfold pc; split <;> omega
theorem FR_0 (S : Nat → Nat → Int32) (t : Nat) : FR S t 0 = S := by
  funext row j
  unfold FR
  have h1 : ¬ pd t 0 j := fun q => by have := q.2; omega
  have h2 : ¬ dp S t 0 j := fun q => by have := q.2.1; omega
  simp only [if_neg h1, if_neg h2]
  (repeat' split) <;> first | rfl | (subst_vars; rfl) | simp_all
theorem wd_iff (S X : Nat → Nat → Int32) {t i : Nat} (hi : i < 9) (hb9 : cn t i < 9) (hne : cn t i ≠ i) (h10 : X 10 0 = S 10 0) (h0 : X 0 0 = S 0 0) (h1 : X 1 i = S 1 i) (h2 : X 1 (cn t i) = S 1 (cn t i)) : D_X2_wouldDance X (nI i) (nI (cn t i)) = 0 ↔ ¬ cand S t i := by
  unfold D_X2_wouldDance
  rw [thr_congr h10, thr_congr h10, clamp9 hi, clamp9 hb9, show (0 : Int32).toNatClampNeg = 0 from rfl, h0, h1, h2]
  unfold cand thr
  (repeat' split) <;> simp_all
theorem round_L (S : Nat → Nat → Int32) {n : Nat} (hn : n < 1000) : ∀ (fu i : Nat), i ≤ 9 → 10 ≤ i + fu → L_X2_danceRound_4 S (nI n) fu (nI i) (nI (pc S (n % 9) i)) (FR S (n % 9) i) = (nI (pc S (n % 9) 9), FR S (n % 9) 9) := by
  have ht : n % 9 < 9 := Nat.mod_lt _ (by decide)
  generalize ht' : n % 9 = t at ht
  intro fu
  induction fu with
  | zero => intro i h1 h2; exact absurd h2 (by omega)
  | succ fu ih =>
    intro i h1 h2
    rw [L_X2_danceRound_4]
    by_cases c : (9 : Int32) ≤ nI i
    · rw [if_pos c]
      have h9 : 9 ≤ i := (nI_leI (by decide) (by omega)).mp c
      obtain rfl : i = 9 := by omega
      rfl
    · have hi : i < 9 := my_lt rfl (show (9 : Int32) = nI 9 from rfl) (by decide) h1 c
      rw [if_neg c, cp_eq hi hn, ht', nI_1]
      have hb9 := cn_ok t ht i hi
      have ih1 := ih (i + 1) (by omega) (by omega)
      by_cases e1 : cn t i = i
      · rw [if_pos (by rw [e1]), step_sit S ht hi e1]
        rw [← ih1]
        rw [show pc S t (i + 1) = pc S t i from by show pc S t i + (if i < cn t i ∧ cand S t i then 1 else 0) = _; rw [if_neg (fun q => by have := q.1; omega)]; rfl]
      · have e1' : ¬ nI i = nI (cn t i) := fun q => e1 ((nI_eq (by omega) (by omega)).mp q).symm
        rw [if_neg e1']
        by_cases e2 : cn t i < i
        · have e2' : nI (cn t i) ≤ nI i := nI_le (by omega) (by omega)
          rw [if_pos e2', if_pos e2', step_old S ht hi e2, ← ih1]
          rw [show pc S t (i + 1) = pc S t i from by show pc S t i + (if i < cn t i ∧ cand S t i then 1 else 0) = _; rw [if_neg (fun q => by have := q.1; omega)]; rfl]
        · have e3 : i < cn t i := by omega
          have e2' : ¬ nI (cn t i) ≤ nI i := nI_ge e3 (by omega)
          rw [if_neg e2', if_neg e2']
          have hw := wd_iff S (FR S t i) (t := t) hi hb9.1 e1 (FR_o (by decide) (by decide) (by decide) (by decide) (by decide) (by decide) (by decide)) (FR_o (by decide) (by decide) (by decide) (by decide) (by decide) (by decide) (by decide)) (FR_un (pd_no1 t i (by omega)) (by decide) (by decide)) (FR_un (pd_no2 ht hi e3) (by decide) (by decide))
          by_cases hc : cand S t i
          · rw [if_neg (fun q => (hw.mp q) hc), step_dance S ht hi e3 hc, nI_1, ← ih1]
            rw [show pc S t (i + 1) = pc S t i + 1 from by show pc S t i + (if i < cn t i ∧ cand S t i then 1 else 0) = _; rw [if_pos ⟨e3, hc⟩]]
          · rw [if_pos (hw.mpr hc), step_alone S ht hi e3 hc, ← ih1]
            rw [show pc S t (i + 1) = pc S t i from by show pc S t i + (if i < cn t i ∧ cand S t i then 1 else 0) = _; rw [if_neg (fun q => hc q.2)]; rfl]
/-- the state behind a round -/
def RS (S : Nat → Nat → Int32) (n : Nat) : Nat → Nat → Int32 := fun row j =>
  if row = 9 ∧ j = n % 9 then S 9 (n % 9) + 1 else if row = 10 ∧ j = 1 then S 10 1 + 1 else if row = 10 ∧ j = 2 then nI n else FR S (n % 9) 9 row j
theorem round_eq (S : Nat → Nat → Int32) {n : Nat} (hn : n < 1000) : D_X2_danceRound S (nI n) = (nI (pc S (n % 9) 9), RS S n) := by
  have e := round_L S hn 10 0 (by omega) (by omega)
  rw [FR_0, show nI (pc S (n % 9) 0) = 0 from rfl, show nI 0 = 0 from rfl] at e
  have hr : (D_X3_remainderOf (nI n)).toNatClampNeg = n % 9 := by
    have h : D_X3_remainderOf (nI n) = nI (n % 9) := by
      apply Int32.toInt_inj.mp
      rw [ti_remainderOf, nI_toInt (by omega), nI_toInt (by omega)]
      omega
    rw [h]
    exact nI_clamp (by omega)
  unfold D_X2_danceRound
  rw [e]
  unfold T_X2_danceRound_3 T_X2_danceRound_2 T_X2_danceRound_1
  rw [hr]
  have f9 : FR S (n % 9) 9 9 (n % 9) = S 9 (n % 9) := FR_o (by decide) (by decide) (by decide) (by decide) (by decide) (by decide) (by decide)
  have f10 : FR S (n % 9) 9 10 1 = S 10 1 := FR_o (by decide) (by decide) (by decide) (by decide) (by decide) (by decide) (by decide)
  refine Prod.ext rfl ?_
  funext row j
  show s2 (s2 (s2 (FR S (n % 9) 9) 9 (n % 9) (FR S (n % 9) 9 9 (n % 9) + 1)) 10 2 (nI n)) 10 1 (s2 (s2 (FR S (n % 9) 9) 9 (n % 9) (FR S (n % 9) 9 9 (n % 9) + 1)) 10 2 (nI n) 10 1 + 1) row j = RS S n row j
  unfold RS
  rw [f9]
  simp only [s2_ap, f10]
  by_cases r9 : row = 9
  · subst r9; simp
  · by_cases r10 : row = 10
    · subst r10
      by_cases j1 : j = 1
      · subst j1; simp [f10]
      · by_cases j2 : j = 2
        · subst j2; simp
        · simp [j1, j2]
    · simp [r9, r10]

/-! the round, place by place -/
section RSF
variable (S : Nat → Nat → Int32) (v : Nat)
theorem RS_o {row j : Nat} (h : row ≠ 9) (h2 : row ≠ 10) : RS S v row j = FR S (v % 9) 9 row j := by
  unfold RS
  simp [h, h2]
theorem pd9 {t j : Nat} (hj : j < 9) : pd t 9 j := ⟨hj, Or.inl hj⟩
theorem RS_0 (j : Nat) : RS S v 0 j = S 0 j := by rw [RS_o S v (by decide) (by decide)]; exact FR_o (by decide) (by decide) (by decide) (by decide) (by decide) (by decide) (by decide)
theorem RS_6 (j : Nat) : RS S v 6 j = S 6 j := by rw [RS_o S v (by decide) (by decide)]; exact FR_o (by decide) (by decide) (by decide) (by decide) (by decide) (by decide) (by decide)
theorem RS_1 {j : Nat} (hj : j < 9) : RS S v 1 j = nS S (v % 9) j := by rw [RS_o S v (by decide) (by decide)]; unfold FR; simp [hj]
theorem RS_2 {j : Nat} (hj : j < 9) : RS S v 2 j = nJ S (v % 9) j := by rw [RS_o S v (by decide) (by decide)]; unfold FR; simp [hj]
theorem RS_3 {j : Nat} (hj : j < 9) : RS S v 3 j = nD S (v % 9) j := by rw [RS_o S v (by decide) (by decide)]; unfold FR; simp [hj]
theorem RS_4 {j : Nat} (hj : j < 9) : RS S v 4 j = nR S (v % 9) j := by rw [RS_o S v (by decide) (by decide)]; unfold FR; simp [hj]
theorem RS_5 {j : Nat} (hj : j < 9) : RS S v 5 j = nA S (v % 9) j := by rw [RS_o S v (by decide) (by decide)]; unfold FR; simp [hj]
theorem RS_7 (j : Nat) : RS S v 7 j = if dp S (v % 9) 9 j then S 7 j + 1 else S 7 j := by rw [RS_o S v (by decide) (by decide)]; rfl
theorem RS_8 (j : Nat) : RS S v 8 j = if dp S (v % 9) 9 j then S 10 1 else S 8 j := by rw [RS_o S v (by decide) (by decide)]; rfl
theorem RS_9 (j : Nat) : RS S v 9 j = if j = v % 9 then S 9 j + 1 else S 9 j := by
  unfold RS
  by_cases h : j = v % 9
  · subst h; simp
  · rw [if_neg (fun q => h q.2), if_neg (fun q => absurd q.1 (by decide)), if_neg (fun q => absurd q.1 (by decide)), if_neg h]
    exact FR_o (row := 9) (by decide) (by decide) (by decide) (by decide) (by decide) (by decide) (by decide)
theorem RS_100 : RS S v 10 0 = S 10 0 := by
  unfold RS
  rw [if_neg (fun q => absurd q.1 (by decide)), if_neg (fun q => absurd q.2 (by decide)), if_neg (fun q => absurd q.2 (by decide))]
  exact FR_o (row := 10) (by decide) (by decide) (by decide) (by decide) (by decide) (by decide) (by decide)
theorem RS_101 : RS S v 10 1 = S 10 1 + 1 := by
  unfold RS
  simp
theorem RS_102 : RS S v 10 2 = nI v := by
  unfold RS
  simp
theorem RS_thr (w : Int32) : D_X2_isThere (RS S v) w = D_X2_isThere S w := thr_congr (RS_100 S v) w
end RSF
theorem dp_at {S : Nat → Nat → Int32} {t : Nat} : ∀ a, a < 9 → ∀ b, b < 9 → a < b → (dp S t 9 (px a b) ↔ cn t a = b ∧ cand S t a) := by
  intro a ha b hb hab
  obtain ⟨h1, h2, h3⟩ := px_at a ha b hb hab
  unfold dp
  rw [h1, h2]
  constructor
  · rintro ⟨-, -, -, q4, q5⟩; exact ⟨q4, q5⟩
  · rintro ⟨q4, q5⟩; exact ⟨h3, ha, hab, q4, q5⟩
theorem px_sw (a b : Nat) : px a b = px b a := by
  unfold px
  by_cases h : a = b
  · subst h; rfl
  · by_cases h2 : b ≤ a
    · rw [if_pos h2, if_neg (by omega)]
    · rw [if_neg h2, if_pos (by omega)]
theorem dp_px {S : Nat → Nat → Int32} {t : Nat} (ht : t < 9) {a b : Nat} (ha : a < 9) (hb : b < 9) (hab : a ≠ b) : dp S t 9 (px a b) ↔ cn t a = b ∧ cand S t a := by
  by_cases h : a < b
  · exact dp_at a ha b hb h
  · rw [px_sw, dp_at b hb a ha (by omega)]
    constructor
    · rintro ⟨h1, h2⟩
      have e := (cn_ok t ht b hb).2
      have c := cand_sym ht hb h2
      rw [h1] at e c
      exact ⟨e, c⟩
    · rintro ⟨h1, h2⟩
      have e := (cn_ok t ht a ha).2
      have c := cand_sym ht ha h2
      rw [h1] at e c
      exact ⟨e, c⟩
theorem cand_thr {S : Nat → Nat → Int32} {t k : Nat} (h : cand S t k) : thr S k := h.2.1
theorem i0_le {x y : Int32} : x ≤ y ↔ x.toInt ≤ y.toInt := Int32.le_iff_toInt_le
theorem mn_ok {S : Nat → Nat → Int32} {k : Nat} (h1 : 0 ≤ (S 0 1).toInt ∧ (S 0 1).toInt ≤ 9) (h2 : 0 ≤ (S 1 k).toInt ∧ (S 1 k).toInt ≤ 20) : 0 ≤ (mn S k).toInt ∧ (mn S k).toInt ≤ 20 := by
  unfold mn
  have e := ti_addB (x := S 1 k) (y := S 0 1) h2.1 (by omega) h1.1 (by omega)
  have e20 : (20 : Int32).toInt = 20 := rfl
  split
  · rw [e20]; omega
  · rename_i h
    rw [Int32.lt_iff_toInt_lt, e, e20] at h
    rw [e]; omega
theorem Inv.round {n : Nat} {S : Nat → Nat → Int32} (h : Inv n S) (hn : n ≤ 100) (v : Nat) : Inv (n + 1) (RS S v) := by
  have ht : v % 9 < 9 := Nat.mod_lt _ (by decide)
  obtain ⟨h1, h2, h3, h4, h5, h6, h7, h8, h9⟩ := h
  have eR : (S 10 1 + 1).toInt = (S 10 1).toInt + 1 := ti_inc h2.1 (by omega)
  refine ⟨by rw [RS_100]; exact h1, by rw [RS_101, eR]; omega, by rw [RS_0, RS_0]; exact h3, fun k hk => ?_, fun k hk => ?_, fun j hj => ?_, fun k hk => ?_, fun a ha => ?_, ?_⟩
  · rw [RS_1 S v hk]
    unfold nS
    split
    · rename_i c
      have c4 := c.2.2.2.1
      rw [Int32.lt_iff_toInt_lt] at c4
      have := h4 k hk
      rw [ti_subB this.1 (by omega) h3.1 (by omega)]
      omega
    · split
      · exact mn_ok ⟨h3.2.2.1, h3.2.2.2⟩ (h4 k hk)
      · exact h4 k hk
  · rw [RS_3 S v hk, RS_4 S v hk, RS_5 S v hk, RS_101, eR]
    obtain ⟨q1, q2, q3, q4⟩ := h5 k hk
    have e3 := ti_inc (x := S 3 k) q1 (by omega)
    have e4 := ti_inc (x := S 4 k) (by omega) (by omega)
    have e5 := ti_inc (x := S 5 k) q2 (by omega)
    unfold nD nR nA
    by_cases c : cand S (v % 9) k
    · simp only [if_pos c]
      rw [e3]
      omega
    · simp only [if_neg c]
      by_cases c2 : thr S k
      · simp only [if_pos c2]
        rw [e4]
        split
        · rw [e5]; omega
        · omega
      · simp only [if_neg c2, if_neg (show ¬ (thr S k ∧ cn (v % 9) k ≠ k) from fun q => c2 q.1)]
        omega
  · rw [RS_7, RS_8, RS_9]
    obtain ⟨q1, q2, q3, q4⟩ := h6 j hj
    have q7 := h7 ((j / 9 + j % 9) % 9) (Nat.mod_lt _ (by decide))
    by_cases d : dp S (v % 9) 9 j
    · have e7 := ti_inc (x := S 7 j) q1 (by omega)
      have ec : (j / 9 + j % 9) % 9 = v % 9 := by
        have := d.2.2.2.1
        unfold cn at this
        omega
      rw [if_pos d, if_pos d, if_pos ec, ti_inc q7.1 (by omega), e7]
      refine ⟨by omega, by omega, fun _ => ⟨fun e => ?_, fun e => ?_⟩, fun e => absurd d.2.2.1 e⟩
      · rw [e] at e7
        have : (0 : Int32).toInt = 0 := rfl
        omega
      · rw [e] at h2
        exact absurd h2.1 (by decide)
    · rw [if_neg d, if_neg d]
      refine ⟨q1, ?_, q3, q4⟩
      split
      · rw [ti_inc q7.1 (by omega)]; omega
      · exact q2
  · rw [RS_9, RS_101, eR]
    have := h7 k hk
    split
    · rw [ti_inc this.1 (by omega)]; omega
    · omega
  · rw [RS_3 S v ha]
    have e : ∀ b, b < 9 → dw (RS S v) a b = dw S a b + (if b = cn (v % 9) a then (if cand S (v % 9) a then 1 else 0) else 0) := fun b hb => by
      unfold dw
      by_cases hb2 : b = a
      · rw [if_pos hb2, if_pos hb2]
        by_cases h3 : b = cn (v % 9) a
        · rw [if_pos h3, if_neg (fun q => q.1 (by rw [← h3, hb2]))]; rfl
        · rw [if_neg h3]; rfl
      · rw [if_neg hb2, if_neg hb2, RS_7]
        have hd := dp_px (S := S) ht ha hb (fun q => hb2 q.symm)
        by_cases h3 : cn (v % 9) a = b
        · rw [if_pos h3.symm]
          by_cases c : cand S (v % 9) a
          · rw [if_pos (hd.mpr ⟨h3, c⟩), if_pos c]
          · rw [if_neg (fun q => c (hd.mp q).2), if_neg c]; simp
        · rw [if_neg (fun q => h3 (hd.mp q).1), if_neg (fun q => h3 q.symm)]; simp
    rw [sm_congr 9 e, sm_add, h8 a ha, sm_one (n := 0) (a := cn (v % 9) a), if_pos (cn_ok _ ht a ha).1]
    unfold nD
    split
    · rfl
    · simp
  · have e : ∀ k, k < 9 → RS S v 9 k = S 9 k + (if k = v % 9 then 1 else 0) := fun k hk => by
      rw [RS_9]
      split
      · rfl
      · simp
    rw [sm_congr 9 e, sm_add, h9, sm_one (n := 0) (a := v % 9), if_pos ht, RS_101]
/-- the pairs that dance, told by villagers -/
def ci (S : Nat → Nat → Int32) (t k : Nat) : Nat := if cand S t k then 1 else 0
theorem two_pc (S : Nat → Nat → Int32) {t : Nat} (ht : t < 9) : 2 * pc S t 9 = ci S t 0 + ci S t 1 + ci S t 2 + ci S t 3 + ci S t 4 + ci S t 5 + ci S t 6 + ci S t 7 + ci S t 8 := by
  have hs : ∀ k, k < 9 → ci S t (cn t k) = ci S t k := fun k hk => by
    unfold ci
    by_cases c : cand S t k
    · rw [if_pos c, if_pos (cand_sym ht hk c)]
    · rw [if_neg c, if_neg (fun q => c (by have := cand_sym ht (cn_ok t ht k hk).1 q; rw [(cn_ok t ht k hk).2] at this; exact this))]
  have hz : ∀ k, cn t k = k → ci S t k = 0 := fun k hk => by
    unfold ci
    rw [if_neg (fun q => q.1 hk)]
  have hp : ∀ i, pc S t (i + 1) = pc S t i + (if i < cn t i then ci S t i else 0) := fun i => by
    show pc S t i + (if i < cn t i ∧ cand S t i then 1 else 0) = _
    unfold ci
    by_cases h1 : i < cn t i
    · by_cases h2 : cand S t i
      · rw [if_pos ⟨h1, h2⟩, if_pos h1, if_pos h2]
      · rw [if_neg (fun q => h2 q.2), if_pos h1, if_neg h2]
    · rw [if_neg (fun q => h1 q.1), if_neg h1]
  have h0 := hs 0 (by decide); have h1 := hs 1 (by decide); have h2 := hs 2 (by decide); have h3 := hs 3 (by decide); have h4 := hs 4 (by decide)
  have h5 := hs 5 (by decide); have h6 := hs 6 (by decide); have h7 := hs 7 (by decide); have h8 := hs 8 (by decide)
  rw [hp 8, hp 7, hp 6, hp 5, hp 4, hp 3, hp 2, hp 1, hp 0, show pc S t 0 = 0 from rfl]
  generalize hc : ci S t = c at *
  clear hs hp hc
  obtain rfl | rfl | rfl | rfl | rfl | rfl | rfl | rfl | rfl : t = 0 ∨ t = 1 ∨ t = 2 ∨ t = 3 ∨ t = 4 ∨ t = 5 ∨ t = 6 ∨ t = 7 ∨ t = 8 := by omega
  · have := hz 0 rfl; simp [cn] at *; omega
  · have := hz 5 rfl; simp [cn] at *; omega
  · have := hz 1 rfl; simp [cn] at *; omega
  · have := hz 6 rfl; simp [cn] at *; omega
  · have := hz 2 rfl; simp [cn] at *; omega
  · have := hz 7 rfl; simp [cn] at *; omega
  · have := hz 3 rfl; simp [cn] at *; omega
  · have := hz 8 rfl; simp [cn] at *; omega
  · have := hz 4 rfl; simp [cn] at *; omega

/-! bits -/
def bt (m k : Nat) : Nat := if m.testBit k then 1 else 0
theorem bt_01 (m k : Nat) : bt m k = 0 ∨ bt m k = 1 := by unfold bt; split <;> simp
def bsum (m : Nat) : Nat := bt m 0 + bt m 1 + bt m 2 + bt m 3 + bt m 4 + bt m 5 + bt m 6 + bt m 7 + bt m 8
theorem th_bit : ∀ m, m < 512 → ∀ k, k < 9 → (if (nI m &&& (1 <<< (nI k &&& 31))) = 0 then (0 : Int32) else 1) = nI (bt m k) := by decide +kernel
theorem xor_bit : ∀ m, m < 512 → ∀ k, k < 9 → nI m ^^^ (1 <<< (nI k &&& 31)) = nI (m ^^^ 2 ^ k) := by decide +kernel
theorem xor_lt : ∀ m, m < 512 → ∀ k, k < 9 → m ^^^ 2 ^ k < 512 := by decide +kernel
theorem bc_bit : ∀ m, m < 512 → D_J6_bitCount_0f7a4 (nI m) = nI (bsum m) := by decide +kernel
theorem bt_xor (m k j : Nat) : bt (m ^^^ 2 ^ k) j = if j = k then 1 - bt m k else bt m j := by
  unfold bt
  rw [Nat.testBit_xor, Nat.testBit_two_pow]
  by_cases h : j = k
  · subst h
    rw [if_pos rfl]
    simp
    cases m.testBit j <;> simp
  · rw [if_neg h]
    have : decide (k = j) = false := by simp; exact fun q => h q.symm
    rw [this]
    simp
theorem isT {S : Nat → Nat → Int32} {m : Nat} (hm : m < 512) (e : S 10 0 = nI m) {k : Nat} (hk : k < 9) : D_X2_isThere S (nI k) = nI (bt m k) := by
  unfold D_X2_isThere
  rw [e]
  exact th_bit m hm k hk
/-! the dance of doubled numbers -/
def dbl (k : Nat) : Nat := 2 * k % 9
theorem dbl_lt (k : Nat) : dbl k < 9 := Nat.mod_lt _ (by decide)
theorem dbl_inj : ∀ a, a < 9 → ∀ b, b < 9 → dbl a = dbl b → a = b := by decide
theorem dbl_sur : ∀ a, a < 9 → dbl (5 * a % 9) = a ∧ 5 * a % 9 < 9 := by decide
theorem dbl_cn : ∀ t, t < 9 → ∀ k, k < 9 → cn (dbl t) (dbl k) = dbl (cn t k) := by decide
theorem dbl_ad : ∀ a, a < 9 → ∀ b, b < 9 → (dbl a + dbl b) % 9 = dbl ((a + b) % 9) := by decide
def Rel (S T : Nat → Nat → Int32) : Prop :=
  (∀ j, j < 3 → T 0 j = S 0 j) ∧ T 10 1 = S 10 1 ∧ (∀ k, k < 9 → D_X2_isThere T (nI (dbl k)) = D_X2_isThere S (nI k)) ∧
  (∀ row, 1 ≤ row → row ≤ 5 → ∀ k, k < 9 → T row (dbl k) = S row k) ∧
  (∀ row, 6 ≤ row → row ≤ 8 → ∀ a, a < 9 → ∀ b, b < 9 → a ≠ b → T row (px (dbl a) (dbl b)) = S row (px a b)) ∧
  (∀ k, k < 9 → T 9 (dbl k) = S 9 k)
theorem Rel.cl {S T S' T' : Nat → Nat → Int32} (h : Rel S T) (c : cl S' S) (d : cl T' T) : Rel S' T' := by
  obtain ⟨h1, h2, h3, h4, h5, h6⟩ := h
  refine ⟨fun j hj => ?_, ?_, fun k hk => ?_, fun row r1 r2 k hk => ?_, fun row r1 r2 a ha b hb hab => ?_, fun k hk => ?_⟩
  · rw [c 0 j (by unfold inr; simp [hj]), d 0 j (by unfold inr; simp [hj])]; exact h1 j hj
  · rw [c 10 1 (by unfold inr; simp), d 10 1 (by unfold inr; simp)]; exact h2
  · rw [thr_congr (c 10 0 (by unfold inr; simp)), thr_congr (d 10 0 (by unfold inr; simp))]; exact h3 k hk
  · rw [c row k (by unfold inr; omega), d row _ (by have := dbl_lt k; unfold inr; omega)]; exact h4 row r1 r2 k hk
  · rw [c row _ (by have := px_lt a ha b hb; unfold inr; omega), d row _ (by have := px_lt _ (dbl_lt a) _ (dbl_lt b); unfold inr; omega)]; exact h5 row r1 r2 a ha b hb hab
  · rw [c 9 k (by unfold inr; omega), d 9 _ (by have := dbl_lt k; unfold inr; omega)]; exact h6 k hk
theorem Rel.thr {S T : Nat → Nat → Int32} (h : Rel S T) {k : Nat} (hk : k < 9) : thr T (dbl k) ↔ thr S k := by
  have := h.2.2.1 k hk
  unfold Jvm.Pilot.CNineDancersLaw_law_r3241_ad0611.thr
  rw [this]
theorem Rel.cand {S T : Nat → Nat → Int32} (h : Rel S T) {t k : Nat} (ht : t < 9) (hk : k < 9) : cand T (dbl t) (dbl k) ↔ cand S t k := by
  have hc := (cn_ok t ht k hk).1
  have e1 := h.thr hk
  have e2 := h.thr hc
  have e3 := h.2.2.2.1 1 (by decide) (by decide) k hk
  have e4 := h.2.2.2.1 1 (by decide) (by decide) _ hc
  have e5 := h.1 0 (by decide)
  have e6 : cn (dbl t) (dbl k) ≠ dbl k ↔ cn t k ≠ k := by
    rw [dbl_cn t ht k hk]
    constructor
    · intro q q2; exact q (by rw [q2])
    · intro q q2; exact q (dbl_inj _ hc _ hk q2)
  constructor
  · rintro ⟨q1, q2, q3, q4, q5⟩
    rw [dbl_cn t ht k hk] at q3 q5
    rw [e3, e5] at q4
    rw [e4, e5] at q5
    exact ⟨e6.mp q1, e1.mp q2, e2.mp q3, q4, q5⟩
  · rintro ⟨q1, q2, q3, q4, q5⟩
    refine ⟨e6.mpr q1, e1.mpr q2, ?_, by rw [e3, e5]; exact q4, ?_⟩
    · rw [dbl_cn t ht k hk]; exact e2.mpr q3
    · rw [dbl_cn t ht k hk, e4, e5]; exact q5
theorem Rel.pc {S T : Nat → Nat → Int32} (h : Rel S T) {t : Nat} (ht : t < 9) : pc T (dbl t) 9 = pc S t 9 := by
  have e : ∀ k, k < 9 → ci T (dbl t) (dbl k) = ci S t k := fun k hk => by
    unfold ci
    by_cases c : Jvm.Pilot.CNineDancersLaw_law_r3241_ad0611.cand S t k
    · rw [if_pos c, if_pos ((h.cand ht hk).mpr c)]
    · rw [if_neg c, if_neg (fun q => c ((h.cand ht hk).mp q))]
  have h1 := two_pc S ht
  have h2 := two_pc T (dbl_lt t)
  have e0 := e 0 (by decide); have e1 := e 1 (by decide); have e2 := e 2 (by decide); have e3 := e 3 (by decide); have e4 := e 4 (by decide)
  have e5 := e 5 (by decide); have e6 := e 6 (by decide); have e7 := e 7 (by decide); have e8 := e 8 (by decide)
  simp only [show dbl 0 = 0 from rfl, show dbl 1 = 2 from rfl, show dbl 2 = 4 from rfl, show dbl 3 = 6 from rfl, show dbl 4 = 8 from rfl, show dbl 5 = 1 from rfl, show dbl 6 = 3 from rfl, show dbl 7 = 5 from rfl, show dbl 8 = 7 from rfl] at e0 e1 e2 e3 e4 e5 e6 e7 e8
  omega
theorem Rel.round {S T : Nat → Nat → Int32} (h : Rel S T) {v w : Nat} (hw : w % 9 = dbl (v % 9)) : Rel (RS S v) (RS T w) := by
  have ht : v % 9 < 9 := Nat.mod_lt _ (by decide)
  have hC : ∀ k, k < 9 → (Jvm.Pilot.CNineDancersLaw_law_r3241_ad0611.cand T (dbl (v % 9)) (dbl k) ↔ Jvm.Pilot.CNineDancersLaw_law_r3241_ad0611.cand S (v % 9) k) := fun k hk => h.cand ht hk
  have hT : ∀ k, k < 9 → (Jvm.Pilot.CNineDancersLaw_law_r3241_ad0611.thr T (dbl k) ↔ Jvm.Pilot.CNineDancersLaw_law_r3241_ad0611.thr S k) := fun k hk => h.thr hk
  obtain ⟨h1, h2, h3, h4, h5, h6⟩ := h
  refine ⟨fun j hj => ?_, ?_, fun k hk => ?_, fun row r1 r2 k hk => ?_, fun row r1 r2 a ha b hb hab => ?_, fun k hk => ?_⟩
  · rw [RS_0, RS_0]; exact h1 j hj
  · rw [RS_101, RS_101, h2]
  · rw [RS_thr, RS_thr]; exact h3 k hk
  · have hc := (cn_ok _ ht k hk).1
    have f1 := h4 1 (by decide) (by decide) k hk
    have f2 := h4 2 (by decide) (by decide) k hk
    have f3 := h4 3 (by decide) (by decide) k hk
    have f4 := h4 4 (by decide) (by decide) k hk
    have f5 := h4 5 (by decide) (by decide) k hk
    have hC := hC k hk
    have hT := hT k hk
    have em : mn T (dbl k) = mn S k := by unfold mn; rw [f1, h1 1 (by decide)]
    have en : cn (dbl (v % 9)) (dbl k) ≠ dbl k ↔ cn (v % 9) k ≠ k := by
      rw [dbl_cn _ ht k hk]
      constructor
      · intro q q2; exact q (by rw [q2])
      · intro q q2; exact q (dbl_inj _ hc _ hk q2)
    obtain rfl | rfl | rfl | rfl | rfl : row = 1 ∨ row = 2 ∨ row = 3 ∨ row = 4 ∨ row = 5 := by omega
    · rw [RS_1 S v hk, RS_1 T w (dbl_lt k), hw]
      unfold nS
      simp only [hC, hT, em, f1, h1 0 (by decide)]
    · rw [RS_2 S v hk, RS_2 T w (dbl_lt k), hw]
      unfold nJ
      simp only [hC, f2, h1 2 (by decide)]
      by_cases c : Jvm.Pilot.CNineDancersLaw_law_r3241_ad0611.cand S (v % 9) k
      · rw [if_pos c, if_pos c, dbl_cn _ ht k hk, h5 6 (by decide) (by decide) k hk _ hc (fun q => c.1 q.symm)]
      · rw [if_neg c, if_neg c]
    · rw [RS_3 S v hk, RS_3 T w (dbl_lt k), hw]
      unfold nD
      simp only [hC, f3]
    · rw [RS_4 S v hk, RS_4 T w (dbl_lt k), hw]
      unfold nR
      simp only [hC, hT, f4]
    · rw [RS_5 S v hk, RS_5 T w (dbl_lt k), hw]
      unfold nA
      simp only [hC, hT, f5, en]
  · have hd : dp T (w % 9) 9 (px (dbl a) (dbl b)) ↔ dp S (v % 9) 9 (px a b) := by
      rw [dp_px ht ha hb hab, hw, dp_px (dbl_lt _) (dbl_lt a) (dbl_lt b) (fun q => hab (dbl_inj _ ha _ hb q)), dbl_cn _ ht a ha, hC a ha]
      constructor
      · rintro ⟨q1, q2⟩; exact ⟨dbl_inj _ (cn_ok _ ht a ha).1 _ hb q1, q2⟩
      · rintro ⟨q1, q2⟩; exact ⟨by rw [q1], q2⟩
    have f6 := h5 6 (by decide) (by decide) a ha b hb hab
    have f7 := h5 7 (by decide) (by decide) a ha b hb hab
    have f8 := h5 8 (by decide) (by decide) a ha b hb hab
    obtain rfl | rfl | rfl : row = 6 ∨ row = 7 ∨ row = 8 := by omega
    · rw [RS_6, RS_6]; exact f6
    · rw [RS_7, RS_7]; simp only [hd, f7]
    · rw [RS_8, RS_8]; simp only [hd, f8, h2]
  · rw [RS_9, RS_9, hw, h6 k hk]
    by_cases e : k = v % 9
    · rw [if_pos e, if_pos (by rw [e])]
    · rw [if_neg e, if_neg (fun q => e (dbl_inj _ hk _ ht q))]

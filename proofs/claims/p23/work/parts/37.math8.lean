/-! who has not met, and the remainders of them -/
theorem or_bit : ∀ m, m < 512 → ∀ k, k < 9 → nI m ||| (1 <<< (nI k &&& 31)) = nI (m ||| 2 ^ k) := by decide +kernel
theorem or_lt : ∀ m, m < 512 → ∀ k, k < 9 → m ||| 2 ^ k < 512 := by decide +kernel
theorem bt_or (m k j : Nat) : bt (m ||| 2 ^ k) j = 1 ↔ (j = k ∨ bt m j = 1) := by
  unfold bt
  rw [Nat.testBit_or, Nat.testBit_two_pow]
  by_cases h : j = k
  · subst h; simp
  · simp [h, show ¬ k = j from fun q => h q.symm]
abbrev um (S : Nat → Nat → Int32) (a b : Nat) : Prop := ¬ D_X2_isUnmet S (nI a) (nI b) = 0
theorem um_iff {S : Nat → Nat → Int32} {a b : Nat} (ha : a < 9) (hb : b < 9) : um S a b ↔ thr S a ∧ thr S b ∧ S 7 (px a b) = 0 := by
  unfold um D_X2_isUnmet
  rw [(px_ok a ha b hb).1]
  by_cases h1 : D_X2_isThere S (nI a) = 0
  · rw [if_pos h1]; constructor
    · intro q; exact absurd rfl q
    · intro q; exact absurd h1 q.1
  · rw [if_neg h1]
    by_cases h2 : D_X2_isThere S (nI b) = 0
    · rw [if_pos h2]; constructor
      · intro q; exact absurd rfl q
      · intro q; exact absurd h2 q.2.1
    · rw [if_neg h2]
      by_cases h3 : S 7 (px a b) = 0
      · rw [if_pos h3]; constructor
        · intro _; exact ⟨h1, h2, h3⟩
        · intro _; decide
      · rw [if_neg h3]; constructor
        · intro q; exact absurd rfl q
        · intro q; exact absurd q.2.2 h3
theorem um_sym {S : Nat → Nat → Int32} {a b : Nat} (ha : a < 9) (hb : b < 9) : um S a b ↔ um S b a := by
  rw [um_iff ha hb, um_iff hb ha, px_sw]
  exact ⟨fun q => ⟨q.2.1, q.1, q.2.2⟩, fun q => ⟨q.2.1, q.1, q.2.2⟩⟩
theorem um_dbl {S T : Nat → Nat → Int32} (h : Rel S T) {a b : Nat} (ha : a < 9) (hb : b < 9) (hab : a ≠ b) : um T (dbl a) (dbl b) ↔ um S a b := by
  rw [um_iff ha hb, um_iff (dbl_lt a) (dbl_lt b), h.thr ha, h.thr hb, h.2.2.2.2.1 7 (by decide) (by decide) a ha b hb hab]
theorem lt_of_c {i : Nat} (hi : i ≤ 9) (c : ¬ (9 : Int32) ≤ nI i) : i < 9 := my_lt rfl (show (9 : Int32) = nI 9 from rfl) (by decide) hi c
theorem eq_of_c {i : Nat} (hi : i ≤ 9) (c : (9 : Int32) ≤ nI i) : i = 9 := by
  have := (nI_leI (a := 9) (by decide) (by omega)).mp c
  omega
/-- the OR of the remainders -/
theorem rt_in (S : Nat → Nat → Int32) {a : Nat} (ha : a < 9) (u : Int32) : ∀ fu j m, j ≤ 9 → 10 ≤ j + fu → m < 512 → ∃ w, w < 512 ∧ L_X2_roundsByTrying_14 S (nI a) u fu (nI j) (nI m) = nI w ∧ ∀ r, r < 9 → (bt w r = 1 ↔ (bt m r = 1 ∨ ∃ b, j ≤ b ∧ b < 9 ∧ um S a b ∧ (a + b) % 9 = r)) := by
  intro fu
  induction fu with
  | zero => intro j m h1 h2; exact absurd h2 (by omega)
  | succ fu ih =>
    intro j m h1 h2 hm
    rw [L_X2_roundsByTrying_14]
    by_cases c : (9 : Int32) ≤ nI j
    · rw [if_pos c]
      have := eq_of_c h1 c
      refine ⟨m, hm, rfl, fun r hr => ⟨fun q => Or.inl q, ?_⟩⟩
      rintro (q | ⟨b, q1, q2, -⟩)
      · exact q
      · exact absurd q2 (by omega)
    · rw [if_neg c]
      have hj := lt_of_c h1 c
      by_cases d : D_X2_isUnmet S (nI a) (nI j) = 0
      · rw [if_pos d, nI_1]
        obtain ⟨w, hw, e, f⟩ := ih (j + 1) m (by omega) (by omega) hm
        refine ⟨w, hw, e, fun r hr => (f r hr).trans ?_⟩
        constructor
        · rintro (q | ⟨b, q1, q2, q3⟩)
          · exact Or.inl q
          · exact Or.inr ⟨b, by omega, q2, q3⟩
        · rintro (q | ⟨b, q1, q2, q3, q4⟩)
          · exact Or.inl q
          · refine Or.inr ⟨b, ?_, q2, q3, q4⟩
            by_cases e2 : b = j
            · subst e2; exact absurd d q3
            · omega
      · rw [if_neg d, nI_1]
        have er : D_X3_remainderOf (nI a + nI j) = nI ((a + j) % 9) := by
          apply Int32.toInt_inj.mp
          rw [ti_remainderOf, nI_add, nI_toInt (by omega), nI_toInt (by omega)]
          omega
        rw [er, or_bit m hm _ (Nat.mod_lt _ (by decide))]
        obtain ⟨w, hw, e, f⟩ := ih (j + 1) _ (by omega) (by omega) (or_lt m hm _ (Nat.mod_lt (a + j) (by decide)))
        refine ⟨w, hw, e, fun r hr => (f r hr).trans ?_⟩
        rw [bt_or]
        constructor
        · rintro ((q | q) | ⟨b, q1, q2, q3⟩)
          · exact Or.inr ⟨j, by omega, hj, d, q.symm⟩
          · exact Or.inl q
          · exact Or.inr ⟨b, by omega, q2, q3⟩
        · rintro (q | ⟨b, q1, q2, q3, q4⟩)
          · exact Or.inl (Or.inr q)
          · by_cases e2 : b = j
            · subst e2; exact Or.inl (Or.inl q4.symm)
            · exact Or.inr ⟨b, by omega, q2, q3, q4⟩
theorem rt_out (S : Nat → Nat → Int32) : ∀ fu a m, a ≤ 9 → 10 ≤ a + fu → m < 512 → ∃ w, w < 512 ∧ L_X2_roundsByTrying_4 S fu (nI a) (nI m) = nI w ∧ ∀ r, r < 9 → (bt w r = 1 ↔ (bt m r = 1 ∨ ∃ c b, a ≤ c ∧ c < b ∧ b < 9 ∧ um S c b ∧ (c + b) % 9 = r)) := by
  intro fu
  induction fu with
  | zero => intro j m h1 h2; exact absurd h2 (by omega)
  | succ fu ih =>
    intro a m h1 h2 hm
    rw [L_X2_roundsByTrying_4]
    by_cases c : (9 : Int32) ≤ nI a
    · rw [if_pos c]
      have := eq_of_c h1 c
      refine ⟨m, hm, rfl, fun r hr => ⟨fun q => Or.inl q, ?_⟩⟩
      rintro (q | ⟨c, b, q1, q2, q3, -⟩)
      · exact q
      · exact absurd q2 (by omega)
    · rw [if_neg c]
      have ha := lt_of_c h1 c
      rw [nI_1]
      obtain ⟨w, hw, e, f⟩ := rt_in S ha (nI m) 10 (a + 1) m (by omega) (by omega) hm
      rw [e]
      obtain ⟨w2, hw2, e2, f2⟩ := ih (a + 1) w (by omega) (by omega) hw
      refine ⟨w2, hw2, e2, fun r hr => (f2 r hr).trans ?_⟩
      rw [f r hr]
      constructor
      · rintro ((q | ⟨b, q1, q2, q3⟩) | ⟨c, b, q1, q2⟩)
        · exact Or.inl q
        · exact Or.inr ⟨a, b, by omega, by omega, q2, q3⟩
        · exact Or.inr ⟨c, b, by omega, q2⟩
      · rintro (q | ⟨c, b, q1, q2, q3⟩)
        · exact Or.inl (Or.inl q)
        · by_cases e3 : c = a
          · subst e3; exact Or.inl (Or.inr ⟨b, by omega, q3⟩)
          · exact Or.inr ⟨c, b, by omega, q2, q3⟩
/-- a remainder with a pair that has not met -/
abbrev hu (S : Nat → Nat → Int32) (r : Nat) : Prop := ∃ a, a < 9 ∧ a < cn r a ∧ um S a (cn r a)
theorem hu_L (S : Nat → Nat → Int32) {r : Nat} (hr : r < 9) : ∀ fu i, i ≤ 9 → 10 ≤ i + fu → (L_X2_hasUnmetPair_2 S (nI r) fu (nI i) = 0 ∨ L_X2_hasUnmetPair_2 S (nI r) fu (nI i) = 1) ∧ (¬ L_X2_hasUnmetPair_2 S (nI r) fu (nI i) = 0 ↔ ∃ a, i ≤ a ∧ a < 9 ∧ a < cn r a ∧ um S a (cn r a)) := by
  intro fu
  induction fu with
  | zero => intro j h1 h2; exact absurd h2 (by omega)
  | succ fu ih =>
    intro i h1 h2
    rw [L_X2_hasUnmetPair_2]
    by_cases c : (9 : Int32) ≤ nI i
    · rw [if_pos c]
      have := eq_of_c h1 c
      exact ⟨Or.inl rfl, fun q => absurd rfl q, fun ⟨a, q1, q2, _⟩ => absurd q2 (by omega)⟩
    · rw [if_neg c]
      have hi := lt_of_c h1 c
      rw [cp_eq hi (by omega), Nat.mod_eq_of_lt hr, nI_1]
      have hc := (cn_ok r hr i hi).1
      obtain ⟨f1, f2⟩ := ih (i + 1) (by omega) (by omega)
      by_cases d : nI (cn r i) ≤ nI i
      · rw [if_pos d]
        have d' := (nI_leI (by omega) (by omega)).mp d
        refine ⟨f1, f2.trans ⟨fun ⟨a, q1, q2⟩ => ⟨a, by omega, q2⟩, fun ⟨a, q1, q2, q3, q4⟩ => ⟨a, ?_, q2, q3, q4⟩⟩⟩
        by_cases e : a = i
        · subst e; omega
        · omega
      · rw [if_neg d]
        have d' : i < cn r i := by
          rcases Nat.lt_or_ge i (cn r i) with q | q
          · exact q
          · exact absurd (nI_le q (by omega)) d
        by_cases g : D_X2_isUnmet S (nI i) (nI (cn r i)) = 0
        · rw [if_pos g]
          refine ⟨f1, f2.trans ⟨fun ⟨a, q1, q2⟩ => ⟨a, by omega, q2⟩, fun ⟨a, q1, q2, q3, q4⟩ => ⟨a, ?_, q2, q3, q4⟩⟩⟩
          by_cases e : a = i
          · subst e; exact absurd g q4
          · omega
        · rw [if_neg g]
          exact ⟨Or.inr rfl, fun _ => ⟨i, Nat.le_refl i, hi, d', g⟩, fun _ => by decide⟩
theorem hu_eq (S : Nat → Nat → Int32) {r : Nat} (hr : r < 9) : (D_X2_hasUnmetPair S (nI r) = 0 ∨ D_X2_hasUnmetPair S (nI r) = 1) ∧ (¬ D_X2_hasUnmetPair S (nI r) = 0 ↔ hu S r) := by
  have h := hu_L S hr 10 0 (by omega) (by omega)
  rw [show nI 0 = 0 from rfl] at h
  exact ⟨h.1, h.2.trans ⟨fun ⟨a, _, q⟩ => ⟨a, q⟩, fun ⟨a, q⟩ => ⟨a, Nat.zero_le a, q⟩⟩⟩
theorem rw_L (S : Nat → Nat → Int32) {w : Nat} (hw : ∀ r, r < 9 → (bt w r = 1 ↔ hu S r)) : ∀ fu i, i ≤ 9 → 10 ≤ i + fu → L_X2_remaindersWithUnmetPair_4 S fu (nI i) (nI (sn (bt w) i)) = nI (sn (bt w) 9) := by
  intro fu
  induction fu with
  | zero => intro j h1 h2; exact absurd h2 (by omega)
  | succ fu ih =>
    intro i h1 h2
    rw [L_X2_remaindersWithUnmetPair_4]
    by_cases c : (9 : Int32) ≤ nI i
    · rw [if_pos c]
      have := eq_of_c h1 c
      subst this; rfl
    · rw [if_neg c]
      have hi := lt_of_c h1 c
      have e := hu_eq S hi
      have f := ih (i + 1) (by omega) (by omega)
      rw [nI_1]
      by_cases d : D_X2_hasUnmetPair S (nI i) = 0
      · rw [if_pos d, ← f]
        have : bt w i = 0 := by
          rcases bt_01 w i with q | q
          · exact q
          · exact absurd d (e.2.mpr ((hw i hi).mp q))
        show _ = L_X2_remaindersWithUnmetPair_4 S fu (nI (i + 1)) (nI (sn (bt w) i + bt w i))
        rw [this]; rfl
      · rw [if_neg d, nI_1, ← f]
        have : bt w i = 1 := (hw i hi).mpr (e.2.mp d)
        show _ = L_X2_remaindersWithUnmetPair_4 S fu (nI (i + 1)) (nI (sn (bt w) i + bt w i))
        rw [this]
theorem cn_ad : ∀ r, r < 9 → ∀ a, a < 9 → ∀ b, b < 9 → (cn r a = b ↔ (a + b) % 9 = r) := by decide +kernel
theorem fewest (S : Nat → Nat → Int32) : ∃ w, w < 512 ∧ (∀ r, r < 9 → (bt w r = 1 ↔ hu S r)) ∧ D_X2_remaindersWithUnmetPair S = nI (bsum w) ∧ D_X2_roundsByTrying S = nI (bsum w) := by
  obtain ⟨w, hw, e, f⟩ := rt_out S 10 0 0 (by omega) (by omega) (by decide)
  rw [show nI 0 = 0 from rfl] at e
  have g : ∀ r, r < 9 → (bt w r = 1 ↔ hu S r) := fun r hr => (f r hr).trans (by
    constructor
    · rintro (q | ⟨a, b, -, q2, q3, q4, q5⟩)
      · exact absurd q (by unfold bt; simp)
      · have := (cn_ad r hr a (by omega) b q3).mpr q5
        exact ⟨a, by omega, by omega, by rw [this]; exact q4⟩
    · rintro ⟨a, q1, q2, q3⟩
      exact Or.inr ⟨a, cn r a, Nat.zero_le _, q2, (cn_ok r hr a q1).1, q3, (cn_ad r hr a q1 _ (cn_ok r hr a q1).1).mp rfl⟩)
  refine ⟨w, hw, g, ?_, ?_⟩
  · unfold D_X2_remaindersWithUnmetPair
    have := rw_L S g 10 0 (by omega) (by omega)
    rw [show nI 0 = 0 from rfl, show nI (sn (bt w) 0) = 0 from rfl] at this
    rw [this]
    congr 1
    simp only [sn, bsum]
    omega
  · unfold D_X2_roundsByTrying
    rw [e]
    exact bc_bit w hw
theorem bsum_le (m : Nat) : bsum m ≤ 9 := by
  have := bt_01 m 0; have := bt_01 m 1; have := bt_01 m 2; have := bt_01 m 3; have := bt_01 m 4; have := bt_01 m 5; have := bt_01 m 6; have := bt_01 m 7; have := bt_01 m 8
  unfold bsum
  omega
theorem bsum_dbl {m w : Nat} (h : ∀ k, k < 9 → bt w (dbl k) = bt m k) : bsum w = bsum m := by
  have := sn_dbl h
  simp only [sn] at this
  unfold bsum
  omega
theorem hu_sym {S : Nat → Nat → Int32} {r : Nat} (hr : r < 9) : hu S r ↔ ∃ a, a < 9 ∧ cn r a ≠ a ∧ um S a (cn r a) := by
  constructor
  · rintro ⟨a, q1, q2, q3⟩; exact ⟨a, q1, by omega, q3⟩
  · rintro ⟨a, q1, q2, q3⟩
    have hc := cn_ok r hr a q1
    by_cases h : a < cn r a
    · exact ⟨a, q1, h, q3⟩
    · refine ⟨cn r a, hc.1, by rw [hc.2]; omega, ?_⟩
      rw [hc.2]
      exact (um_sym q1 hc.1).mp q3
theorem hu_dbl {S T : Nat → Nat → Int32} (h : Rel S T) {r : Nat} (hr : r < 9) : hu T (dbl r) ↔ hu S r := by
  rw [hu_sym hr, hu_sym (dbl_lt r)]
  constructor
  · rintro ⟨a, q1, q2, q3⟩
    obtain ⟨e, l⟩ := dbl_sur a q1
    generalize hk : 5 * a % 9 = k at e l
    subst e
    rw [dbl_cn r hr k l] at q2 q3
    have hkc : cn r k ≠ k := fun q => q2 (by rw [q])
    exact ⟨k, l, hkc, (um_dbl h l (cn_ok r hr k l).1 (fun q => hkc q.symm)).mp q3⟩
  · rintro ⟨a, q1, q2, q3⟩
    refine ⟨dbl a, dbl_lt a, ?_, ?_⟩
    · rw [dbl_cn r hr a q1]; exact fun q => q2 (dbl_inj _ (cn_ok r hr a q1).1 _ q1 q)
    · rw [dbl_cn r hr a q1]; exact (um_dbl h q1 (cn_ok r hr a q1).1 (fun q => q2 q.symm)).mpr q3
theorem Rel.fewest {S T : Nat → Nat → Int32} (h : Rel S T) : D_X2_remaindersWithUnmetPair T = D_X2_remaindersWithUnmetPair S := by
  obtain ⟨w, hw, g, e, -⟩ := Jvm.Pilot.CNineDancersLaw_law_r3241_ad0611.fewest S
  obtain ⟨w2, hw2, g2, e2, -⟩ := Jvm.Pilot.CNineDancersLaw_law_r3241_ad0611.fewest T
  rw [e, e2]
  congr 1
  refine bsum_dbl (fun k hk => ?_)
  have f := (g2 _ (dbl_lt k)).trans ((hu_dbl h hk).trans (g k hk).symm)
  have := bt_01 w k; have := bt_01 w2 (dbl k)
  omega

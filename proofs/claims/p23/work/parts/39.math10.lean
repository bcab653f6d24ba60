/-! what a call would bring -/
theorem nI_and (a b : Nat) : nI a &&& nI b = nI (a &&& b) := by
  apply Int32.toBitVec_inj.mp
  rw [Int32.toBitVec_and]
  show BitVec.ofNat 32 a &&& BitVec.ofNat 32 b = BitVec.ofNat 32 (a &&& b)
  exact BitVec.ofNat_and.symm
theorem two_bits : ∀ a, a < 9 → ∀ b, b < 9 → (1 <<< (nI a &&& 31)) ||| (1 <<< (nI b &&& 31)) = nI (2 ^ a ||| 2 ^ b) := by decide +kernel
theorem sn_add (f g : Nat → Nat) : ∀ n, sn (fun k => f k + g k) n = sn f n + sn g n
  | 0 => rfl
  | n + 1 => by
    show sn (fun k => f k + g k) n + (f n + g n) = (sn f n + f n) + (sn g n + g n)
    rw [sn_add f g n]
    omega
theorem sn_one (a x : Nat) : ∀ n, sn (fun k => if k = a then x else 0) n = if a < n then x else 0
  | 0 => by simp [sn]
  | n + 1 => by
    show sn (fun k => if k = a then x else 0) n + (if n = a then x else 0) = _
    rw [sn_one a x n]
    by_cases h : n = a
    · subst h; simp
    · by_cases h2 : a < n
      · rw [if_pos h2, if_neg h, if_pos (by omega)]; rfl
      · rw [if_neg h2, if_neg h, if_neg (by omega)]
theorem bsum_sn (m : Nat) : bsum m = sn (bt m) 9 := by
  simp only [sn, bsum]
  omega
theorem bt_and2 (m a b k : Nat) : bt (m &&& (2 ^ a ||| 2 ^ b)) k = if k = a ∨ k = b then bt m k else 0 := by
  unfold bt
  rw [Nat.testBit_and, Nat.testBit_or, Nat.testBit_two_pow, Nat.testBit_two_pow]
  by_cases h : k = a
  · subst h; simp
  · by_cases h2 : k = b
    · subst h2; simp
    · simp [h, h2, show ¬ a = k from fun q => h q.symm, show ¬ b = k from fun q => h2 q.symm]
theorem bc_two {m a b : Nat} (hm : m < 512) (ha : a < 9) (hb : b < 9) (hab : a ≠ b) : D_J6_bitCount_0f7a4 (nI m &&& ((1 <<< (nI a &&& 31)) ||| (1 <<< (nI b &&& 31)))) = nI (bt m a + bt m b) := by
  rw [two_bits a ha b hb, nI_and, bc_bit _ (Nat.lt_of_le_of_lt Nat.and_le_left hm), bsum_sn]
  congr 1
  have e : ∀ k, k < 9 → bt (m &&& (2 ^ a ||| 2 ^ b)) k = (if k = a then bt m a else 0) + (if k = b then bt m b else 0) := fun k hk => by
    rw [bt_and2]
    by_cases h : k = a
    · subst h
      rw [if_pos (Or.inl rfl), if_pos rfl, if_neg hab]; rfl
    · by_cases h2 : k = b
      · subst h2
        rw [if_pos (Or.inr rfl), if_neg h, if_pos rfl]; simp
      · rw [if_neg (by omega), if_neg h, if_neg h2]
  rw [sn_congr 9 e, sn_add, sn_one, sn_one, if_pos ha, if_pos hb]
abbrev wd (S : Nat → Nat → Int32) (a b : Nat) : Prop := thr S a ∧ thr S b ∧ ¬ S 1 a < S 0 0 ∧ ¬ S 1 b < S 0 0
theorem wd_if {S : Nat → Nat → Int32} {a b : Nat} (ha : a < 9) (hb : b < 9) : D_X2_wouldDance S (nI a) (nI b) = 0 ↔ ¬ wd S a b := by
  unfold D_X2_wouldDance
  rw [clamp9 ha, clamp9 hb, show (0 : Int32).toNatClampNeg = 0 from rfl]
  unfold wd thr
  (repeat' split) <;> simp_all
def pb (S : Nat → Nat → Int32) (w : Int32) (a b : Nat) : Int32 := D_X2_pairWouldBring S (nI a) (nI b) w
theorem pb_eq {S : Nat → Nat → Int32} {m a b : Nat} (em : S 10 0 = nI m) (hm : m < 512) (ha : a < 9) (hb : b < 9) (hab : a ≠ b) (w : Int32) : pb S w a b = if w = 2 then (if wd S a b then 0 else nI (bt m a + bt m b)) else if wd S a b then (if w = 1 then 2 * (S 0 2 + S 6 (px a b)) else if w = 3 then (if S 7 (px a b) = 0 then 1 else 0) else 1) else 0 := by
  unfold pb D_X2_pairWouldBring D_X2_joyOfEach
  rw [em, bc_two hm ha hb hab, (px_ok a ha b hb).1, show (2 : Int32).toNatClampNeg = 2 from rfl]
  have h := wd_if (S := S) ha hb
  by_cases c : wd S a b
  · simp only [if_pos c, if_neg (fun q => (h.mp q) c)]
  · simp only [if_neg c, if_pos (h.mpr c)]
theorem wd_sym {S : Nat → Nat → Int32} {a b : Nat} : wd S a b ↔ wd S b a := ⟨fun ⟨h1, h2, h3, h4⟩ => ⟨h2, h1, h4, h3⟩, fun ⟨h1, h2, h3, h4⟩ => ⟨h2, h1, h4, h3⟩⟩
theorem pb_sym {n : Nat} {S : Nat → Nat → Int32} (h : Inv n S) {a b : Nat} (ha : a < 9) (hb : b < 9) (hab : a ≠ b) (w : Int32) : pb S w a b = pb S w b a := by
  obtain ⟨m, hm, em⟩ := h.1
  rw [pb_eq em hm ha hb hab, pb_eq em hm hb ha (fun q => hab q.symm), px_sw, Nat.add_comm]
  simp only [wd_sym (a := a) (b := b)]
theorem pb_dbl {n : Nat} {S T : Nat → Nat → Int32} (h : Both n S T) {a b : Nat} (ha : a < 9) (hb : b < 9) (hab : a ≠ b) (w : Int32) : pb T w (dbl a) (dbl b) = pb S w a b := by
  obtain ⟨m, hm, em⟩ := h.1.1
  obtain ⟨m2, hm2, em2⟩ := h.2.1.1
  have r := h.2.2
  have hw : wd T (dbl a) (dbl b) ↔ wd S a b := by
    unfold wd
    rw [r.thr ha, r.thr hb, r.2.2.2.1 1 (by decide) (by decide) a ha, r.2.2.2.1 1 (by decide) (by decide) b hb, r.1 0 (by decide)]
  have hbt : ∀ k, k < 9 → bt m2 (dbl k) = bt m k := fun k hk => by
    have e := r.2.2.1 k hk
    rw [isT hm em hk, isT hm2 em2 (dbl_lt k), nI_eq (by have := bt_01 m2 (dbl k); omega) (by have := bt_01 m k; omega)] at e
    exact e
  rw [pb_eq em hm ha hb hab, pb_eq em2 hm2 (dbl_lt a) (dbl_lt b) (fun q => hab (dbl_inj _ ha _ hb q)), hbt a ha, hbt b hb, r.1 2 (by decide), r.2.2.2.2.1 6 (by decide) (by decide) a ha b hb hab, r.2.2.2.2.1 7 (by decide) (by decide) a ha b hb hab]
  simp only [hw]
def ps (f : Nat → Nat → Int32) (t : Nat) : Nat → Int32
  | 0 => 0
  | i + 1 => if i < cn t i then ps f t i + f i (cn t i) else ps f t i
theorem wb_L (S : Nat → Nat → Int32) (w : Int32) {v : Nat} (hv : v < 1000) : ∀ fu i, i ≤ 9 → 10 ≤ i + fu → L_X2_wouldBring_5 S (nI v) w fu (nI i) (ps (pb S w) (v % 9) i) = ps (pb S w) (v % 9) 9 := by
  have ht : v % 9 < 9 := Nat.mod_lt _ (by decide)
  intro fu
  induction fu with
  | zero => intro j h1 h2; exact absurd h2 (by omega)
  | succ fu ih =>
    intro i h1 h2
    rw [L_X2_wouldBring_5]
    by_cases c : (9 : Int32) ≤ nI i
    · rw [if_pos c]
      have := eq_of_c h1 c
      subst this; rfl
    · rw [if_neg c]
      have hi := lt_of_c h1 c
      have hc := (cn_ok _ ht i hi).1
      have f := ih (i + 1) (by omega) (by omega)
      rw [cp_eq hi hv, nI_1]
      by_cases d : nI (cn (v % 9) i) ≤ nI i
      · have d' := (nI_leI (by omega) (by omega)).mp d
        rw [if_pos d, ← f]
        show _ = L_X2_wouldBring_5 S (nI v) w fu (nI (i + 1)) (if i < cn (v % 9) i then _ else ps (pb S w) (v % 9) i)
        rw [if_neg (by omega)]
      · have d' : i < cn (v % 9) i := by
          rcases Nat.lt_or_ge i (cn (v % 9) i) with q | q
          · exact q
          · exact absurd (nI_le q (by omega)) d
        rw [if_neg d, ← f]
        unfold V_X2_wouldBring_1
        rw [cp_eq hi hv]
        show _ = L_X2_wouldBring_5 S (nI v) w fu (nI (i + 1)) (if i < cn (v % 9) i then ps (pb S w) (v % 9) i + pb S w i (cn (v % 9) i) else _)
        rw [if_pos d']; rfl
theorem wb_eq (S : Nat → Nat → Int32) (w : Int32) {v : Nat} (hv : v < 1000) : D_X2_wouldBring S (nI v) w = ps (pb S w) (v % 9) 9 := by
  unfold D_X2_wouldBring
  exact wb_L S w hv 10 0 (by omega) (by omega)
theorem ps_dbl {f g : Nat → Nat → Int32} (hs : ∀ a, a < 9 → ∀ b, b < 9 → a ≠ b → f a b = f b a) (hg : ∀ a, a < 9 → ∀ b, b < 9 → a ≠ b → g (dbl a) (dbl b) = f a b) {t : Nat} (ht : t < 9) : ps g (dbl t) 9 = ps f t 9 := by
  obtain rfl | rfl | rfl | rfl | rfl | rfl | rfl | rfl | rfl : t = 0 ∨ t = 1 ∨ t = 2 ∨ t = 3 ∨ t = 4 ∨ t = 5 ∨ t = 6 ∨ t = 7 ∨ t = 8 := by omega
  · have hS : ps f 0 9 = f 1 8 + f 2 7 + f 3 6 + f 4 5 := by simp [ps, cn]
    have hT : ps g (dbl 0) 9 = g 1 8 + g 2 7 + g 3 6 + g 4 5 := by simp [ps, cn, dbl]
    have e0 : g 1 8 = f 4 5 := ((hg 5 (by decide) 4 (by decide) (by decide) : g (dbl 5) (dbl 4) = f 5 4).trans (hs 5 (by decide) 4 (by decide) (by decide)))
    have e1 : g 2 7 = f 1 8 := (hg 1 (by decide) 8 (by decide) (by decide) : g (dbl 1) (dbl 8) = f 1 8)
    have e2 : g 3 6 = f 3 6 := ((hg 6 (by decide) 3 (by decide) (by decide) : g (dbl 6) (dbl 3) = f 6 3).trans (hs 6 (by decide) 3 (by decide) (by decide)))
    have e3 : g 4 5 = f 2 7 := (hg 2 (by decide) 7 (by decide) (by decide) : g (dbl 2) (dbl 7) = f 2 7)
    rw [hS, hT, e0, e1, e2, e3]
    try ac_rfl
  · have hS : ps f 1 9 = f 0 1 + f 2 8 + f 3 7 + f 4 6 := by simp [ps, cn]
    have hT : ps g (dbl 1) 9 = g 0 2 + g 3 8 + g 4 7 + g 5 6 := by simp [ps, cn, dbl]
    have e0 : g 0 2 = f 0 1 := (hg 0 (by decide) 1 (by decide) (by decide) : g (dbl 0) (dbl 1) = f 0 1)
    have e1 : g 3 8 = f 4 6 := ((hg 6 (by decide) 4 (by decide) (by decide) : g (dbl 6) (dbl 4) = f 6 4).trans (hs 6 (by decide) 4 (by decide) (by decide)))
    have e2 : g 4 7 = f 2 8 := (hg 2 (by decide) 8 (by decide) (by decide) : g (dbl 2) (dbl 8) = f 2 8)
    have e3 : g 5 6 = f 3 7 := ((hg 7 (by decide) 3 (by decide) (by decide) : g (dbl 7) (dbl 3) = f 7 3).trans (hs 7 (by decide) 3 (by decide) (by decide)))
    rw [hS, hT, e0, e1, e2, e3]
    try ac_rfl
  · have hS : ps f 2 9 = f 0 2 + f 3 8 + f 4 7 + f 5 6 := by simp [ps, cn]
    have hT : ps g (dbl 2) 9 = g 0 4 + g 1 3 + g 5 8 + g 6 7 := by simp [ps, cn, dbl]
    have e0 : g 0 4 = f 0 2 := (hg 0 (by decide) 2 (by decide) (by decide) : g (dbl 0) (dbl 2) = f 0 2)
    have e1 : g 1 3 = f 5 6 := (hg 5 (by decide) 6 (by decide) (by decide) : g (dbl 5) (dbl 6) = f 5 6)
    have e2 : g 5 8 = f 4 7 := ((hg 7 (by decide) 4 (by decide) (by decide) : g (dbl 7) (dbl 4) = f 7 4).trans (hs 7 (by decide) 4 (by decide) (by decide)))
    have e3 : g 6 7 = f 3 8 := (hg 3 (by decide) 8 (by decide) (by decide) : g (dbl 3) (dbl 8) = f 3 8)
    rw [hS, hT, e0, e1, e2, e3]
    try ac_rfl
  · have hS : ps f 3 9 = f 0 3 + f 1 2 + f 4 8 + f 5 7 := by simp [ps, cn]
    have hT : ps g (dbl 3) 9 = g 0 6 + g 1 5 + g 2 4 + g 7 8 := by simp [ps, cn, dbl]
    have e0 : g 0 6 = f 0 3 := (hg 0 (by decide) 3 (by decide) (by decide) : g (dbl 0) (dbl 3) = f 0 3)
    have e1 : g 1 5 = f 5 7 := (hg 5 (by decide) 7 (by decide) (by decide) : g (dbl 5) (dbl 7) = f 5 7)
    have e2 : g 2 4 = f 1 2 := (hg 1 (by decide) 2 (by decide) (by decide) : g (dbl 1) (dbl 2) = f 1 2)
    have e3 : g 7 8 = f 4 8 := ((hg 8 (by decide) 4 (by decide) (by decide) : g (dbl 8) (dbl 4) = f 8 4).trans (hs 8 (by decide) 4 (by decide) (by decide)))
    rw [hS, hT, e0, e1, e2, e3]
    try ac_rfl
  · have hS : ps f 4 9 = f 0 4 + f 1 3 + f 5 8 + f 6 7 := by simp [ps, cn]
    have hT : ps g (dbl 4) 9 = g 0 8 + g 1 7 + g 2 6 + g 3 5 := by simp [ps, cn, dbl]
    have e0 : g 0 8 = f 0 4 := (hg 0 (by decide) 4 (by decide) (by decide) : g (dbl 0) (dbl 4) = f 0 4)
    have e1 : g 1 7 = f 5 8 := (hg 5 (by decide) 8 (by decide) (by decide) : g (dbl 5) (dbl 8) = f 5 8)
    have e2 : g 2 6 = f 1 3 := (hg 1 (by decide) 3 (by decide) (by decide) : g (dbl 1) (dbl 3) = f 1 3)
    have e3 : g 3 5 = f 6 7 := (hg 6 (by decide) 7 (by decide) (by decide) : g (dbl 6) (dbl 7) = f 6 7)
    rw [hS, hT, e0, e1, e2, e3]
    try ac_rfl
  · have hS : ps f 5 9 = f 0 5 + f 1 4 + f 2 3 + f 6 8 := by simp [ps, cn]
    have hT : ps g (dbl 5) 9 = g 0 1 + g 2 8 + g 3 7 + g 4 6 := by simp [ps, cn, dbl]
    have e0 : g 0 1 = f 0 5 := (hg 0 (by decide) 5 (by decide) (by decide) : g (dbl 0) (dbl 5) = f 0 5)
    have e1 : g 2 8 = f 1 4 := (hg 1 (by decide) 4 (by decide) (by decide) : g (dbl 1) (dbl 4) = f 1 4)
    have e2 : g 3 7 = f 6 8 := (hg 6 (by decide) 8 (by decide) (by decide) : g (dbl 6) (dbl 8) = f 6 8)
    have e3 : g 4 6 = f 2 3 := (hg 2 (by decide) 3 (by decide) (by decide) : g (dbl 2) (dbl 3) = f 2 3)
    rw [hS, hT, e0, e1, e2, e3]
    try ac_rfl
  · have hS : ps f 6 9 = f 0 6 + f 1 5 + f 2 4 + f 7 8 := by simp [ps, cn]
    have hT : ps g (dbl 6) 9 = g 0 3 + g 1 2 + g 4 8 + g 5 7 := by simp [ps, cn, dbl]
    have e0 : g 0 3 = f 0 6 := (hg 0 (by decide) 6 (by decide) (by decide) : g (dbl 0) (dbl 6) = f 0 6)
    have e1 : g 1 2 = f 1 5 := ((hg 5 (by decide) 1 (by decide) (by decide) : g (dbl 5) (dbl 1) = f 5 1).trans (hs 5 (by decide) 1 (by decide) (by decide)))
    have e2 : g 4 8 = f 2 4 := (hg 2 (by decide) 4 (by decide) (by decide) : g (dbl 2) (dbl 4) = f 2 4)
    have e3 : g 5 7 = f 7 8 := (hg 7 (by decide) 8 (by decide) (by decide) : g (dbl 7) (dbl 8) = f 7 8)
    rw [hS, hT, e0, e1, e2, e3]
    try ac_rfl
  · have hS : ps f 7 9 = f 0 7 + f 1 6 + f 2 5 + f 3 4 := by simp [ps, cn]
    have hT : ps g (dbl 7) 9 = g 0 5 + g 1 4 + g 2 3 + g 6 8 := by simp [ps, cn, dbl]
    have e0 : g 0 5 = f 0 7 := (hg 0 (by decide) 7 (by decide) (by decide) : g (dbl 0) (dbl 7) = f 0 7)
    have e1 : g 1 4 = f 2 5 := ((hg 5 (by decide) 2 (by decide) (by decide) : g (dbl 5) (dbl 2) = f 5 2).trans (hs 5 (by decide) 2 (by decide) (by decide)))
    have e2 : g 2 3 = f 1 6 := (hg 1 (by decide) 6 (by decide) (by decide) : g (dbl 1) (dbl 6) = f 1 6)
    have e3 : g 6 8 = f 3 4 := (hg 3 (by decide) 4 (by decide) (by decide) : g (dbl 3) (dbl 4) = f 3 4)
    rw [hS, hT, e0, e1, e2, e3]
    try ac_rfl
  · have hS : ps f 8 9 = f 0 8 + f 1 7 + f 2 6 + f 3 5 := by simp [ps, cn]
    have hT : ps g (dbl 8) 9 = g 0 7 + g 1 6 + g 2 5 + g 3 4 := by simp [ps, cn, dbl]
    have e0 : g 0 7 = f 0 8 := (hg 0 (by decide) 8 (by decide) (by decide) : g (dbl 0) (dbl 8) = f 0 8)
    have e1 : g 1 6 = f 3 5 := ((hg 5 (by decide) 3 (by decide) (by decide) : g (dbl 5) (dbl 3) = f 5 3).trans (hs 5 (by decide) 3 (by decide) (by decide)))
    have e2 : g 2 5 = f 1 7 := (hg 1 (by decide) 7 (by decide) (by decide) : g (dbl 1) (dbl 7) = f 1 7)
    have e3 : g 3 4 = f 2 6 := ((hg 6 (by decide) 2 (by decide) (by decide) : g (dbl 6) (dbl 2) = f 6 2).trans (hs 6 (by decide) 2 (by decide) (by decide)))
    rw [hS, hT, e0, e1, e2, e3]
    try ac_rfl
theorem Both.wb {n : Nat} {S T : Nat → Nat → Int32} (h : Both n S T) (w : Int32) {v x : Nat} (hv : v < 1000) (hx : x < 1000) (e : x % 9 = dbl (v % 9)) : D_X2_wouldBring T (nI x) w = D_X2_wouldBring S (nI v) w := by
  rw [wb_eq S w hv, wb_eq T w hx, e]
  exact ps_dbl (fun a ha b hb hab => pb_sym h.1 ha hb hab w) (fun a ha b hb hab => pb_dbl h ha hb hab w) (Nat.mod_lt _ (by decide))
theorem bc_L (S : Nat → Nat → Int32) (w : Int32) : ∀ fu i be mj, i ≤ 9 → 10 ≤ i + fu → ∃ M, (L_X3_bestCall_27 S w fu (nI i) be mj).2 = M ∧ (M = mj ∨ ∃ k, i ≤ k ∧ k < 9 ∧ M = D_X2_wouldBring S (nI k) 1) ∧ mj ≤ M ∧ ∀ k, i ≤ k → k < 9 → D_X2_wouldBring S (nI k) 1 ≤ M := by
  intro fu
  induction fu with
  | zero => intro j be mj h1 h2; exact absurd h2 (by omega)
  | succ fu ih =>
    intro i be mj h1 h2
    rw [L_X3_bestCall_27]
    by_cases c : (9 : Int32) ≤ nI i
    · rw [if_pos c]
      have := eq_of_c h1 c
      exact ⟨mj, rfl, Or.inl rfl, Int32.le_refl mj, fun k q1 q2 => absurd q2 (by omega)⟩
    · rw [if_neg c]
      have hi := lt_of_c h1 c
      rw [nI_1]
      by_cases d : D_X2_wouldBring S (nI i) 1 ≤ mj
      · rw [if_pos d]
        obtain ⟨M, e1, e2, e3, e4⟩ := ih (i + 1) be mj (by omega) (by omega)
        refine ⟨M, e1, ?_, e3, fun k q1 q2 => ?_⟩
        · rcases e2 with q | ⟨k, q1, q2⟩
          · exact Or.inl q
          · exact Or.inr ⟨k, by omega, q2⟩
        · by_cases q : k = i
          · subst q; exact Int32.le_trans d e3
          · exact e4 k (by omega) q2
      · rw [if_neg d]
        obtain ⟨M, e1, e2, e3, e4⟩ := ih (i + 1) (nI i) (D_X2_wouldBring S (nI i) 1) (by omega) (by omega)
        refine ⟨M, e1, ?_, ?_, fun k q1 q2 => ?_⟩
        · rcases e2 with q | ⟨k, q1, q2⟩
          · exact Or.inr ⟨i, Nat.le_refl i, hi, q⟩
          · exact Or.inr ⟨k, by omega, q2⟩
        · rw [Int32.le_iff_toInt_le] at d e3 ⊢
          omega
        · by_cases q : k = i
          · subst q; exact e3
          · exact e4 k (by omega) q2
theorem best_is (S : Nat → Nat → Int32) : (∃ k, k < 9 ∧ D_X3_bestCall S 1 = D_X2_wouldBring S (nI k) 1) ∧ ∀ k, k < 9 → D_X2_wouldBring S (nI k) 1 ≤ D_X3_bestCall S 1 := by
  obtain ⟨M, e1, e2, e3, e4⟩ := bc_L S 1 10 1 0 (D_X2_wouldBring S 0 1) (by omega) (by omega)
  have e : D_X3_bestCall S 1 = M := by
    unfold D_X3_bestCall
    rw [if_neg (by decide), if_pos rfl, if_neg (by decide)]
    exact e1
  rw [e]
  refine ⟨?_, fun k hk => ?_⟩
  · rcases e2 with q | ⟨k, q1, q2, q3⟩
    · exact ⟨0, by decide, q⟩
    · exact ⟨k, q2, q3⟩
  · cases k with
    | zero => exact e3
    | succ k => exact e4 (k + 1) (by omega) hk
theorem Both.best {n : Nat} {S T : Nat → Nat → Int32} (h : Both n S T) : D_X3_bestCall T 1 = D_X3_bestCall S 1 := by
  obtain ⟨⟨a, ha, ea⟩, la⟩ := best_is S
  obtain ⟨⟨b, hb, eb⟩, lb⟩ := best_is T
  have hw : ∀ k, k < 9 → D_X2_wouldBring T (nI (dbl k)) 1 = D_X2_wouldBring S (nI k) 1 := fun k hk => h.wb 1 (by omega) (by have := dbl_lt k; omega) (by rw [Nat.mod_eq_of_lt (dbl_lt k), Nat.mod_eq_of_lt hk])
  apply Int32.le_antisymm
  · rw [eb]
    obtain ⟨e, l⟩ := dbl_sur b hb
    rw [← e, hw _ l]
    exact la _ l
  · rw [ea, ← hw a ha]
    exact lb _ (dbl_lt a)
/-! until all have met -/
theorem ua_L (S Z X : Nat → Nat → Int32) : ∀ fu i u Z1, i ≤ 500 → 501 ≤ i + fu → ∃ r, r ≤ 500 - i ∧ (L_X3_untilAllMet_21 S Z X fu (nI i) u Z1).2 10 1 = Z1 10 1 + nI r := by
  intro fu
  induction fu with
  | zero => intro i u Z1 h1 h2; exact absurd h2 (by omega)
  | succ fu ih =>
    intro i u Z1 h1 h2
    rw [L_X3_untilAllMet_21]
    by_cases c : (500 : Int32) ≤ nI i
    · rw [if_pos c]
      exact ⟨0, Nat.zero_le _, by rw [show nI 0 = 0 from rfl]; simp⟩
    · rw [if_neg c]
      by_cases d : u ≤ 0
      · rw [if_pos d]
        exact ⟨0, Nat.zero_le _, by rw [show nI 0 = 0 from rfl]; simp⟩
      · rw [if_neg d]
        have hi : i < 500 := my_lt rfl (show (500 : Int32) = nI 500 from rfl) (by decide) h1 c
        have er : D_X3_remainderOf (nI i) = nI (i % 9) := by
          apply Int32.toInt_inj.mp
          rw [ti_remainderOf, nI_toInt (by omega), nI_toInt (by omega)]
          omega
        obtain ⟨r, hr, e⟩ := ih (i + 1) (u - D_X2_wouldBring Z1 (D_X3_remainderOf (nI i)) 3) (D_X2_danceRound Z1 (D_X3_remainderOf (nI i))).2 (by omega) (by omega)
        rw [nI_1]
        refine ⟨r + 1, by omega, ?_⟩
        rw [e, er, round_eq Z1 (by omega)]
        show RS Z1 (i % 9) 10 1 + nI r = _
        rw [RS_101, ← nI_1]
        ac_rfl
theorem until_0 (S Z : Nat → Nat → Int32) : (D_X3_untilAllMet S Z).1 = 0 ↔ U S = 0 := by
  have hc := cf_cl Z S
  have hU : U (D_X2_copyFrom Z S) = U S := by
    unfold U
    refine sn_congr 9 (fun a ha => ?_)
    refine sn_congr 9 (fun b hb => ?_)
    show (if a < b then uc _ a b else 0) = if a < b then uc S a b else 0
    have : um (D_X2_copyFrom Z S) a b ↔ um S a b := by
      rw [um_iff ha hb, um_iff ha hb]
      unfold thr
      rw [thr_congr (hc 10 0 (by unfold inr; simp)), thr_congr (hc 10 0 (by unfold inr; simp)), hc 7 _ (by have := px_lt a ha b hb; unfold inr; omega)]
    unfold uc
    by_cases q : um S a b
    · rw [if_pos q, if_pos (this.mpr q)]
    · rw [if_neg q, if_neg (fun z => q (this.mp z))]
  have h1 : D_X2_copyFrom Z S 10 1 = S 10 1 := hc 10 1 (by unfold inr; simp)
  have hz : ∀ x y : Int32, x - y = 0 → x = y := fun x y q => by
    have : x - y + y = 0 + y := by rw [q]
    simpa using this
  unfold D_X3_untilAllMet
  rw [unmet_eq, hU]
  generalize D_X2_copyFrom Z S = X at h1
  have hle := U_le S
  constructor
  · intro q
    rcases Nat.eq_zero_or_pos (U S) with h | h
    · exact h
    · exfalso
      rw [L_X3_untilAllMet_21, if_neg (show ¬ (500 : Int32) ≤ 0 by decide), if_neg (nI_nle h (by omega))] at q
      obtain ⟨r, hr, e⟩ := ua_L S Z X 500 1 (nI (U S) - D_X2_wouldBring X (D_X3_remainderOf 0) 3) (D_X2_danceRound X (D_X3_remainderOf 0)).2 (by omega) (by omega)
      rw [show (0 : Int32) + 1 = nI 1 from rfl] at q
      generalize hG : L_X3_untilAllMet_21 S Z X 500 (nI 1) (nI (U S) - D_X2_wouldBring X (D_X3_remainderOf 0) 3) (D_X2_danceRound X (D_X3_remainderOf 0)).2 = G at e q
      have e0 : D_X3_remainderOf 0 = nI 0 := by decide
      rw [e0, round_eq X (by omega)] at e
      have e' : G.2 10 1 = X 10 1 + 1 + nI r := by rw [e]; show RS X 0 10 1 + nI r = _; rw [RS_101]
      split at q
      · have q2 := hz _ _ q
        rw [e', h1] at q2
        have q3 : (1 : Int32) + nI r = 0 := by
          have : S 10 1 + (1 + nI r) - S 10 1 = S 10 1 - S 10 1 := by rw [← Int32.add_assoc, q2]
          rw [Int32.add_comm (S 10 1), Int32.add_sub_cancel] at this
          simpa using this
        rw [Int32.add_comm, nI_1] at q3
        exact absurd ((nI_eq (b := 0) (by omega) (by decide)).mp q3) (by omega)
      · exact absurd (show (-1000006 : Int32) = 0 from q) (by decide)
  · intro h
    rw [h, L_X3_untilAllMet_21, if_neg (show ¬ (500 : Int32) ≤ 0 by decide), if_pos (show nI 0 ≤ 0 by decide)]
    rw [if_pos (show nI 0 ≤ 0 by decide)]
    show X 10 1 - S 10 1 = 0
    rw [h1]
    simp

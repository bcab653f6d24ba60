/-! pairs not met, in all -/
def uc (S : Nat → Nat → Int32) (a b : Nat) : Nat := if um S a b then 1 else 0
theorem uc_sym {S : Nat → Nat → Int32} {a b : Nat} (ha : a < 9) (hb : b < 9) : uc S a b = uc S b a := by
  unfold uc
  by_cases h : um S a b
  · rw [if_pos h, if_pos ((um_sym ha hb).mp h)]
  · rw [if_neg h, if_neg (fun q => h ((um_sym ha hb).mpr q))]
theorem uc_le (S : Nat → Nat → Int32) (a b : Nat) : uc S a b ≤ 1 := by unfold uc; split <;> omega
theorem up_in (S : Nat → Nat → Int32) {a : Nat} (ha : a < 9) (u : Int32) (x : Nat) : ∀ fu j, a < j → j ≤ 9 → 10 ≤ j + fu → L_X2_unmetPairs_14 S (nI a) u fu (nI j) (nI (x + sn (fun b => if a < b then uc S a b else 0) j)) = nI (x + sn (fun b => if a < b then uc S a b else 0) 9) := by
  intro fu
  induction fu with
  | zero => intro j h0 h1 h2; exact absurd h2 (by omega)
  | succ fu ih =>
    intro j h0 h1 h2
    rw [L_X2_unmetPairs_14]
    by_cases c : (9 : Int32) ≤ nI j
    · rw [if_pos c]
      have := eq_of_c h1 c
      subst this; rfl
    · rw [if_neg c]
      have f := ih (j + 1) (by omega) (by have := lt_of_c h1 c; omega) (by omega)
      have e : sn (fun b => if a < b then uc S a b else 0) (j + 1) = sn (fun b => if a < b then uc S a b else 0) j + uc S a j := by
        show _ + (if a < j then uc S a j else 0) = _
        rw [if_pos h0]
      by_cases d : D_X2_isUnmet S (nI a) (nI j) = 0
      · rw [if_pos d, ← f, e, nI_1, show uc S a j = 0 from if_neg (fun q => q d)]; rfl
      · rw [if_neg d, ← f, e, nI_1, nI_1, show uc S a j = 1 from if_pos d]; rfl
theorem sn_zero {f : Nat → Nat} : ∀ n, (∀ k, k < n → f k = 0) → sn f n = 0
  | 0, _ => rfl
  | n + 1, h => by
    show sn f n + f n = 0
    rw [sn_zero n (fun k hk => h k (by omega)), h n (by omega)]
/-- all of them -/
def U (S : Nat → Nat → Int32) : Nat := sn (fun a => sn (fun b => if a < b then uc S a b else 0) 9) 9
theorem up_out (S : Nat → Nat → Int32) : ∀ fu a, a ≤ 9 → 10 ≤ a + fu → L_X2_unmetPairs_4 S fu (nI a) (nI (sn (fun a => sn (fun b => if a < b then uc S a b else 0) 9) a)) = nI (U S) := by
  intro fu
  induction fu with
  | zero => intro j h1 h2; exact absurd h2 (by omega)
  | succ fu ih =>
    intro a h1 h2
    rw [L_X2_unmetPairs_4]
    by_cases c : (9 : Int32) ≤ nI a
    · rw [if_pos c]
      have := eq_of_c h1 c
      subst this; rfl
    · rw [if_neg c]
      have ha := lt_of_c h1 c
      have e := up_in S ha (nI (sn (fun a => sn (fun b => if a < b then uc S a b else 0) 9) a)) (sn (fun a => sn (fun b => if a < b then uc S a b else 0) 9) a) 10 (a + 1) (by omega) (by omega) (by omega)
      rw [sn_zero (f := fun b => if a < b then uc S a b else 0) (a + 1) (fun k hk => if_neg (by omega))] at e
      simp only [Nat.add_zero] at e
      rw [nI_1, e]
      exact ih (a + 1) (by omega) (by omega)
theorem unmet_eq (S : Nat → Nat → Int32) : D_X2_unmetPairs S = nI (U S) := by
  unfold D_X2_unmetPairs
  have := up_out S 10 0 (by omega) (by omega)
  exact this
/-- the other way round -/
def U2 (S : Nat → Nat → Int32) : Nat := sn (fun a => sn (fun b => if b < a then uc S a b else 0) 9) 9
theorem U_U2 (S : Nat → Nat → Int32) : U2 S = U S := by
  have s : ∀ a, a < 9 → ∀ b, b < 9 → uc S a b = uc S b a := fun a ha b hb => uc_sym ha hb
  have s1 := s 1 (by decide); have s2 := s 2 (by decide); have s3 := s 3 (by decide); have s4 := s 4 (by decide); have s5 := s 5 (by decide); have s6 := s 6 (by decide); have s7 := s 7 (by decide); have s8 := s 8 (by decide)
  unfold U2 U
  simp only [sn]
  simp [s1 0, s2 0, s2 1, s3 0, s3 1, s3 2, s4 0, s4 1, s4 2, s4 3, s5 0, s5 1, s5 2, s5 3, s5 4, s6 0, s6 1, s6 2, s6 3, s6 4, s6 5, s7 0, s7 1, s7 2, s7 3, s7 4, s7 5, s7 6, s8 0, s8 1, s8 2, s8 3, s8 4, s8 5, s8 6, s8 7]
  omega
def U3 (S : Nat → Nat → Int32) : Nat := sn (fun a => sn (fun b => if b = a then 0 else uc S a b) 9) 9
theorem U_U3 (S : Nat → Nat → Int32) : U3 S = 2 * U S := by
  have h := U_U2 S
  have e : U3 S = U S + U2 S := by
    unfold U3 U U2
    have : ∀ f g h : Nat → Nat, (∀ k, k < 9 → f k = g k + h k) → sn f 9 = sn g 9 + sn h 9 := fun f g h q => by
      have e0 := q 0 (by decide); have e1 := q 1 (by decide); have e2 := q 2 (by decide); have e3 := q 3 (by decide); have e4 := q 4 (by decide)
      have e5 := q 5 (by decide); have e6 := q 6 (by decide); have e7 := q 7 (by decide); have e8 := q 8 (by decide)
      simp only [sn]
      omega
    refine this _ _ _ (fun a ha => this _ _ _ (fun b hb => ?_))
    by_cases e1 : b = a
    · rw [if_pos e1, if_neg (by omega), if_neg (by omega)]
    · rw [if_neg e1]
      by_cases e2 : a < b
      · rw [if_pos e2, if_neg (by omega)]; rfl
      · rw [if_neg e2, if_pos (by omega)]; simp
  omega
theorem U_le (S : Nat → Nat → Int32) : U S ≤ 81 := by
  have := sn_le (f := fun a => sn (fun b => if a < b then uc S a b else 0) 9) (c := 9) 9 (fun a _ => by
    have := sn_le (f := fun b => if a < b then uc S a b else 0) (c := 1) 9 (fun b _ => by
      show (if a < b then uc S a b else 0) ≤ 1
      split
      · exact uc_le S a b
      · omega)
    exact this)
  exact this
theorem U_dbl {S T : Nat → Nat → Int32} (h : Rel S T) : U T = U S := by
  have h1 := U_U3 S
  have h2 := U_U3 T
  have : U3 T = U3 S := by
    refine sn_dbl (fun a ha => ?_)
    refine sn_dbl (fun b hb => ?_)
    show (if dbl b = dbl a then 0 else uc T (dbl a) (dbl b)) = if b = a then 0 else uc S a b
    by_cases e : b = a
    · rw [if_pos e, if_pos (by rw [e])]
    · rw [if_neg e, if_neg (fun q => e (dbl_inj _ hb _ ha q))]
      unfold uc
      have := um_dbl h ha hb (fun q => e q.symm)
      by_cases c : um S a b
      · rw [if_pos c, if_pos (this.mpr c)]
      · rw [if_neg c, if_neg (fun q => c (this.mp q))]
  omega
/-! danced with -/
theorem dw_L (S : Nat → Nat → Int32) {v : Nat} (hv : v < 9) : ∀ fu j m, j ≤ 9 → 10 ≤ j + fu → m < 512 → ∃ w, w < 512 ∧ L_X2_dancedWith_4 S (nI v) fu (nI j) (nI m) = nI w ∧ ∀ r, r < 9 → (bt w r = 1 ↔ (bt m r = 1 ∨ (j ≤ r ∧ ¬ S 7 (px v r) ≤ 0))) := by
  intro fu
  induction fu with
  | zero => intro j m h1 h2; exact absurd h2 (by omega)
  | succ fu ih =>
    intro j m h1 h2 hm
    rw [L_X2_dancedWith_4]
    by_cases c : (9 : Int32) ≤ nI j
    · rw [if_pos c]
      have := eq_of_c h1 c
      refine ⟨m, hm, rfl, fun r hr => ⟨fun q => Or.inl q, ?_⟩⟩
      rintro (q | ⟨q1, -⟩)
      · exact q
      · omega
    · rw [if_neg c]
      have hj := lt_of_c h1 c
      rw [(px_ok v hv j hj).1, nI_1]
      by_cases d : S 7 (px v j) ≤ 0
      · rw [if_pos d]
        obtain ⟨w, hw, e, f⟩ := ih (j + 1) m (by omega) (by omega) hm
        refine ⟨w, hw, e, fun r hr => (f r hr).trans ?_⟩
        constructor
        · rintro (q | ⟨q1, q2⟩)
          · exact Or.inl q
          · exact Or.inr ⟨by omega, q2⟩
        · rintro (q | ⟨q1, q2⟩)
          · exact Or.inl q
          · by_cases e2 : r = j
            · subst e2; exact absurd d q2
            · exact Or.inr ⟨by omega, q2⟩
      · rw [if_neg d, or_bit m hm j hj]
        obtain ⟨w, hw, e, f⟩ := ih (j + 1) _ (by omega) (by omega) (or_lt m hm j hj)
        refine ⟨w, hw, e, fun r hr => (f r hr).trans ?_⟩
        rw [bt_or]
        constructor
        · rintro ((q | q) | ⟨q1, q2⟩)
          · subst q; exact Or.inr ⟨Nat.le_refl _, d⟩
          · exact Or.inl q
          · exact Or.inr ⟨by omega, q2⟩
        · rintro (q | ⟨q1, q2⟩)
          · exact Or.inl (Or.inr q)
          · by_cases e2 : r = j
            · exact Or.inl (Or.inl e2)
            · exact Or.inr ⟨by omega, q2⟩
theorem dwm (S : Nat → Nat → Int32) {v : Nat} (hv : v < 9) : ∃ w, w < 512 ∧ D_X2_dancedWith S (nI v) = nI w ∧ ∀ r, r < 9 → (bt w r = 1 ↔ ¬ S 7 (px v r) ≤ 0) := by
  obtain ⟨w, hw, e, f⟩ := dw_L S hv 10 0 0 (by omega) (by omega) (by decide)
  refine ⟨w, hw, e, fun r hr => (f r hr).trans ?_⟩
  constructor
  · rintro (q | ⟨q1, q2⟩)
    · exact absurd q (by unfold bt; simp)
    · exact q2
  · intro q; exact Or.inr ⟨Nat.zero_le r, q⟩
theorem px_self : ∀ a, a < 9 → px a a < 81 ∧ ¬ px a a / 9 < px a a % 9 := by decide
theorem dwm_dbl {n : Nat} {S T : Nat → Nat → Int32} (h : Both n S T) {v : Nat} (hv : v < 9) {w w2 : Nat} (f : ∀ r, r < 9 → (bt w r = 1 ↔ ¬ S 7 (px v r) ≤ 0)) (g : ∀ r, r < 9 → (bt w2 r = 1 ↔ ¬ T 7 (px (dbl v) r) ≤ 0)) : bsum w2 = bsum w := by
  refine bsum_dbl (fun k hk => ?_)
  have e : T 7 (px (dbl v) (dbl k)) = S 7 (px v k) := by
    by_cases q : v = k
    · subst q
      rw [(h.1.2.2.2.2.2.1 _ (px_self v hv).1).2.2.2 (px_self v hv).2, (h.2.1.2.2.2.2.2.1 _ (px_self _ (dbl_lt v)).1).2.2.2 (px_self _ (dbl_lt v)).2]
    · exact h.2.2.2.2.2.2.1 7 (by decide) (by decide) v hv k hk q
  have f1 := f k hk
  have g1 := g _ (dbl_lt k)
  rw [e] at g1
  have := bt_01 w k; have := bt_01 w2 (dbl k)
  have : bt w k = 1 ↔ bt w2 (dbl k) = 1 := f1.trans g1.symm
  omega

/-! what the other orders keep -/
theorem Inv.of {n : Nat} {S T : Nat → Nat → Int32} (h : Inv n S) (e3 : T 3 = S 3) (e4 : T 4 = S 4) (e5 : T 5 = S 5) (e7 : T 7 = S 7) (e8 : T 8 = S 8) (e9 : T 9 = S 9) (e10 : T 10 1 = S 10 1) (hm : ∃ m, m < 512 ∧ T 10 0 = nI m)
    (h0 : 0 ≤ (T 0 0).toInt ∧ (T 0 0).toInt ≤ 9 ∧ 0 ≤ (T 0 1).toInt ∧ (T 0 1).toInt ≤ 9) (h1 : ∀ k, k < 9 → 0 ≤ (T 1 k).toInt ∧ (T 1 k).toInt ≤ 20) : Inv n T := by
  obtain ⟨-, q2, -, -, q5, q6, q7, q8, q9⟩ := h
  refine ⟨hm, by rw [e10]; exact q2, h0, h1, fun k hk => by rw [e3, e4, e5, e10]; exact q5 k hk, fun j hj => by rw [e7, e8, e9]; exact q6 j hj, fun k hk => by rw [e9, e10]; exact q7 k hk, fun a ha => ?_, by rw [e9, e10]; exact q9⟩
  rw [e3, ← q8 a ha]
  exact sm_congr 9 (fun b hb => by unfold dw; rw [e7])
theorem Inv.set {n : Nat} {S : Nat → Nat → Int32} (h : Inv n S) (g : Nat) (x : Int32) (hx : g < 2 → 0 ≤ x.toInt ∧ x.toInt ≤ 9) : Inv n (s2 S 0 g x) := by
  refine h.of (s2_ne (by decide)) (s2_ne (by decide)) (s2_ne (by decide)) (s2_ne (by decide)) (s2_ne (by decide)) (s2_ne (by decide)) (by rw [s2_ne (by decide)]) (by rw [s2_ne (by decide)]; exact h.1) ?_ (by rw [s2_ne (by decide)]; exact h.2.2.2.1)
  have q := h.2.2.1
  simp only [s2_ap, if_true]
  by_cases e0 : 0 = g
  · subst e0
    have := hx (by decide)
    simp only [if_true, show ¬ (1 = 0) from by decide, if_false]
    omega
  · rw [if_neg e0]
    by_cases e1 : 1 = g
    · subst e1
      have := hx (by decide)
      simp only [if_true]
      omega
    · rw [if_neg e1]; exact q
theorem Inv.like {n : Nat} {S : Nat → Nat → Int32} (h : Inv n S) (j : Nat) (x : Int32) : Inv n (s2 S 6 j x) :=
  h.of (s2_ne (by decide)) (s2_ne (by decide)) (s2_ne (by decide)) (s2_ne (by decide)) (s2_ne (by decide)) (s2_ne (by decide)) (by rw [s2_ne (by decide)]) (by rw [s2_ne (by decide)]; exact h.1) (by rw [s2_ne (by decide)]; exact h.2.2.1) (by rw [s2_ne (by decide)]; exact h.2.2.2.1)
theorem Inv.away {n : Nat} {S : Nat → Nat → Int32} (h : Inv n S) {m : Nat} (hm : m < 512) : Inv n (s2 S 10 0 (nI m)) :=
  h.of (s2_ne (by decide)) (s2_ne (by decide)) (s2_ne (by decide)) (s2_ne (by decide)) (s2_ne (by decide)) (s2_ne (by decide)) (by rw [s2_ap]; rfl) ⟨m, hm, by rw [s2_ap]; rfl⟩ (by rw [s2_ne (by decide)]; exact h.2.2.1) (by rw [s2_ne (by decide)]; exact h.2.2.2.1)
theorem Inv.feed {n : Nat} {S : Nat → Nat → Int32} (h : Inv n S) (k : Nat) {x : Int32} (h0 : 0 ≤ x.toInt) (h1 : x.toInt ≤ 20) : Inv n (s2 S 1 k x) := by
  refine h.of (s2_ne (by decide)) (s2_ne (by decide)) (s2_ne (by decide)) (s2_ne (by decide)) (s2_ne (by decide)) (s2_ne (by decide)) (by rw [s2_ne (by decide)]) (by rw [s2_ne (by decide)]; exact h.1) (by rw [s2_ne (by decide)]; exact h.2.2.1) (fun j hj => ?_)
  rw [s2_ap, if_pos rfl]
  split
  · exact ⟨h0, h1⟩
  · exact h.2.2.2.1 j hj
theorem px_inj : ∀ a, a < 9 → ∀ b, b < 9 → ∀ c, c < 9 → ∀ d, d < 9 → (px (dbl a) (dbl b) = px (dbl c) (dbl d) ↔ px a b = px c d) := by decide +kernel
theorem Rel.set {S T : Nat → Nat → Int32} (h : Rel S T) (g : Nat) (x : Int32) : Rel (s2 S 0 g x) (s2 T 0 g x) := by
  obtain ⟨h1, h2, h3, h4, h5, h6⟩ := h
  refine ⟨fun j hj => ?_, by rw [s2_ne (by decide), s2_ne (by decide)]; exact h2, fun k hk => ?_, fun row r1 r2 k hk => ?_, fun row r1 r2 a ha b hb hab => ?_, fun k hk => ?_⟩
  · rw [s2_ap, s2_ap, h1 j hj]
  · rw [thr_congr (show s2 T 0 g x 10 0 = T 10 0 by rw [s2_ne (by decide)]), thr_congr (show s2 S 0 g x 10 0 = S 10 0 by rw [s2_ne (by decide)])]; exact h3 k hk
  · rw [s2_ne (by omega), s2_ne (by omega)]; exact h4 row r1 r2 k hk
  · rw [s2_ne (by omega), s2_ne (by omega)]; exact h5 row r1 r2 a ha b hb hab
  · rw [s2_ne (by decide), s2_ne (by decide)]; exact h6 k hk
theorem Rel.like {S T : Nat → Nat → Int32} (h : Rel S T) {c d : Nat} (hc : c < 9) (hd : d < 9) (x : Int32) : Rel (s2 S 6 (px c d) x) (s2 T 6 (px (dbl c) (dbl d)) x) := by
  obtain ⟨h1, h2, h3, h4, h5, h6⟩ := h
  refine ⟨fun j hj => ?_, by rw [s2_ne (by decide), s2_ne (by decide)]; exact h2, fun k hk => ?_, fun row r1 r2 k hk => ?_, fun row r1 r2 a ha b hb hab => ?_, fun k hk => ?_⟩
  · rw [s2_ne (by decide), s2_ne (by decide)]; exact h1 j hj
  · rw [thr_congr (show s2 T 6 (px (dbl c) (dbl d)) x 10 0 = T 10 0 by rw [s2_ne (by decide)]), thr_congr (show s2 S 6 (px c d) x 10 0 = S 10 0 by rw [s2_ne (by decide)])]; exact h3 k hk
  · rw [s2_ne (by omega), s2_ne (by omega)]; exact h4 row r1 r2 k hk
  · have := h5 row r1 r2 a ha b hb hab
    rw [s2_ap, s2_ap, this]
    simp only [px_inj a ha b hb c hc d hd]
  · rw [s2_ne (by decide), s2_ne (by decide)]; exact h6 k hk
theorem Rel.feed {S T : Nat → Nat → Int32} (h : Rel S T) {c : Nat} (hc : c < 9) (x : Int32) : Rel (s2 S 1 c x) (s2 T 1 (dbl c) x) := by
  obtain ⟨h1, h2, h3, h4, h5, h6⟩ := h
  refine ⟨fun j hj => ?_, by rw [s2_ne (by decide), s2_ne (by decide)]; exact h2, fun k hk => ?_, fun row r1 r2 k hk => ?_, fun row r1 r2 a ha b hb hab => ?_, fun k hk => ?_⟩
  · rw [s2_ne (by decide), s2_ne (by decide)]; exact h1 j hj
  · rw [thr_congr (show s2 T 1 (dbl c) x 10 0 = T 10 0 by rw [s2_ne (by decide)]), thr_congr (show s2 S 1 c x 10 0 = S 10 0 by rw [s2_ne (by decide)])]; exact h3 k hk
  · have := h4 row r1 r2 k hk
    rw [s2_ap, s2_ap, this]
    by_cases e : k = c
    · simp only [e]
    · simp only [e, show ¬ dbl k = dbl c from fun q => e (dbl_inj _ hk _ hc q)]
  · rw [s2_ne (by omega), s2_ne (by omega)]; exact h5 row r1 r2 a ha b hb hab
  · rw [s2_ne (by decide), s2_ne (by decide)]; exact h6 k hk
theorem Rel.away {S T : Nat → Nat → Int32} (h : Rel S T) {m w c : Nat} (hc : c < 9) (hm : m < 512) (hw : w < 512) (em : S 10 0 = nI m) (ew : T 10 0 = nI w) : Rel (s2 S 10 0 (nI (m ^^^ 2 ^ c))) (s2 T 10 0 (nI (w ^^^ 2 ^ dbl c))) := by
  obtain ⟨h1, h2, h3, h4, h5, h6⟩ := h
  refine ⟨fun j hj => ?_, by rw [s2_ap, s2_ap]; exact h2, fun k hk => ?_, fun row r1 r2 k hk => ?_, fun row r1 r2 a ha b hb hab => ?_, fun k hk => ?_⟩
  · rw [s2_ne (by decide), s2_ne (by decide)]; exact h1 j hj
  · rw [isT (xor_lt m hm c hc) (show s2 S 10 0 (nI (m ^^^ 2 ^ c)) 10 0 = nI (m ^^^ 2 ^ c) by rw [s2_ap]; rfl) hk, isT (xor_lt w hw _ (dbl_lt c)) (show s2 T 10 0 (nI (w ^^^ 2 ^ dbl c)) 10 0 = nI (w ^^^ 2 ^ dbl c) by rw [s2_ap]; rfl) (dbl_lt k), bt_xor, bt_xor]
    have e := h3 k hk
    have e2 := h3 c hc
    rw [isT hm em hk, isT hw ew (dbl_lt k), nI_eq (by have := bt_01 w (dbl k); omega) (by have := bt_01 m k; omega)] at e
    rw [isT hm em hc, isT hw ew (dbl_lt c), nI_eq (by have := bt_01 w (dbl c); omega) (by have := bt_01 m c; omega)] at e2
    by_cases q : k = c
    · subst q; simp [e]
    · rw [if_neg q, if_neg (fun q2 => q (dbl_inj _ hk _ hc q2)), e]
  · rw [s2_ne (by omega), s2_ne (by omega)]; exact h4 row r1 r2 k hk
  · rw [s2_ne (by omega), s2_ne (by omega)]; exact h5 row r1 r2 a ha b hb hab
  · rw [s2_ne (by decide), s2_ne (by decide)]; exact h6 k hk
/-- the two of them -/
def Both (n : Nat) (S T : Nat → Nat → Int32) : Prop := Inv n S ∧ Inv n T ∧ Rel S T
theorem Inv.up {n k : Nat} {S : Nat → Nat → Int32} (h : Inv n S) (hk : n ≤ k) : Inv k S := ⟨h.1, ⟨h.2.1.1, by have := h.2.1.2; omega⟩, h.2.2⟩
theorem Both.up {n k : Nat} {S T : Nat → Nat → Int32} (h : Both n S T) (hk : n ≤ k) : Both k S T := ⟨h.1.up hk, h.2.1.up hk, h.2.2⟩
theorem Both.copy {n : Nat} {S T : Nat → Nat → Int32} (h : Both n S T) (Z W : Nat → Nat → Int32) : Both n (D_X2_copyFrom Z S) (D_X2_copyFrom W T) := ⟨h.1.cl (cf_cl Z S), h.2.1.cl (cf_cl W T), h.2.2.cl (cf_cl Z S) (cf_cl W T)⟩
theorem Both.round {n : Nat} {S T : Nat → Nat → Int32} (h : Both n S T) (hn : n ≤ 100) {v w : Nat} (hw : w % 9 = dbl (v % 9)) : Both (n + 1) (RS S v) (RS T w) := ⟨h.1.round hn v, h.2.1.round hn w, h.2.2.round hw⟩
def HB (n : Nat) (u w : HS) : Prop := u.1 = w.1 ∧ hok u ∧ hok w ∧ ∀ k, k < u.1 → Both n (u.2.2.2.2 k) (w.2.2.2.2 k)
theorem HB.up {n k : Nat} {u w : HS} (h : HB n u w) (hk : n ≤ k) : HB k u w := ⟨h.1, h.2.1, h.2.2.1, fun j hj => (h.2.2.2 j hj).up hk⟩
theorem hok_rem {u : HS} (h : hok u) (S : Nat → Nat → Int32) : hok (D_X0_remember u S) := by
  unfold D_X0_remember
  by_cases c : u.1 < 6
  · rw [if_pos c]
    exact ⟨c, h.2⟩
  · rw [if_neg c]
    refine ⟨Nat.le_refl 6, fun k hk => ?_⟩
    have hf := h.2
    obtain rfl | rfl | rfl | rfl | rfl | rfl : k = 0 ∨ k = 1 ∨ k = 2 ∨ k = 3 ∨ k = 4 ∨ k = 5 := by omega
    all_goals rfl
theorem HB.remember {n : Nat} {u w : HS} {S T : Nat → Nat → Int32} (h : HB n u w) (b : Both n S T) : HB n (D_X0_remember u S) (D_X0_remember w T) := by
  refine ⟨?_, hok_rem h.2.1 S, hok_rem h.2.2.1 T, ?_⟩
  · unfold D_X0_remember
    rw [← h.1]
    by_cases c : u.1 < 6
    · rw [if_pos c, if_pos c]
    · rw [if_neg c, if_neg c]
  · unfold D_X0_remember
    rw [← h.1]
    by_cases c : u.1 < 6
    · rw [if_pos c, if_pos c]
      intro k hk
      have hk : k < u.1 + 1 := hk
      show Both n (va_up u.2.2.2.2 u.1 _ k) (va_up w.2.2.2.2 u.1 _ k)
      unfold va_up
      by_cases e : k = u.1
      · rw [if_pos e, if_pos e]; exact b.copy _ _
      · rw [if_neg e, if_neg e]; exact h.2.2.2 k (by omega)
    · rw [if_neg c, if_neg c]
      intro k hk
      have hk : k < 6 := hk
      have h6 : u.1 = 6 := by have := h.2.1.1; omega
      show Both n (va_up (rot u.2.2.2.2) 5 _ k) (va_up (rot w.2.2.2.2) 5 _ k)
      unfold va_up
      by_cases e : k = 5
      · rw [if_pos e, if_pos e]; exact b.copy _ _
      · rw [if_neg e, if_neg e]
        unfold rot
        rw [if_neg e, if_neg e]
        exact h.2.2.2 (k + 1) (by omega)

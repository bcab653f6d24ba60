/-! what a step of the law asks -/
section STP
variable {n : Nat} {S T : Nat → Nat → Int32}
theorem ti_n {j b : Nat} (hj : j < b) (hb : b ≤ 1000) : 0 ≤ (nI j).toInt ∧ (nI j).toInt < b := by
  rw [nI_toInt (by omega)]
  omega
theorem m9 {j : Nat} (hj : j < 19) : -9 ≤ (nI j - 9).toInt ∧ (nI j - 9).toInt ≤ 9 := by
  have h : ∀ j, j < 19 → -9 ≤ (nI j - 9).toInt ∧ (nI j - 9).toInt ≤ 9 := by decide +kernel
  exact h j hj
theorem is2 {g : Nat} (hg : g < 3) (c : nI g = 2) : g = 2 := (nI_eq (b := 2) (by omega) (by decide)).mp c
theorem sg_a {g j : Nat} (hg : g < 3) (c : nI g = 2) : g < 2 → 0 ≤ (nI j - 9).toInt := fun q => by have := is2 hg c; omega
theorem sg_a9 {g j : Nat} (hg : g < 3) (c : nI g = 2) : g < 2 → 0 ≤ (nI j - 9).toInt ∧ (nI j - 9).toInt ≤ 9 := fun q => by have := is2 hg c; omega
theorem sg_b {g j : Nat} (hj : j < 10) : g < 2 → 0 ≤ (nI j).toInt := fun _ => (ti_n hj (by decide)).1
theorem sg_b9 {g j : Nat} (hj : j < 10) : g < 2 → 0 ≤ (nI j).toInt ∧ (nI j).toInt ≤ 9 := fun _ => by have := ti_n hj (by decide); omega
theorem m10 {j : Nat} (hj : j < 10) : -9 ≤ (nI j).toInt ∧ (nI j).toInt ≤ 9 := by have := ti_n hj (by decide); omega
theorem m21 {j : Nat} (hj : j < 21) : 0 ≤ (nI j).toInt ∧ (nI j).toInt ≤ 20 := by have := ti_n hj (by decide); omega
theorem Both.set (h : Both n S T) (g : Nat) (x : Int32) (hx : g < 2 → 0 ≤ x.toInt ∧ x.toInt ≤ 9) : Both (n + 1) (s2 S 0 g x) (s2 T 0 g x) := (show Both n _ _ from ⟨h.1.set g x hx, h.2.1.set g x hx, h.2.2.set g x⟩).up (Nat.le_succ n)
theorem Both.like (h : Both n S T) {c d : Nat} (hc : c < 9) (hd : d < 9) (x : Int32) : Both (n + 1) (s2 S 6 (px c d) x) (s2 T 6 (px (dbl c) (dbl d)) x) := (show Both n _ _ from ⟨h.1.like _ x, h.2.1.like _ x, h.2.2.like hc hd x⟩).up (Nat.le_succ n)
theorem Both.feed (h : Both n S T) {c : Nat} (hc : c < 9) {x : Int32} (hx : 0 ≤ x.toInt ∧ x.toInt ≤ 20) : Both (n + 1) (s2 S 1 c x) (s2 T 1 (dbl c) x) := (show Both n _ _ from ⟨h.1.feed _ hx.1 hx.2, h.2.1.feed _ hx.1 hx.2, h.2.2.feed hc x⟩).up (Nat.le_succ n)
theorem Both.away (h : Both n S T) {m w c : Nat} (hc : c < 9) (hm : m < 512) (hw : w < 512) (em : S 10 0 = nI m) (ew : T 10 0 = nI w) : Both (n + 1) (s2 S 10 0 (nI (m ^^^ 2 ^ c))) (s2 T 10 0 (nI (w ^^^ 2 ^ dbl c))) := (show Both n _ _ from ⟨h.1.away (xor_lt m hm c hc), h.2.1.away (xor_lt w hw _ (dbl_lt c)), h.2.2.away hc hm hw em ew⟩).up (Nat.le_succ n)
theorem other_eq {a j : Nat} (ha : a < 9) (hj : j < 8) : ∃ o, o < 9 ∧ a ≠ o ∧ (nI a + 1 + nI j) - (nI a + 1 + nI j) / 9 * 9 = nI o := by
  refine ⟨(a + 1 + j) % 9, Nat.mod_lt _ (by decide), by omega, ?_⟩
  rw [nI_1, nI_add, show (9 : Int32) = nI 9 from rfl, pk_rem (by omega) (by decide) (by decide)]
theorem dbl_ne {a b : Nat} (ha : a < 9) (hb : b < 9) (h : a ≠ b) : dbl a ≠ dbl b := fun q => h (dbl_inj a ha b hb q)
theorem lk_s (w : HS) (T : Nat → Nat → Int32) {a b : Nat} (ha : a < 9) (hb : b < 9) (h : a ≠ b) {x : Int32} (hx : -9 ≤ x.toInt ∧ x.toInt ≤ 9) : D_X3_like w T (nI (dbl b)) (nI (dbl a)) x = (T 6 (px (dbl a) (dbl b)), D_X0_remember w T, s2 T 6 (px (dbl a) (dbl b)) x) := by
  rw [like_eq w T (dbl_lt b) (dbl_lt a) (Ne.symm (dbl_ne ha hb h)) hx, px_sw (dbl b) (dbl a)]
theorem aw_y (u : HS) (S : Nat → Nat → Int32) {m k : Nat} (hm : m < 512) (em : S 10 0 = nI m) (hk : k < 9) {al : Nat} (hal : al < 2) (h : bt m k = al) : D_X3_away u S (nI k) (nI al) = (nI (bsum (m ^^^ 2 ^ k)), D_X0_remember u S, s2 S 10 0 (nI (m ^^^ 2 ^ k))) := by rw [away_eq u S hm em hk hal, if_pos h]
theorem aw_n (u : HS) (S : Nat → Nat → Int32) {m k : Nat} (hm : m < 512) (em : S 10 0 = nI m) (hk : k < 9) {al : Nat} (hal : al < 2) (h : bt m k ≠ al) : D_X3_away u S (nI k) (nI al) = ((-1000005), u, S) := by rw [away_eq u S hm em hk hal, if_neg h]
theorem b_0 {m k : Nat} (c : nI (bt m k) = 0) : bt m k = 0 := by
  rcases bt_01 m k with q | q
  · exact q
  · rw [q] at c; exact absurd c (by decide)
theorem b_1 {m k : Nat} (c : ¬ nI (bt m k) = 0) : bt m k = 1 := by
  rcases bt_01 m k with q | q
  · rw [q] at c; exact absurd rfl c
  · exact q
theorem aw_b {m w k : Nat} (hk : k < 9) (h : ∀ k, k < 9 → bt w (dbl k) = bt m k) : bsum (w ^^^ 2 ^ dbl k) = bsum (m ^^^ 2 ^ k) := by
  refine bsum_dbl (fun j hj => ?_)
  rw [bt_xor, bt_xor, h k hk, h j hj]
  by_cases e : j = k
  · rw [if_pos e, if_pos (by rw [e])]
  · rw [if_neg e, if_neg (fun q => e (dbl_inj j hj k hk q))]
theorem aw_v {S : Nat → Nat → Int32} {m k : Nat} (hm : m < 512) (hk : k < 9) : D_X3_villager (s2 S 10 0 (nI (m ^^^ 2 ^ k))) (nI k) 0 = nI (1 - bt m k) := by
  rw [vi_0 _ hk, isT (xor_lt m hm k hk) s2_at hk, bt_xor, if_pos rfl]
theorem vi_b {S : Nat → Nat → Int32} {m k : Nat} (hm : m < 512) (em : S 10 0 = nI m) (hk : k < 9) : D_X3_villager S (nI k) 0 = nI (bt m k) := by rw [vi_0 _ hk, isT hm em hk]
theorem un_eq {u : HS} (h : hok u) (S : Nat → Nat → Int32) (c : ¬ nI u.1 = 0) : D_X3_undo u S = (nI (u.1 - 1), (u.1 - 1, u.2), D_X2_copyFrom S (u.2.2.2.2 (u.1 - 1))) := undo_eq u S (Nat.pos_of_ne_zero (fun q => c (by rw [q]; rfl))) h.1
theorem un_pos {u : HS} (c : ¬ nI u.1 = 0) : 0 < u.1 := Nat.pos_of_ne_zero (fun q => c (by rw [q]; rfl))
theorem HB.un {u w : HS} (h : HB n u w) (c : ¬ nI u.1 = 0) : Both (n + 1) (D_X2_copyFrom S (u.2.2.2.2 (u.1 - 1))) (D_X2_copyFrom T (w.2.2.2.2 (w.1 - 1))) := by
  have q := un_pos c
  have e := h.2.2.2 (u.1 - 1) (by omega)
  have e2 := h.1
  rw [← e2]
  exact (e.copy S T).up (Nat.le_succ n)
theorem HB.wn {u w : HS} (h : HB n u w) (c : ¬ nI u.1 = 0) : ¬ nI w.1 = 0 := by rw [← h.1]; exact c
end STP
/-! saved rings, two by two -/
abbrev RG : Type := Nat × (Nat → Nat) × (Nat → Nat → Int32)
def tl (Y : YY) (g : Option (RG × RG)) (wt : va_W) : va_W := match g with
  | none => wt
  | some (a, b) => wR Y a.1 a.2.1 a.2.2 ++ (wR Y b.1 b.2.1 b.2.2 ++ wt)
def gok (n : Nat) (g : Option (RG × RG)) : Prop := match g with
  | none => True
  | some (a, b) => Both n a.2.2 b.2.2
def gA (g : Option (RG × RG)) : Option Nat := g.map (fun q => q.1.1)
def gB (g : Option (RG × RG)) : Option Nat := g.map (fun q => q.2.1)
theorem gok.up {n k : Nat} {g : Option (RG × RG)} (h : gok n g) (hk : n ≤ k) : gok k g := by
  cases g with
  | none => exact h
  | some q => exact Both.up h hk
theorem tl_perm (Y : YY) (g : Option (RG × RG)) (wt : va_W) : (tl Y g wt).Perm (tl Y g [] ++ wt) := by
  cases g with
  | none => exact List.Perm.refl _
  | some q =>
    show (wR Y q.1.1 q.1.2.1 q.1.2.2 ++ (wR Y q.2.1 q.2.2.1 q.2.2.2 ++ wt)).Perm ((wR Y q.1.1 q.1.2.1 q.1.2.2 ++ (wR Y q.2.1 q.2.2.1 q.2.2.2 ++ [])) ++ wt)
    rw [List.append_nil, List.append_assoc]
theorem rsn_no (f : Nat → Option Nat) : D_X3_restore_n f 0 = (-1000005) ∧ D_X3_restore_n f 1 = (-1000005) := by
  constructor
  · unfold D_X3_restore_n; rw [if_neg (by decide)]
  · unfold D_X3_restore_n; rw [if_neg (by decide)]
theorem up_at {α : Type} {f : Nat → α} {k : Nat} {x : α} : va_up f k x k = x := by
  unfold va_up
  simp
theorem up_ne {α : Type} {f : Nat → α} {k j : Nat} {x : α} (h : j ≠ k) : va_up f k x j = f j := by
  unfold va_up
  simp [h]
theorem pl_nil {ws wc : va_W} (h : ws.Perm wc) : ws.Perm (wc ++ []) := by
  rw [List.append_nil]
  exact h
theorem pls_cons {ws b r w : va_W} (h1 : ws.Perm (b ++ r)) (h2 : r.Perm w) : ws.Perm (b ++ w) := h1.trans (h2.append_left b)

/-! for the law's look at a round -/
def fillS (f : Nat → Int32) (k : Nat) : Nat → Int32 := fun j => if j < k then f j else 0
theorem fill_0 (f : Nat → Int32) : fillS f 0 = fun _ => 0 := by
  funext j
  unfold fillS
  rw [if_neg (by omega)]
theorem fill_up {f : Nat → Int32} {k : Nat} (hk : k < 9) : fillS f (k + 1) = upd (fillS f k) (nI k).toNatClampNeg (f k) := by
  funext j
  rw [nI_clamp (by omega)]
  unfold fillS upd
  by_cases h : j = k
  · subst h; simp
  · rw [if_neg h]
    show (if j < k + 1 then f j else 0) = if j < k then f j else 0
    by_cases h2 : j < k
    · rw [if_pos h2, if_pos (by omega)]
    · rw [if_neg h2, if_neg (by omega)]
theorem fill_at {f : Nat → Int32} {k : Nat} (hk : k < 9) : fillS f 9 (nI k).toNatClampNeg = f k := by
  rw [nI_clamp (by omega)]
  exact if_pos hk
/-- the partner as the face tells him -/
def ptv (v k : Nat) : Int32 := if cn (v % 9) k = k then (-1000006) else nI (cn (v % 9) k)
theorem cn9 (v : Nat) {k : Nat} (hk : k < 9) : cn (v % 9) k < 9 := (cn_ok _ (Nat.mod_lt _ (by decide)) k hk).1
theorem ptv_lt {v k : Nat} (hk : k < 9) : ptv v k < 0 ↔ cn (v % 9) k = k := by
  have h9 := cn9 v hk
  unfold ptv
  by_cases h : cn (v % 9) k = k
  · rw [if_pos h]; exact ⟨fun _ => h, fun _ => by decide⟩
  · rw [if_neg h]; exact ⟨fun q => absurd q (nI_pos (by omega)), fun q => absurd q h⟩
theorem ptv_ne {v k : Nat} (hk : k < 9) (c : ¬ ptv v k < 0) : ptv v k = nI (cn (v % 9) k) := by
  unfold ptv
  rw [if_neg (fun q => c ((ptv_lt hk).mpr q))]
theorem ptv_in {v k : Nat} (hk : k < 9) (c : ¬ ptv v k < 0) : vp_in (ptv v k) 9 := by
  rw [ptv_ne hk c]
  exact vp_in_nI (cn9 v hk) (by decide)
theorem th1 {S : Nat → Nat → Int32} {k : Nat} : D_X2_isThere S (nI k) = 1 ↔ thr S k := by
  unfold thr D_X2_isThere
  split
  · exact ⟨fun q => absurd q (by decide), fun q => absurd rfl q⟩
  · exact ⟨fun _ => by decide, fun _ => rfl⟩
theorem ci_no {S : Nat → Nat → Int32} {t k : Nat} (h : ¬ cand S t k) : nI (ci S t k) = 0 := by
  unfold ci
  rw [if_neg h]; rfl
theorem ci_yes {S : Nat → Nat → Int32} {t k : Nat} (h : cand S t k) : nI (ci S t k) = 1 := by
  unfold ci
  rw [if_pos h]; rfl
theorem ci_iff {S : Nat → Nat → Int32} {t k : Nat} : nI (ci S t k) = 0 ↔ ¬ cand S t k := by
  constructor
  · intro q c
    rw [ci_yes c] at q
    exact absurd q (by decide)
  · exact ci_no
section CI
variable {S : Nat → Nat → Int32} {v k : Nat}
theorem can_a (hk : k < 9) (c : ptv v k < 0) : nI (ci S (v % 9) k) = 0 := ci_no (fun q => q.1 ((ptv_lt hk).mp c))
theorem can_b (c : ¬ D_X2_isThere S (nI k) = 1) : nI (ci S (v % 9) k) = 0 := ci_no (fun q => c (th1.mpr q.2.1))
theorem can_c (c : ¬ D_X2_isThere S (nI (cn (v % 9) k)) = 1) : nI (ci S (v % 9) k) = 0 := ci_no (fun q => c (th1.mpr q.2.2.1))
theorem can_d (c : S 1 k < S 0 0) : nI (ci S (v % 9) k) = 0 := ci_no (fun q => q.2.2.2.1 c)
theorem can_e (c : S 1 (cn (v % 9) k) < S 0 0) : nI (ci S (v % 9) k) = 0 := ci_no (fun q => q.2.2.2.2 c)
theorem can_y (hk : k < 9) (c1 : ¬ ptv v k < 0) (c2 : D_X2_isThere S (nI k) = 1) (c3 : D_X2_isThere S (nI (cn (v % 9) k)) = 1) (c4 : ¬ S 1 k < S 0 0) (c5 : ¬ S 1 (cn (v % 9) k) < S 0 0) : nI (ci S (v % 9) k) = 1 :=
  ci_yes ⟨fun q => c1 ((ptv_lt hk).mpr q), th1.mp c2, th1.mp c3, c4, c5⟩
end CI
/-- the sum of those who can -/
def cis (S : Nat → Nat → Int32) (t : Nat) : Nat → Nat := sn (ci S t)
theorem cis_9 (S : Nat → Nat → Int32) (v : Nat) : nI (cis S (v % 9) 9) = 2 * nI (pc S (v % 9) 9) := by
  have h := two_pc S (t := v % 9) (Nat.mod_lt _ (by decide))
  rw [show (2 : Int32) = nI 2 from rfl, pk_mul]
  congr 1
  show sn (ci S (v % 9)) 9 = _
  simp only [sn]
  omega
theorem cis_y {S : Nat → Nat → Int32} {t k : Nat} (c : ¬ nI (ci S t k) = 0) : nI (cis S t (k + 1)) = nI (cis S t k) + 1 := by
  have : cand S t k := Classical.not_not.mp (fun q => c (ci_iff.mpr q))
  rw [nI_1]
  show nI (cis S t k + ci S t k) = _
  unfold ci
  rw [if_pos this]
theorem cis_n {S : Nat → Nat → Int32} {t k : Nat} (c : nI (ci S t k) = 0) : nI (cis S t (k + 1)) = nI (cis S t k) + 0 := by
  show nI (cis S t k + ci S t k) = _
  have := ci_iff.mp c
  unfold ci
  rw [if_neg this]
  simp

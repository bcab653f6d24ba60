/-! the round's places, as the law asks for them -/
section RD
variable {S : Nat → Nat → Int32} {v k : Nat}
theorem cy (c : ¬ nI (ci S (v % 9) k) = 0) : cand S (v % 9) k := Classical.not_not.mp (fun q => c (ci_iff.mpr q))
theorem rd_y (hk : k < 9) (c : ¬ nI (ci S (v % 9) k) = 0) : RS S v 3 k = S 3 k + 1 := by rw [RS_3 S v hk]; unfold nD; rw [if_pos (cy c)]
theorem rd_n (hk : k < 9) (c : nI (ci S (v % 9) k) = 0) : RS S v 3 k = S 3 k + 0 := by rw [RS_3 S v hk]; unfold nD; rw [if_neg (ci_iff.mp c)]; simp
theorem rr_y (hk : k < 9) (c : ¬ nI (ci S (v % 9) k) = 0) : RS S v 4 k = S 4 k + 0 := by rw [RS_4 S v hk]; unfold nR; rw [if_pos (cy c)]; simp
theorem rr_t (hk : k < 9) (c : nI (ci S (v % 9) k) = 0) (t : D_X2_isThere S (nI k) = 1) : RS S v 4 k = S 4 k + 1 := by rw [RS_4 S v hk]; unfold nR; rw [if_neg (ci_iff.mp c), if_pos (th1.mp t)]
theorem rr_n (hk : k < 9) (c : nI (ci S (v % 9) k) = 0) (t : ¬ D_X2_isThere S (nI k) = 1) : RS S v 4 k = S 4 k + 0 := by rw [RS_4 S v hk]; unfold nR; rw [if_neg (ci_iff.mp c), if_neg (fun q => t (th1.mpr q))]; simp
theorem rs_y (hk : k < 9) (c : ¬ nI (ci S (v % 9) k) = 0) : RS S v 1 k = S 1 k - S 0 0 := by rw [RS_1 S v hk]; unfold nS; rw [if_pos (cy c)]
theorem rs_t (hk : k < 9) (c : nI (ci S (v % 9) k) = 0) (t : D_X2_isThere S (nI k) = 1) : RS S v 1 k = mn S k := by rw [RS_1 S v hk]; unfold nS; rw [if_neg (ci_iff.mp c), if_pos (th1.mp t)]
theorem rs_n (hk : k < 9) (c : nI (ci S (v % 9) k) = 0) (t : ¬ D_X2_isThere S (nI k) = 1) : RS S v 1 k = S 1 k := by rw [RS_1 S v hk]; unfold nS; rw [if_neg (ci_iff.mp c), if_neg (fun q => t (th1.mpr q))]
theorem r8_y (hk : k < 9) (c : ¬ nI (ci S (v % 9) k) = 0) : D_X3_pair (RS S v) (nI k) (ptv v k) 4 = S 10 1 := by
  have q := cy c
  have h9 := cn9 v hk
  rw [ptv_ne hk (fun z => q.1 ((ptv_lt hk).mp z)), pa_4 _ hk h9 (fun z => q.1 z.symm), RS_8, if_pos ((dp_px (Nat.mod_lt _ (by decide)) hk h9 (fun z => q.1 z.symm)).mpr ⟨rfl, q⟩)]
theorem mn_y (c : S 1 k + S 0 1 ≤ 20) : mn S k = S 1 k + S 0 1 := by
  unfold mn
  rw [if_neg (Int32.not_lt.mpr c)]
theorem mn_n (c : ¬ S 1 k + S 0 1 ≤ 20) : mn S k = 20 := by
  unfold mn
  rw [if_pos (Int32.not_le.mp c)]
end RD
theorem pt_pv (S : Nat → Nat → Int32) {k v : Nat} (hk : k < 9) (hv : v < 1000) : D_X3_partner S (nI k) (nI v) = ptv v k := pt_eq S hk hv
theorem vi_0R (S : Nat → Nat → Int32) (v : Nat) {k : Nat} (hk : k < 9) : D_X3_villager (RS S v) (nI k) 0 = D_X2_isThere S (nI k) := by rw [vi_0 _ hk, RS_thr]
theorem vi_0P (S : Nat → Nat → Int32) (v : Nat) {k : Nat} (hk : k < 9) (c : ¬ ptv v k < 0) : D_X3_villager (RS S v) (ptv v k) 0 = D_X2_isThere S (nI (cn (v % 9) k)) := by rw [ptv_ne hk c]; exact vi_0R S v (cn9 v hk)
theorem fill_P {f : Nat → Int32} {v k : Nat} (hk : k < 9) (c : ¬ ptv v k < 0) : fillS f 9 (ptv v k).toNatClampNeg = f (cn (v % 9) k) := by rw [ptv_ne hk c]; exact fill_at (cn9 v hk)
theorem pc_4 (S : Nat → Nat → Int32) (v : Nat) : ¬ (4 : Int32) < nI (pc S (v % 9) 9) := by
  have h := two_pc S (t := v % 9) (Nat.mod_lt _ (by decide))
  have q : ∀ k, ci S (v % 9) k ≤ 1 := fun k => by unfold ci; split <;> omega
  have := q 0; have := q 1; have := q 2; have := q 3; have := q 4; have := q 5; have := q 6; have := q 7; have := q 8
  exact nI_nlt (a := 4) (by omega) (by decide)

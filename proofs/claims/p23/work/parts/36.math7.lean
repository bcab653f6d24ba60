/-! sums -/
def sn (f : Nat → Nat) : Nat → Nat
  | 0 => 0
  | k + 1 => sn f k + f k
theorem sn_congr {f g : Nat → Nat} : ∀ n, (∀ k, k < n → f k = g k) → sn f n = sn g n
  | 0, _ => rfl
  | n + 1, h => by
    show sn f n + f n = sn g n + g n
    rw [sn_congr n (fun k hk => h k (by omega)), h n (by omega)]
theorem sn_le {f : Nat → Nat} {c : Nat} : ∀ n, (∀ k, k < n → f k ≤ c) → sn f n ≤ n * c
  | 0, _ => by simp [sn]
  | n + 1, h => by
    have h1 := sn_le n (fun k hk => h k (by omega))
    have h2 := h n (by omega)
    show sn f n + f n ≤ (n + 1) * c
    rw [Nat.succ_mul]
    omega
theorem sm_nI {f : Nat → Int32} {g : Nat → Nat} : ∀ n, (∀ k, k < n → f k = nI (g k)) → sm f n = nI (sn g n)
  | 0, _ => rfl
  | n + 1, h => by
    show sm f n + f n = nI (sn g n + g n)
    rw [sm_nI n (fun k hk => h k (by omega)), h n (by omega), nI_add]
theorem sn_dbl {f g : Nat → Nat} (h : ∀ k, k < 9 → g (dbl k) = f k) : sn g 9 = sn f 9 := by
  have e0 := h 0 (by decide); have e1 := h 1 (by decide); have e2 := h 2 (by decide); have e3 := h 3 (by decide); have e4 := h 4 (by decide)
  have e5 := h 5 (by decide); have e6 := h 6 (by decide); have e7 := h 7 (by decide); have e8 := h 8 (by decide)
  simp only [show dbl 0 = 0 from rfl, show dbl 1 = 2 from rfl, show dbl 2 = 4 from rfl, show dbl 3 = 6 from rfl, show dbl 4 = 8 from rfl, show dbl 5 = 1 from rfl, show dbl 6 = 3 from rfl, show dbl 7 = 5 from rfl, show dbl 8 = 7 from rfl] at e0 e1 e2 e3 e4 e5 e6 e7 e8
  simp only [sn]
  omega
theorem sm_dbl {f g : Nat → Int32} (h : ∀ k, k < 9 → g (dbl k) = f k) : sm g 9 = sm f 9 := by
  have e0 := h 0 (by decide); have e1 := h 1 (by decide); have e2 := h 2 (by decide); have e3 := h 3 (by decide); have e4 := h 4 (by decide)
  have e5 := h 5 (by decide); have e6 := h 6 (by decide); have e7 := h 7 (by decide); have e8 := h 8 (by decide)
  simp only [show dbl 0 = 0 from rfl, show dbl 1 = 2 from rfl, show dbl 2 = 4 from rfl, show dbl 3 = 6 from rfl, show dbl 4 = 8 from rfl, show dbl 5 = 1 from rfl, show dbl 6 = 3 from rfl, show dbl 7 = 5 from rfl, show dbl 8 = 7 from rfl] at e0 e1 e2 e3 e4 e5 e6 e7 e8
  simp only [sm]
  rw [e0, e1, e2, e3, e4, e5, e6, e7, e8]
  ac_rfl
theorem so_L (n : Nat) (f : Nat → Int32) (hn : n < 2 ^ 31) : ∀ fu k, k ≤ n → n + 1 ≤ k + fu → L_X3_sumOf_10 n f fu (nI k) (sm f k) = sm f n := by
  intro fu
  induction fu with
  | zero => intro k h1 h2; exact absurd h2 (by omega)
  | succ fu ih =>
    intro k h1 h2
    rw [L_X3_sumOf_10]
    by_cases c : nI n ≤ nI k
    · rw [if_pos c]
      have := (nI_leI hn (by omega)).mp c
      obtain rfl : k = n := by omega
      rfl
    · rw [if_neg c]
      have hk : k < n := my_lt rfl rfl hn h1 c
      rw [nI_clamp (by omega), nI_1, show sm f k + f k = sm f (k + 1) from rfl]
      exact ih (k + 1) (by omega) (by omega)
theorem sumOf_eq {n : Nat} (hn : n < 2 ^ 31) (f : Nat → Int32) : D_X3_sumOf n f = sm f n := by
  unfold D_X3_sumOf
  have := so_L n f hn (n + 1) 0 (by omega) (by omega)
  rw [show nI 0 = 0 from rfl, show sm f 0 = 0 from rfl] at this
  exact this
theorem of_ti {x : Int32} (h : 0 ≤ x.toInt) : x = nI x.toInt.toNat := by
  apply Int32.toInt_inj.mp
  have := Int32.toInt_lt x
  rw [nI_toInt (by omega)]
  omega
/-- dances in all, and by villagers -/
theorem half81 {d : Nat → Nat} (h : ∀ j, j < 81 → ¬ j / 9 < j % 9 → d j = 0) : sn (fun a => sn (fun b => if b = a then 0 else d (px a b)) 9) 9 = 2 * sn d 81 := by
  have z : ∀ j, j < 81 → Nat.ble (j % 9) (j / 9) = true → d j = 0 := fun j hj q => h j hj (by have := Nat.le_of_ble_eq_true q; omega)
  have z0 := z 0 (by decide) rfl
  have z9 := z 9 (by decide) rfl; have z10 := z 10 (by decide) rfl
  have z18 := z 18 (by decide) rfl; have z19 := z 19 (by decide) rfl; have z20 := z 20 (by decide) rfl
  have z27 := z 27 (by decide) rfl; have z28 := z 28 (by decide) rfl; have z29 := z 29 (by decide) rfl; have z30 := z 30 (by decide) rfl
  have z36 := z 36 (by decide) rfl; have z37 := z 37 (by decide) rfl; have z38 := z 38 (by decide) rfl; have z39 := z 39 (by decide) rfl; have z40 := z 40 (by decide) rfl
  have z45 := z 45 (by decide) rfl; have z46 := z 46 (by decide) rfl; have z47 := z 47 (by decide) rfl; have z48 := z 48 (by decide) rfl; have z49 := z 49 (by decide) rfl; have z50 := z 50 (by decide) rfl
  have z54 := z 54 (by decide) rfl; have z55 := z 55 (by decide) rfl; have z56 := z 56 (by decide) rfl; have z57 := z 57 (by decide) rfl; have z58 := z 58 (by decide) rfl; have z59 := z 59 (by decide) rfl; have z60 := z 60 (by decide) rfl
  have z63 := z 63 (by decide) rfl; have z64 := z 64 (by decide) rfl; have z65 := z 65 (by decide) rfl; have z66 := z 66 (by decide) rfl; have z67 := z 67 (by decide) rfl; have z68 := z 68 (by decide) rfl; have z69 := z 69 (by decide) rfl; have z70 := z 70 (by decide) rfl
  have z72 := z 72 (by decide) rfl; have z73 := z 73 (by decide) rfl; have z74 := z 74 (by decide) rfl; have z75 := z 75 (by decide) rfl; have z76 := z 76 (by decide) rfl; have z77 := z 77 (by decide) rfl; have z78 := z 78 (by decide) rfl; have z79 := z 79 (by decide) rfl; have z80 := z 80 (by decide) rfl
  clear z h
  simp only [sn, px]
  simp only [Nat.reduceEqDiff, Nat.reduceLeDiff, if_true, if_false, Nat.reduceMul, Nat.reduceAdd, Nat.zero_le, z0, z9, z10, z18, z19, z20, z27, z28, z29, z30, z36, z37, z38, z39, z40, z45, z46, z47, z48, z49, z50, z54, z55, z56, z57, z58, z59, z60, z63, z64, z65, z66, z67, z68, z69, z70, z72, z73, z74, z75, z76, z77, z78, z79, z80]
  simp
  omega
theorem Inv.all {n : Nat} {S : Nat → Nat → Int32} (h : Inv n S) (hn : n ≤ 200) : ∃ X : Nat, X ≤ 20000 ∧ sm (S 7) 81 = nI X ∧ (∀ a, a < 9 → S 3 a = nI (S 3 a).toInt.toNat ∧ (S 3 a).toInt.toNat ≤ 2000) ∧ 2 * X = sn (fun a => (S 3 a).toInt.toNat) 9 := by
  obtain ⟨h1, h2, h3, h4, h5, h6, h7, h8, h9⟩ := h
  have hd : ∀ j, j < 81 → S 7 j = nI (S 7 j).toInt.toNat ∧ (S 7 j).toInt.toNat ≤ 200 := fun j hj => by
    have q := h6 j hj
    have q2 := h7 ((j / 9 + j % 9) % 9) (Nat.mod_lt _ (by decide))
    exact ⟨of_ti q.1, by omega⟩
  have h3 : ∀ a, a < 9 → S 3 a = nI (S 3 a).toInt.toNat ∧ (S 3 a).toInt.toNat ≤ 2000 := fun a ha => by
    have q := h5 a ha
    exact ⟨of_ti q.1, by omega⟩
  have hs := sm_nI (f := S 7) 81 (fun j hj => (hd j hj).1)
  have hh := half81 (d := fun j => (S 7 j).toInt.toNat) (fun j hj hc => by
    show (S 7 j).toInt.toNat = 0
    rw [(h6 j hj).2.2.2 hc]; rfl)
  refine ⟨_, ?_, hs, h3, ?_⟩
  · exact Nat.le_trans (sn_le 81 (fun j hj => (hd j hj).2)) (by decide)
  · rw [← hh]
    refine sn_congr 9 (fun a ha => ?_)
    have e := h8 a ha
    rw [sm_nI (g := fun b => if b = a then 0 else (S 7 (px a b)).toInt.toNat) 9 (fun b hb => by
      unfold dw
      split
      · rfl
      · exact (hd _ (px_lt a ha b hb)).1), (h3 a ha).1] at e
    refine (nI_eq ?_ ?_).mp e
    · have := sn_le (f := fun b => if b = a then 0 else (S 7 (px a b)).toInt.toNat) (c := 200) 9 (fun b hb => by
        show (if b = a then 0 else (S 7 (px a b)).toInt.toNat) ≤ 200
        split
        · omega
        · exact (hd _ (px_lt a ha b hb)).2)
      omega
    · have := (h3 a ha).2
      omega
/-- dances in all are the same with both -/
theorem Both.c5 {n : Nat} {S T : Nat → Nat → Int32} (h : Both n S T) (hn : n ≤ 200) : sm (T 7) 81 = sm (S 7) 81 := by
  obtain ⟨X, hX, e1, h3, e2⟩ := h.1.all hn
  obtain ⟨Z, hZ, f1, g3, f2⟩ := h.2.1.all hn
  have : sn (fun a => (T 3 a).toInt.toNat) 9 = sn (fun a => (S 3 a).toInt.toNat) 9 := sn_dbl (fun k hk => by
    show (T 3 (dbl k)).toInt.toNat = (S 3 k).toInt.toNat
    rw [h.2.2.2.2.2.1 3 (by decide) (by decide) k hk])
  rw [e1, f1]
  congr 1
  omega
/-- and by a round -/
theorem Inv.c5 {n : Nat} {S : Nat → Nat → Int32} (h : Inv n S) (hn : n ≤ 100) (v : Nat) : sm (RS S v 7) 81 = sm (S 7) 81 + nI (pc S (v % 9) 9) := by
  have ht : v % 9 < 9 := Nat.mod_lt _ (by decide)
  obtain ⟨X, hX, e1, h3, e2⟩ := h.all (by omega)
  obtain ⟨Z, hZ, f1, g3, f2⟩ := (h.round hn v).all (by omega)
  have hp := two_pc S ht
  have hq : ∀ a, a < 9 → (RS S v 3 a).toInt.toNat = (S 3 a).toInt.toNat + ci S (v % 9) a := fun a ha => by
    rw [RS_3 S v ha]
    unfold nD ci
    have := h.2.2.2.2.1 a ha
    have h2 := h.2.1
    split
    · rw [ti_inc this.1 (by omega)]; omega
    · rfl
  have e : sn (fun a => (RS S v 3 a).toInt.toNat) 9 = sn (fun a => (S 3 a).toInt.toNat + ci S (v % 9) a) 9 := sn_congr 9 hq
  rw [e1, f1, nI_add]
  congr 1
  rw [f2.symm] at e
  simp only [sn] at e e2
  omega

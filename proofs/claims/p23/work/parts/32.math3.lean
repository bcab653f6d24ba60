/-! what always holds of a state -/
theorem sX_ap {S : Nat → Nat → Int32} {k a j : Nat} {f : Nat → Int32} : sX S k f a j = if a = k then f j else S a j := by
  unfold sX
  by_cases h : a = k
  · subst h; rw [if_pos rfl, Nat.beq_refl]; rfl
  · rw [if_neg h]
    cases hb : Nat.beq a k with
    | false => rfl
    | true => exact absurd (Nat.eq_of_beq_eq_true hb) h
theorem cr_at {n : Nat} {f h : Nat → Int32} {j : Nat} (hn : n < 2 ^ 31) (hj : j < n) : D_X2_copyRow n f h j = f j := by
  unfold D_X2_copyRow T_X2_copyRow_1
  rw [nI_clamp hn, show (0 : Int32).toNatClampNeg = 0 from rfl, pk_cpy_in (Nat.zero_le _) (by omega)]
  congr 1
  omega
/-- the places of a state -/
abbrev inr (row j : Nat) : Prop := (row = 0 ∧ j < 3) ∨ (row = 1 ∧ j < 9) ∨ (row = 2 ∧ j < 9) ∨ (row = 3 ∧ j < 9) ∨ (row = 4 ∧ j < 9) ∨ (row = 5 ∧ j < 9) ∨ (row = 6 ∧ j < 81) ∨ (row = 7 ∧ j < 81) ∨ (row = 8 ∧ j < 81) ∨ (row = 9 ∧ j < 9) ∨ (row = 10 ∧ j < 2)
def cl (T S : Nat → Nat → Int32) : Prop := ∀ row j, inr row j → T row j = S row j
theorem cf_cl (Z S : Nat → Nat → Int32) : cl (D_X2_copyFrom Z S) S := by
  intro row j h
  unfold D_X2_copyFrom T_X2_copyFrom_13 T_X2_copyFrom_12 T_X2_copyFrom_11 T_X2_copyFrom_10 T_X2_copyFrom_9 T_X2_copyFrom_8 T_X2_copyFrom_7 T_X2_copyFrom_6 T_X2_copyFrom_5 T_X2_copyFrom_4 T_X2_copyFrom_3 T_X2_copyFrom_2 T_X2_copyFrom_1
  rcases h with ⟨rfl, hj⟩ | ⟨rfl, hj⟩ | ⟨rfl, hj⟩ | ⟨rfl, hj⟩ | ⟨rfl, hj⟩ | ⟨rfl, hj⟩ | ⟨rfl, hj⟩ | ⟨rfl, hj⟩ | ⟨rfl, hj⟩ | ⟨rfl, hj⟩ | ⟨rfl, hj⟩
  all_goals simp [s2_ap, sX_ap, cr_at, hj]
  · by_cases h1 : j = 1
    · subst h1; simp
    · have h0 : j = 0 := by omega
      subst h0; simp
def sm (f : Nat → Int32) : Nat → Int32
  | 0 => 0
  | k + 1 => sm f k + f k
theorem sm_congr {f g : Nat → Int32} : ∀ n, (∀ k, k < n → f k = g k) → sm f n = sm g n
  | 0, _ => rfl
  | n + 1, h => by
    show sm f n + f n = sm g n + g n
    rw [sm_congr n (fun k hk => h k (by omega)), h n (by omega)]
theorem sm_add (f g : Nat → Int32) : ∀ n, sm (fun k => f k + g k) n = sm f n + sm g n
  | 0 => rfl
  | n + 1 => by
    show sm (fun k => f k + g k) n + (f n + g n) = (sm f n + f n) + (sm g n + g n)
    rw [sm_add f g n]
    ac_rfl
theorem sm_one {n : Nat} {a : Nat} (x : Int32) : ∀ n, sm (fun k => if k = a then x else 0) n = if a < n then x else 0
  | 0 => by simp [sm]
  | n + 1 => by
    show sm (fun k => if k = a then x else 0) n + (if n = a then x else 0) = _
    rw [sm_one x n]
    · by_cases h : n = a
      · subst h; simp
      · by_cases h2 : a < n
        · rw [if_pos h2, if_neg h, if_pos (by omega)]; simp
        · rw [if_neg h2, if_neg h, if_neg (by omega)]; simp
    · exact 0
theorem ti_inc {x : Int32} (h0 : 0 ≤ x.toInt) (h1 : x.toInt ≤ 1000) : (x + 1).toInt = x.toInt + 1 := by
  rw [Int32.toInt_add, show (1 : Int32).toInt = 1 from rfl]
  unfold Int.bmod
  dsimp only
  split <;> omega
theorem ti_addB {x y : Int32} (h0 : 0 ≤ x.toInt) (h1 : x.toInt ≤ 1000) (h2 : 0 ≤ y.toInt) (h3 : y.toInt ≤ 1000) : (x + y).toInt = x.toInt + y.toInt := by
  rw [Int32.toInt_add]
  unfold Int.bmod
  dsimp only
  split <;> omega
theorem ti_subB {x y : Int32} (h0 : 0 ≤ x.toInt) (h1 : x.toInt ≤ 1000) (h2 : 0 ≤ y.toInt) (h3 : y.toInt ≤ 1000) : (x - y).toInt = x.toInt - y.toInt := by
  rw [Int32.toInt_sub]
  unfold Int.bmod
  dsimp only
  split <;> omega
/-- dances of one with each -/
def dw (S : Nat → Nat → Int32) (a b : Nat) : Int32 := if b = a then 0 else S 7 (px a b)
def Inv (n : Nat) (S : Nat → Nat → Int32) : Prop :=
  (∃ m, m < 512 ∧ S 10 0 = nI m) ∧ (0 ≤ (S 10 1).toInt ∧ (S 10 1).toInt ≤ n) ∧
  (0 ≤ (S 0 0).toInt ∧ (S 0 0).toInt ≤ 9 ∧ 0 ≤ (S 0 1).toInt ∧ (S 0 1).toInt ≤ 9) ∧
  (∀ k, k < 9 → 0 ≤ (S 1 k).toInt ∧ (S 1 k).toInt ≤ 20) ∧
  (∀ k, k < 9 → 0 ≤ (S 3 k).toInt ∧ 0 ≤ (S 5 k).toInt ∧ (S 5 k).toInt ≤ (S 4 k).toInt ∧ (S 3 k).toInt + (S 4 k).toInt ≤ (S 10 1).toInt) ∧
  (∀ j, j < 81 → 0 ≤ (S 7 j).toInt ∧ (S 7 j).toInt ≤ (S 9 ((j / 9 + j % 9) % 9)).toInt ∧ (j / 9 < j % 9 → (S 7 j = 0 ↔ S 8 j = -1000006)) ∧ (¬ j / 9 < j % 9 → S 7 j = 0)) ∧
  (∀ k, k < 9 → 0 ≤ (S 9 k).toInt ∧ (S 9 k).toInt ≤ (S 10 1).toInt) ∧
  (∀ a, a < 9 → sm (dw S a) 9 = S 3 a) ∧ sm (S 9) 9 = S 10 1
theorem px_lt : ∀ a, a < 9 → ∀ b, b < 9 → px a b < 81 := by decide
theorem Inv.cl {n : Nat} {S T : Nat → Nat → Int32} (h : Inv n S) (c : cl T S) : Inv n T := by
  have c0 : T 10 0 = S 10 0 := c 10 0 (by unfold inr; simp)
  have c1 : T 10 1 = S 10 1 := c 10 1 (by unfold inr; simp)
  have s0 : T 0 0 = S 0 0 := c 0 0 (by unfold inr; simp)
  have s1 : T 0 1 = S 0 1 := c 0 1 (by unfold inr; simp)
  have r1 : ∀ k, k < 9 → T 1 k = S 1 k := fun k hk => c 1 k (by unfold inr; simp [hk])
  have r3 : ∀ k, k < 9 → T 3 k = S 3 k := fun k hk => c 3 k (by unfold inr; simp [hk])
  have r4 : ∀ k, k < 9 → T 4 k = S 4 k := fun k hk => c 4 k (by unfold inr; simp [hk])
  have r5 : ∀ k, k < 9 → T 5 k = S 5 k := fun k hk => c 5 k (by unfold inr; simp [hk])
  have r7 : ∀ k, k < 81 → T 7 k = S 7 k := fun k hk => c 7 k (by unfold inr; simp [hk])
  have r8 : ∀ k, k < 81 → T 8 k = S 8 k := fun k hk => c 8 k (by unfold inr; simp [hk])
  have r9 : ∀ k, k < 9 → T 9 k = S 9 k := fun k hk => c 9 k (by unfold inr; simp [hk])
  obtain ⟨h1, h2, h3, h4, h5, h6, h7, h8, h9⟩ := h
  refine ⟨by rw [c0]; exact h1, by rw [c1]; exact h2, by rw [s0, s1]; exact h3, fun k hk => by rw [r1 k hk]; exact h4 k hk, fun k hk => by rw [r3 k hk, r4 k hk, r5 k hk, c1]; exact h5 k hk, fun j hj => by rw [r7 j hj, r8 j hj, r9 _ (Nat.mod_lt _ (by decide))]; exact h6 j hj, fun k hk => by rw [r9 k hk, c1]; exact h7 k hk, fun a ha => ?_, ?_⟩
  · rw [r3 a ha, ← h8 a ha]
    refine sm_congr 9 (fun b hb => ?_)
    unfold dw
    by_cases e : b = a
    · rw [if_pos e, if_pos e]
    · rw [if_neg e, if_neg e, r7 _ (px_lt a ha b hb)]
  · rw [c1, ← h9]
    exact sm_congr 9 r9

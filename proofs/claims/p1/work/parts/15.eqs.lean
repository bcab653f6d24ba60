/-! THE ANSWERS OF THE TWO FRESH OBJECTS: plain facts on numbers -/
theorem s2_ne {S : Nat → Nat → Int32} {k i a : Nat} {x : Int32} (h : a ≠ k) : s2 S k i x a = S a := by
  unfold s2
  cases hb : Nat.beq a k with
  | false => rfl
  | true => exact absurd (Nat.eq_of_beq_eq_true hb) h
theorem off_nat (c k : Nat) (h : c + k < 2 ^ 31) : (nI c + nI k).toNatClampNeg = c + k := by rw [nI_add, nI_clamp h]
def A0 (j : Nat) : Int32 := if j < 1 then 2 else if j < 2 then 3 else if j < 3 then 2 else if j < 5 then 0 else if j < 6 then (-1000006) else if j < 15 then 0 else if j < 24 then 1 else if j < 33 then 10 else if j < 231 then 0 else if j < 312 then (-1000006) else 0
def M0 : Nat → Nat → Int32 := fun k => cond (Nat.beq k 0) A0 (fun _ => 0)
theorem l110 : ∀ (n k : Nat) (f : Nat → Int32), k ≤ 9 → 10 ≤ k + n → (∀ j, f j = if 15 ≤ j ∧ j < 15 + k then 1 else if 24 ≤ j ∧ j < 24 + k then 10 else T_X4_init_4 j) → ∀ j, L_X4_init_110 n (nI k) f j = if 15 ≤ j ∧ j < 24 then 1 else if 24 ≤ j ∧ j < 33 then 10 else T_X4_init_4 j := by
  intro n
  induction n with
  | zero => intro k f h1 h2; exact absurd h2 (by omega)
  | succ n ih =>
    intro k f hk hn hf j
    rw [L_X4_init_110]
    by_cases c : (9 : Int32) ≤ nI k
    · rw [if_pos c]
      have h9 : 9 ≤ k := (nI_leI (by decide) (by omega)).mp c
      obtain rfl : k = 9 := by omega
      exact hf j
    · rw [if_neg c]
      have h9 : k < 9 := my_lt rfl (show (9 : Int32) = nI 9 from rfl) (by decide) hk c
      rw [nI_1]
      refine ih (k + 1) _ (by omega) (by omega) (fun j => ?_) j
      show upd (upd f (15 + nI k).toNatClampNeg 1) (24 + nI k).toNatClampNeg 10 j = _
      rw [show (15 + nI k : Int32).toNatClampNeg = 15 + k from off_nat 15 k (by omega), show (24 + nI k : Int32).toNatClampNeg = 24 + k from off_nat 24 k (by omega)]
      unfold upd
      simp only [hf]
      (repeat' split) <;> first | rfl | (exfalso; omega)
theorem l145 (g : Nat → Int32) : ∀ (n k : Nat) (f : Nat → Int32), k ≤ 81 → 82 ≤ k + n → (∀ j, f j = if 231 ≤ j ∧ j < 231 + k then (-1000006) else g j) → ∀ (h : Nat → Int32) (j : Nat), L_X4_init_145 h n (nI k) f j = if 231 ≤ j ∧ j < 312 then (-1000006) else g j := by
  intro n
  induction n with
  | zero => intro k f h1 h2; exact absurd h2 (by omega)
  | succ n ih =>
    intro k f hk hn hf h j
    rw [L_X4_init_145]
    by_cases c : (81 : Int32) ≤ nI k
    · rw [if_pos c]
      have h9 : 81 ≤ k := (nI_leI (by decide) (by omega)).mp c
      obtain rfl : k = 81 := by omega
      exact hf j
    · rw [if_neg c]
      have h9 : k < 81 := my_lt rfl (show (81 : Int32) = nI 81 from rfl) (by decide) hk c
      rw [nI_1]
      refine ih (k + 1) _ (by omega) (by omega) (fun j => ?_) h j
      show upd f (231 + nI k).toNatClampNeg (-1000006) j = _
      rw [show (231 + nI k : Int32).toNatClampNeg = 231 + k from off_nat 231 k (by omega)]
      unfold upd
      simp only [hf]
      (repeat' split) <;> first | rfl | (exfalso; omega)
theorem init4 (j : Nat) : T_X4_init_4 j = if j = 5 then (-1000006) else if j = 2 then 2 else if j = 1 then 3 else if j = 0 then 2 else 0 := rfl
theorem a0 : S0_X4 0 = A0 := by
  funext j
  have e : S0_X4 0 = L_X4_init_145 (L_X4_init_110 10 0 T_X4_init_4) 82 0 (L_X4_init_110 10 0 T_X4_init_4) := by
    unfold S0_X4
    rw [show Nat.beq 0 0 = true from rfl, cond_true]
  rw [e, show (0 : Int32) = nI 0 from rfl]
  rw [l145 (L_X4_init_110 10 (nI 0) T_X4_init_4) 82 0 _ (by omega) (by omega) (fun j => by rw [if_neg (by omega)])]
  rw [l110 10 0 _ (by omega) (by omega) (fun j => by rw [if_neg (by omega), if_neg (by omega)]), init4]
  unfold A0
  (repeat' split) <;> first | rfl | (exfalso; omega)
theorem m0 : S0_X4 = M0 := by
  funext k
  cases hb : Nat.beq k 0 with
  | true =>
    obtain rfl := Nat.eq_of_beq_eq_true hb
    exact a0
  | false =>
    unfold S0_X4 M0
    rw [hb]
    simp
theorem chL (M : Nat → Nat → Int32) (a : Nat) (ha : a ≠ 2) : ∀ (n : Nat) (i : Int32) (M1 : Nat → Nat → Int32), L_X4_changes_52 M n i M1 a = M1 a := by
  intro n
  induction n with
  | zero => intro i M1; rfl
  | succ n ih =>
    intro i M1
    rw [L_X4_changes_52]
    split
    · rfl
    · rw [ih]
      exact s2_ne ha
theorem ch0 (M : Nat → Nat → Int32) (a : Nat) (h2 : a ≠ 2) (h9 : a ≠ 9) : D_X4_changes M a = M a := (s2_ne h9).trans (chL M a h2 _ _ _)
def M1 : Nat → Nat → Int32 := fun a => cond (Nat.beq a 2) (D_X4_changes M0 2) (cond (Nat.beq a 9) (D_X4_changes M0 9) (M0 a))
theorem m1 : D_X4_changes M0 = M1 := by
  funext a
  unfold M1
  cases hb : Nat.beq a 2 with
  | true => rw [cond_true, Nat.eq_of_beq_eq_true hb]
  | false =>
    rw [cond_false]
    cases hc : Nat.beq a 9 with
    | true => rw [cond_true, Nat.eq_of_beq_eq_true hc]
    | false => rw [cond_false]; exact ch0 M0 a (Nat.ne_of_beq_eq_false hb) (Nat.ne_of_beq_eq_false hc)
theorem iv_eq (v : Int32) : D_X4_isVillager v = D_X3_isVillager v := by
  unfold D_X4_isVillager D_X4_in D_X3_isVillager
  simp only [lg_cmp_lt, lg_cmp_gt]
  simp only [Int64.lt_iff_toInt_lt, Int32.lt_iff_toInt_lt, Int32.le_iff_toInt_le, Int32.toInt_toInt64, show (0 : Int32).toInt = 0 from rfl, show (9 : Int32).toInt = 9 from rfl, show (0 : Int64).toInt = 0 from rfl, show (8 : Int64).toInt = 8 from rfl]
  (repeat' split) <;> first | rfl | (exfalso; omega)
theorem in_eq (v : Int32) : D_X4_isNumber v = D_X3_isNumber v := by
  unfold D_X4_isNumber D_X4_in D_X3_isNumber
  simp only [lg_cmp_lt, lg_cmp_gt]
  simp only [Int64.lt_iff_toInt_lt, Int32.lt_iff_toInt_lt, Int32.le_iff_toInt_le, Int32.toInt_toInt64, show (0 : Int32).toInt = 0 from rfl, show (999 : Int32).toInt = 999 from rfl, show (0 : Int64).toInt = 0 from rfl, show (999 : Int64).toInt = 999 from rfl]
theorem isl_eq (v : Int32) : (D_X4_isSlot v = 0) = (D_X3_isSlot v = 0) := by
  unfold D_X4_isSlot D_X3_isSlot
  simp only [Int32.lt_iff_toInt_lt, Int32.le_iff_toInt_le, ← Int32.toInt_inj, show (0 : Int32).toInt = 0 from rfl, show (1 : Int32).toInt = 1 from rfl, show (2 : Int32).toInt = 2 from rfl]
  apply propext
  (repeat' split) <;> first | rfl | (exfalso; omega) | decide

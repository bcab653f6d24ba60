/-! what the face answers, by numbers -/
theorem isV {k : Nat} (hk : k < 9) : ¬ D_X3_isVillager (nI k) = 0 := by
  unfold D_X3_isVillager
  rw [if_neg (nI_pos (by omega)), if_neg (show ¬ (9 : Int32) ≤ nI k from nI_ge hk (by decide))]
  decide
theorem isN {v : Nat} (hv : v < 1000) : ¬ D_X3_isNumber (nI v) = 0 := by
  unfold D_X3_isNumber
  rw [if_neg (nI_pos (by omega)), if_neg (show ¬ (999 : Int32) < nI v from nI_nlt (a := 999) (b := v) (by omega) (by decide))]
  decide
theorem vi_0 (S : Nat → Nat → Int32) {k : Nat} (hk : k < 9) : D_X3_villager S (nI k) 0 = D_X2_isThere S (nI k) := by
  unfold D_X3_villager
  rw [if_neg (isV hk), if_pos rfl]
  unfold D_X2_isThere
  (repeat' split) <;> first | rfl | simp_all
theorem vi_r (S : Nat → Nat → Int32) {k r : Nat} (hk : k < 9) (h1 : 1 ≤ r) (h5 : r ≤ 5) : D_X3_villager S (nI k) (nI r) = S r k := by
  unfold D_X3_villager
  rw [if_neg (isV hk), clamp9 hk]
  obtain rfl | rfl | rfl | rfl | rfl : r = 1 ∨ r = 2 ∨ r = 3 ∨ r = 4 ∨ r = 5 := by omega
  · rw [if_neg (by decide), if_pos (by decide)]
  · rw [if_neg (by decide), if_neg (by decide), if_pos (by decide)]
  · rw [if_neg (by decide), if_neg (by decide), if_neg (by decide), if_pos (by decide)]
  · rw [if_neg (by decide), if_neg (by decide), if_neg (by decide), if_neg (by decide), if_pos (by decide)]
  · rw [if_neg (by decide), if_neg (by decide), if_neg (by decide), if_neg (by decide), if_neg (by decide), if_pos (by decide)]
theorem vi_1 (S : Nat → Nat → Int32) {k : Nat} (hk : k < 9) : D_X3_villager S (nI k) 1 = S 1 k := vi_r S hk (r := 1) (by decide) (by decide)
theorem vi_2 (S : Nat → Nat → Int32) {k : Nat} (hk : k < 9) : D_X3_villager S (nI k) 2 = S 2 k := vi_r S hk (r := 2) (by decide) (by decide)
theorem vi_3 (S : Nat → Nat → Int32) {k : Nat} (hk : k < 9) : D_X3_villager S (nI k) 3 = S 3 k := vi_r S hk (r := 3) (by decide) (by decide)
theorem vi_4 (S : Nat → Nat → Int32) {k : Nat} (hk : k < 9) : D_X3_villager S (nI k) 4 = S 4 k := vi_r S hk (r := 4) (by decide) (by decide)
theorem vi_5 (S : Nat → Nat → Int32) {k : Nat} (hk : k < 9) : D_X3_villager S (nI k) 5 = S 5 k := vi_r S hk (r := 5) (by decide) (by decide)
theorem vi_6 (S : Nat → Nat → Int32) {k : Nat} (hk : k < 9) : D_X3_villager S (nI k) 6 = D_X2_dancedWith S (nI k) := by
  unfold D_X3_villager
  rw [if_neg (isV hk), if_neg (by decide), if_neg (by decide), if_neg (by decide), if_neg (by decide), if_neg (by decide), if_neg (by decide), if_pos (by decide)]
theorem pa_same (S : Nat → Nat → Int32) {k : Nat} (hk : k < 9) (w : Int32) : D_X3_pair S (nI k) (nI k) w = (-1000002) := by
  unfold D_X3_pair
  rw [if_neg (isV hk), if_neg (isV hk), if_pos rfl]
theorem ne9 {a b : Nat} (ha : a < 9) (hb : b < 9) (hab : a ≠ b) : ¬ nI a = nI b := fun q => hab ((nI_eq (by omega) (by omega)).mp q)
theorem rm_ad {a b : Nat} (ha : a < 9) (hb : b < 9) : (D_X3_remainderOf (nI a + nI b)).toNatClampNeg = (a + b) % 9 := by
  have h : D_X3_remainderOf (nI a + nI b) = nI ((a + b) % 9) := by
    apply Int32.toInt_inj.mp
    rw [ti_remainderOf, nI_add, nI_toInt (by omega), nI_toInt (by omega)]
    omega
  rw [h]
  exact nI_clamp (by omega)
theorem pa_0 (S : Nat → Nat → Int32) {a b : Nat} (ha : a < 9) (hb : b < 9) (hab : a ≠ b) : D_X3_pair S (nI a) (nI b) 0 = S 6 (px a b) := by
  unfold D_X3_pair
  rw [if_neg (isV ha), if_neg (isV hb), if_neg (ne9 ha hb hab), if_pos rfl, (px_ok a ha b hb).1]
theorem pa_1 (S : Nat → Nat → Int32) {a b : Nat} (ha : a < 9) (hb : b < 9) (hab : a ≠ b) : D_X3_pair S (nI a) (nI b) 1 = S 7 (px a b) := by
  unfold D_X3_pair
  rw [if_neg (isV ha), if_neg (isV hb), if_neg (ne9 ha hb hab), if_neg (by decide), if_pos rfl, (px_ok a ha b hb).1]
theorem pa_3 (S : Nat → Nat → Int32) {a b : Nat} (ha : a < 9) (hb : b < 9) (hab : a ≠ b) : D_X3_pair S (nI a) (nI b) 3 = S 9 ((a + b) % 9) := by
  unfold D_X3_pair
  rw [if_neg (isV ha), if_neg (isV hb), if_neg (ne9 ha hb hab), if_neg (by decide), if_neg (by decide), if_neg (by decide), if_pos rfl, rm_ad ha hb]
theorem pa_4 (S : Nat → Nat → Int32) {a b : Nat} (ha : a < 9) (hb : b < 9) (hab : a ≠ b) : D_X3_pair S (nI a) (nI b) 4 = S 8 (px a b) := by
  unfold D_X3_pair
  rw [if_neg (isV ha), if_neg (isV hb), if_neg (ne9 ha hb hab), if_neg (by decide), if_neg (by decide), if_neg (by decide), if_neg (by decide), if_pos rfl, (px_ok a ha b hb).1]
theorem pt_eq (S : Nat → Nat → Int32) {k v : Nat} (hk : k < 9) (hv : v < 1000) : D_X3_partner S (nI k) (nI v) = if cn (v % 9) k = k then (-1000006) else nI (cn (v % 9) k) := by
  have hc := (cn_ok (v % 9) (Nat.mod_lt _ (by decide)) k hk).1
  unfold D_X3_partner
  rw [if_neg (isV hk), if_neg (isN hv), cp_eq hk hv]
  by_cases h : cn (v % 9) k = k
  · rw [if_pos (by rw [h]), if_pos h]
  · rw [if_neg (ne9 hc hk h), if_neg h]
theorem ic_eq (S : Nat → Nat → Int32) {v w : Nat} (hv : v < 1000) (hw : w ≤ 3) : D_X3_ifCalled S (nI v) (nI w) = D_X2_wouldBring S (nI v) (nI w) := by
  unfold D_X3_ifCalled
  rw [if_neg (isN hv), if_neg (nI_pos (by omega)), if_pos (show nI w ≤ 3 from nI_le hw (by decide))]
section CT
variable (S P : Nat → Nat → Int32) (u : HS)
theorem ct_g {w : Nat} (hw : w < 3) : D_X3_count S P u (nI w) = S 0 w := by
  unfold D_X3_count
  obtain rfl | rfl | rfl : w = 0 ∨ w = 1 ∨ w = 2 := by omega
  · rw [if_pos (by decide)]; rfl
  · rw [if_neg (by decide), if_pos (by decide)]; rfl
  · rw [if_neg (by decide), if_neg (by decide), if_pos (by decide)]; rfl
theorem ct_3 : D_X3_count S P u 3 = S 10 1 := by unfold D_X3_count; rw [if_neg (by decide), if_neg (by decide), if_neg (by decide), if_pos (by decide)]
theorem ct_4 : D_X3_count S P u 4 = S 10 0 := by unfold D_X3_count; rw [if_neg (by decide), if_neg (by decide), if_neg (by decide), if_neg (by decide), if_pos (by decide)]
theorem ct_5 : D_X3_count S P u 5 = sm (S 7) 81 := by unfold D_X3_count; rw [if_neg (by decide), if_neg (by decide), if_neg (by decide), if_neg (by decide), if_neg (by decide), if_pos (by decide), sumOf_eq (by decide)]
theorem ct_6 : D_X3_count S P u 6 = sm (S 2) 9 := by unfold D_X3_count; rw [if_neg (by decide), if_neg (by decide), if_neg (by decide), if_neg (by decide), if_neg (by decide), if_neg (by decide), if_pos (by decide), sumOf_eq (by decide)]
theorem ct_7 : D_X3_count S P u 7 = nI (U S) := by unfold D_X3_count; rw [if_neg (by decide), if_neg (by decide), if_neg (by decide), if_neg (by decide), if_neg (by decide), if_neg (by decide), if_neg (by decide), if_pos (by decide), unmet_eq]
theorem ct_8 : D_X3_count S P u 8 = sm (S 5) 9 := by unfold D_X3_count; rw [if_neg (by decide), if_neg (by decide), if_neg (by decide), if_neg (by decide), if_neg (by decide), if_neg (by decide), if_neg (by decide), if_neg (by decide), if_pos (by decide), sumOf_eq (by decide)]
theorem ct_9 : D_X3_count S P u 9 = sm (S 1) 9 := by unfold D_X3_count; rw [if_neg (by decide), if_neg (by decide), if_neg (by decide), if_neg (by decide), if_neg (by decide), if_neg (by decide), if_neg (by decide), if_neg (by decide), if_neg (by decide), if_pos (by decide), sumOf_eq (by decide)]
theorem ct_10 : D_X3_count S P u 10 = S 10 2 := by unfold D_X3_count; rw [if_neg (by decide), if_neg (by decide), if_neg (by decide), if_neg (by decide), if_neg (by decide), if_neg (by decide), if_neg (by decide), if_neg (by decide), if_neg (by decide), if_neg (by decide), if_pos (by decide)]
theorem ct_12 : D_X3_count S P u 12 = nI u.1 := by unfold D_X3_count; rw [if_neg (by decide), if_neg (by decide), if_neg (by decide), if_neg (by decide), if_neg (by decide), if_neg (by decide), if_neg (by decide), if_neg (by decide), if_neg (by decide), if_neg (by decide), if_neg (by decide), if_neg (by decide), if_pos (by decide)]
end CT
/-! and does -/
theorem set_eq (u : HS) (S : Nat → Nat → Int32) {g : Nat} (hg : g < 3) {x : Int32} (h0 : g < 2 → 0 ≤ x.toInt) (h1 : -9 ≤ x.toInt ∧ x.toInt ≤ 9) : D_X3_set u S (nI g) x = (S 0 g, D_X0_remember u S, s2 S 0 g x) := by
  have e9 : (9 : Int32).toInt = 9 := rfl
  have em : (-9 : Int32).toInt = -9 := rfl
  have e0 : (0 : Int32).toInt = 0 := rfl
  have l9 : x ≤ 9 := by rw [Int32.le_iff_toInt_le, e9]; omega
  have lm : ¬ x < (-9) := by rw [Int32.lt_iff_toInt_lt, em]; omega
  unfold D_X3_set T_X3_set_1
  rw [if_neg (nI_pos (by omega)), if_pos (show nI g < 3 from nI_lt hg (by decide)), nI_clamp (by omega), if_neg lm, if_pos l9]
  by_cases h : g = 2
  · subst h; rw [if_pos (by decide)]
  · rw [if_neg (show ¬ nI g = 2 from fun q => h ((nI_eq (b := 2) (by omega) (by decide)).mp q)), if_neg (show ¬ x < 0 by rw [Int32.lt_iff_toInt_lt, e0]; have := h0 (by omega); omega)]
theorem like_eq (u : HS) (S : Nat → Nat → Int32) {a b : Nat} (ha : a < 9) (hb : b < 9) (hab : a ≠ b) {x : Int32} (h1 : -9 ≤ x.toInt ∧ x.toInt ≤ 9) : D_X3_like u S (nI a) (nI b) x = (S 6 (px a b), D_X0_remember u S, s2 S 6 (px a b) x) := by
  have e9 : (9 : Int32).toInt = 9 := rfl
  have em : (-9 : Int32).toInt = -9 := rfl
  unfold D_X3_like T_X3_like_1
  rw [if_neg (isV ha), if_neg (isV hb), if_neg (ne9 ha hb hab), if_neg (show ¬ x < (-9) by rw [Int32.lt_iff_toInt_lt, em]; omega), if_pos (show x ≤ 9 by rw [Int32.le_iff_toInt_le, e9]; omega), (px_ok a ha b hb).1]
theorem feed_eq (u : HS) (S : Nat → Nat → Int32) {k : Nat} (hk : k < 9) {x : Int32} (h1 : 0 ≤ x.toInt ∧ x.toInt ≤ 20) : D_X3_feed u S (nI k) x = (S 1 k, D_X0_remember u S, s2 S 1 k x) := by
  have e9 : (20 : Int32).toInt = 20 := rfl
  have e0 : (0 : Int32).toInt = 0 := rfl
  unfold D_X3_feed T_X3_feed_1
  rw [if_neg (isV hk), if_neg (show ¬ x < 0 by rw [Int32.lt_iff_toInt_lt, e0]; omega), if_pos (show x ≤ 20 by rw [Int32.le_iff_toInt_le, e9]; omega), clamp9 hk]
theorem away_eq (u : HS) (S : Nat → Nat → Int32) {m k : Nat} (hm : m < 512) (em : S 10 0 = nI m) (hk : k < 9) {al : Nat} (hal : al < 2) : D_X3_away u S (nI k) (nI al) = if bt m k = al then (nI (bsum (m ^^^ 2 ^ k)), D_X0_remember u S, s2 S 10 0 (nI (m ^^^ 2 ^ k))) else ((-1000005), u, S) := by
  unfold D_X3_away T_X3_away_1
  rw [if_neg (isV hk), isT hm em hk, em, xor_bit m hm k hk]
  have hb := bt_01 m k
  by_cases h : bt m k = al
  · rw [if_pos (by rw [h]), if_pos h]
    show (D_J6_bitCount_0f7a4 (s2 S 10 0 (nI (m ^^^ 2 ^ k)) 10 0), _, _) = _
    rw [s2_ap, if_pos rfl, if_pos rfl, bc_bit _ (xor_lt m hm k hk)]
  · rw [if_neg (fun q => h ((nI_eq (by omega) (by omega)).mp q)), if_neg h]
theorem call_eq (u : HS) {S : Nat → Nat → Int32} {n : Nat} (h : Inv n S) (hn : n ≤ 100) {v : Nat} (hv : v < 1000) : D_X3_call u S (nI v) = (nI (pc S (v % 9) 9), D_X0_remember u S, RS S v) := by
  have e9 : (9999 : Int32).toInt = 9999 := rfl
  have := h.2.1
  unfold D_X3_call
  rw [if_neg (isN hv), if_pos (show S 10 1 < 9999 by rw [Int32.lt_iff_toInt_lt, e9]; omega), round_eq S hv]
theorem undo_eq (u : HS) (S : Nat → Nat → Int32) (h : 0 < u.1) (h6 : u.1 ≤ 6) : D_X3_undo u S = (nI (u.1 - 1), (u.1 - 1, u.2), D_X2_copyFrom S (u.2.2.2.2 (u.1 - 1))) := by
  unfold D_X3_undo D_X0_takeBackInto
  rw [if_neg (nI_ne0 h (by omega)), if_neg (by omega)]

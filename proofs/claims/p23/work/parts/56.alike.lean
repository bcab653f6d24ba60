/-! what the law asks of two: every answer of the second is the first's -/
theorem s2_at {S : Nat → Nat → Int32} {k i : Nat} {x : Int32} : s2 S k i x k i = x := by rw [s2_ap, if_pos rfl, if_pos rfl]
theorem bt_rel {S T : Nat → Nat → Int32} (h : Rel S T) {m w : Nat} (hm : m < 512) (em : S 10 0 = nI m) (hw : w < 512) (ew : T 10 0 = nI w) {k : Nat} (hk : k < 9) : bt w (dbl k) = bt m k := by
  have e := h.2.2.1 k hk
  rw [isT hw ew (dbl_lt k), isT hm em hk] at e
  have a := bt_01 w (dbl k)
  have b := bt_01 m k
  exact (nI_eq (by omega) (by omega)).mp e
theorem fw_0 (S : Nat → Nat → Int32) : D_X3_fewestRounds S 0 = D_X2_remaindersWithUnmetPair S := by
  unfold D_X3_fewestRounds
  rw [if_pos rfl]
theorem fw_1 (S : Nat → Nat → Int32) : D_X3_fewestRounds S 1 = D_X2_remaindersWithUnmetPair S := by
  unfold D_X3_fewestRounds
  rw [if_neg (by decide), if_pos rfl]
  obtain ⟨w, -, -, e1, e2⟩ := fewest S
  rw [e1, e2]
theorem fw_9 (S : Nat → Nat → Int32) : ¬ 9 < D_X2_remaindersWithUnmetPair S := by
  obtain ⟨w, -, -, e1, -⟩ := fewest S
  rw [e1]
  have := bsum_le w
  exact nI_nlt (a := 9) (by omega) (by decide)
section ALK
variable {n : Nat} {S T : Nat → Nat → Int32}
theorem al_f0 (h : Both n S T) : D_X3_fewestRounds T 0 = D_X2_remaindersWithUnmetPair S := by rw [fw_0, h.2.2.fewest]
theorem al_f1 (h : Both n S T) : D_X3_fewestRounds T 1 = D_X2_remaindersWithUnmetPair S := by rw [fw_1, h.2.2.fewest]
theorem al_p1 {v k : Nat} (hv : v < 1000) (hk : k < 9) (c : ptv v k < 0) : ptv (tw v) (dbl k) = ptv v k := by
  have e := (ptv_lt hk).mp c
  unfold ptv
  rw [if_pos e, tw_mod v hv, dbl_cn _ (Nat.mod_lt _ (by decide)) k hk, e, if_pos rfl]
theorem al_p2 {v k : Nat} (hv : v < 1000) (hk : k < 9) (c : ¬ ptv v k < 0) : D_L_there (ptv v k) = ptv (tw v) (dbl k) := by
  have e : ¬ cn (v % 9) k = k := fun q => c ((ptv_lt hk).mpr q)
  have h9 := cn9 v hk
  rw [ptv_ne hk c, there_eq _ h9]
  unfold ptv
  rw [tw_mod v hv, dbl_cn _ (Nat.mod_lt _ (by decide)) k hk, if_neg (fun q => e (dbl_inj _ h9 _ hk q))]
theorem al_b6 (h : Both n S T) {k : Nat} (hk : k < 9) : D_L_bits (D_X2_dancedWith T (nI (dbl k))) = D_L_bits (D_X2_dancedWith S (nI k)) := by
  obtain ⟨w, hw, e1, f⟩ := dwm S hk
  obtain ⟨w2, hw2, e2, g⟩ := dwm T (dbl_lt k)
  rw [e1, e2, bits_eq _ hw, bits_eq _ hw2, dwm_dbl h hk f g]
theorem al_vi (h : Both n S T) {k j : Nat} (hk : k < 9) (hj : j < 6) : D_X3_villager T (nI (dbl k)) (nI j) = D_X3_villager S (nI k) (nI j) := by
  by_cases z : j = 0
  · subst z
    show D_X3_villager T (nI (dbl k)) 0 = D_X3_villager S (nI k) 0
    rw [vi_0 T (dbl_lt k), vi_0 S hk]
    exact h.2.2.2.2.1 k hk
  · rw [vi_r T (dbl_lt k) (by omega) (by omega), vi_r S hk (by omega) (by omega)]
    exact h.2.2.2.2.2.1 j (by omega) (by omega) k hk
theorem al_pr0 (h : Both n S T) {a b : Nat} (ha : a < 9) (hb : b < 9) : D_X3_pair T (nI (dbl a)) (nI (dbl b)) 0 = D_X3_pair S (nI a) (nI b) 0 := by
  by_cases e : a = b
  · subst e; rw [pa_same T (dbl_lt a), pa_same S ha]
  · rw [pa_0 T (dbl_lt a) (dbl_lt b) (fun q => e (dbl_inj a ha b hb q)), pa_0 S ha hb e]
    exact h.2.2.2.2.2.2.1 6 (by decide) (by decide) a ha b hb e
theorem al_pr1 (h : Both n S T) {a b : Nat} (ha : a < 9) (hb : b < 9) : D_X3_pair T (nI (dbl a)) (nI (dbl b)) 1 = D_X3_pair S (nI a) (nI b) 1 := by
  by_cases e : a = b
  · subst e; rw [pa_same T (dbl_lt a), pa_same S ha]
  · rw [pa_1 T (dbl_lt a) (dbl_lt b) (fun q => e (dbl_inj a ha b hb q)), pa_1 S ha hb e]
    exact h.2.2.2.2.2.2.1 7 (by decide) (by decide) a ha b hb e
theorem al_pr4 (h : Both n S T) {a b : Nat} (ha : a < 9) (hb : b < 9) : D_X3_pair T (nI (dbl a)) (nI (dbl b)) 4 = D_X3_pair S (nI a) (nI b) 4 := by
  by_cases e : a = b
  · subst e; rw [pa_same T (dbl_lt a), pa_same S ha]
  · rw [pa_4 T (dbl_lt a) (dbl_lt b) (fun q => e (dbl_inj a ha b hb q)), pa_4 S ha hb e]
    exact h.2.2.2.2.2.2.1 8 (by decide) (by decide) a ha b hb e
theorem al_pr3 (h : Both n S T) {a b : Nat} (ha : a < 9) (hb : b < 9) : D_X3_pair T (nI (dbl a)) (nI (dbl b)) 3 = D_X3_pair S (nI a) (nI b) 3 := by
  by_cases e : a = b
  · subst e; rw [pa_same T (dbl_lt a), pa_same S ha]
  · rw [pa_3 T (dbl_lt a) (dbl_lt b) (fun q => e (dbl_inj a ha b hb q)), pa_3 S ha hb e, dbl_ad a ha b hb]
    exact h.2.2.2.2.2.2.2 _ (Nat.mod_lt _ (by decide))
theorem al_c4 (h : Both n S T) : D_L_bits (T 10 0) = D_L_bits (S 10 0) := by
  obtain ⟨m, hm, em⟩ := h.1.1
  obtain ⟨w, hw, ew⟩ := h.2.1.1
  rw [em, ew, bits_eq _ hm, bits_eq _ hw, bsum_dbl (fun k hk => bt_rel h.2.2 hm em hw ew hk)]
theorem al_ct (h : Both n S T) (hn : n ≤ 100) {k : Nat} (hk : k < 10) (h4 : ¬ nI k = 4) (P Q : Nat → Nat → Int32) (u w : HS) : D_X3_count T Q w (nI k) = D_X3_count S P u (nI k) := by
  have hr := h.2.2
  have h4 : k ≠ 4 := fun q => h4 (by rw [q]; rfl)
  by_cases z : k < 3
  · rw [ct_g _ _ _ z, ct_g _ _ _ z]
    exact hr.1 k z
  · obtain rfl | rfl | rfl | rfl | rfl | rfl : k = 3 ∨ k = 5 ∨ k = 6 ∨ k = 7 ∨ k = 8 ∨ k = 9 := by omega
    · show D_X3_count T Q w 3 = D_X3_count S P u 3
      rw [ct_3, ct_3]; exact hr.2.1
    · show D_X3_count T Q w 5 = D_X3_count S P u 5
      rw [ct_5, ct_5]; exact h.c5 (by omega)
    · show D_X3_count T Q w 6 = D_X3_count S P u 6
      rw [ct_6, ct_6]; exact sm_dbl (fun k hk => hr.2.2.2.1 2 (by decide) (by decide) k hk)
    · show D_X3_count T Q w 7 = D_X3_count S P u 7
      rw [ct_7, ct_7, U_dbl hr]
    · show D_X3_count T Q w 8 = D_X3_count S P u 8
      rw [ct_8, ct_8]; exact sm_dbl (fun k hk => hr.2.2.2.1 5 (by decide) (by decide) k hk)
    · show D_X3_count T Q w 9 = D_X3_count S P u 9
      rw [ct_9, ct_9]; exact sm_dbl (fun k hk => hr.2.2.2.1 1 (by decide) (by decide) k hk)
theorem al_ic (h : Both n S T) {v k : Nat} (hv : v < 1000) (hk : k < 4) : D_X3_ifCalled T (nI (tw v)) (nI k) = D_X3_ifCalled S (nI v) (nI k) := by
  rw [ic_eq _ (tw_lt v hv) (by omega), ic_eq _ hv (by omega)]
  exact h.wb (nI k) hv (tw_lt v hv) (tw_mod v hv)
end ALK
/-! what the law asks of one -/
section WEL
variable {n : Nat} {S : Nat → Nat → Int32} {a b : Nat}
theorem px_two : ∀ a, a < 9 → ∀ b, b < 9 → a ≠ b → px a b < 81 ∧ px a b / 9 < px a b % 9 ∧ (px a b / 9 + px a b % 9) % 9 = (a + b) % 9 := by decide +kernel
theorem ne_of {a b : Nat} (c : ¬ nI b = nI a) : a ≠ b := fun q => c (by rw [q])
theorem we_le (h : Inv n S) (ha : a < 9) (hb : b < 9) (hab : a ≠ b) : ¬ S 9 ((a + b) % 9) < S 7 (px a b) := by
  obtain ⟨h1, h2, h3⟩ := px_two a ha b hb hab
  have q := (h.2.2.2.2.2.1 _ h1).2.1
  rw [h3] at q
  intro z
  rw [Int32.lt_iff_toInt_lt] at z
  omega
theorem we_8 (h : Inv n S) (ha : a < 9) (hb : b < 9) (hab : a ≠ b) : S 7 (px a b) = 0 ↔ S 8 (px a b) = (-1000006) := by
  obtain ⟨h1, h2, h3⟩ := px_two a ha b hb hab
  exact (h.2.2.2.2.2.1 _ h1).2.2.1 h2
theorem we_pos (h : Inv n S) (ha : a < 9) (hb : b < 9) (hab : a ≠ b) (c : ¬ S 7 (px a b) = 0) : ¬ S 7 (px a b) ≤ 0 := by
  obtain ⟨h1, h2, h3⟩ := px_two a ha b hb hab
  have q := (h.2.2.2.2.2.1 _ h1).1
  intro z
  rw [Int32.le_iff_toInt_le, show (0 : Int32).toInt = 0 from rfl] at z
  exact c (Int32.toInt_inj.mp (by rw [show (0 : Int32).toInt = 0 from rfl]; omega))
theorem sh_bit : ∀ m, m < 512 → ∀ k, k < 9 → (nI m >>> (nI k &&& 31)) &&& 1 = nI (bt m k) := by decide +kernel
theorem we_b0 (ha : a < 9) (hb : b < 9) (c : S 7 (px a b) = 0) : (D_X2_dancedWith S (nI a) >>> (nI b &&& 31)) &&& 1 = 0 := by
  obtain ⟨w, hw, e, f⟩ := dwm S ha
  rw [e, sh_bit w hw b hb]
  have z : ¬ bt w b = 1 := fun q => (f b hb).mp q (by rw [c]; decide)
  rcases bt_01 w b with q | q
  · rw [q]; rfl
  · exact absurd q z
theorem we_b1 (h : Inv n S) (ha : a < 9) (hb : b < 9) (hab : a ≠ b) (c : ¬ S 7 (px a b) = 0) : (D_X2_dancedWith S (nI a) >>> (nI b &&& 31)) &&& 1 = 1 := by
  obtain ⟨w, hw, e, f⟩ := dwm S ha
  rw [e, sh_bit w hw b hb, (f b hb).mpr (we_pos h ha hb hab c)]
  rfl
def uo (S : Nat → Nat → Int32) (k : Nat) : Nat := sn (fun a => sn (fun b => if b < a then uc S a b else 0) 9) k
def ui (S : Nat → Nat → Int32) (k j : Nat) : Nat := sn (fun b => if b < k then uc S k b else 0) j
theorem ui_n {x k j : Nat} (h : ¬ (j < k ∧ um S k j)) : nI (x + ui S k (j + 1)) = nI (x + ui S k j) + 0 := by
  have e : ui S k (j + 1) = ui S k j + (if j < k then uc S k j else 0) := rfl
  have z : (if j < k then uc S k j else 0) = 0 := by
    by_cases q : j < k
    · rw [if_pos q]; unfold uc; rw [if_neg (fun r => h ⟨q, r⟩)]
    · rw [if_neg q]
  rw [e, z]
  simp
theorem ui_y {x k j : Nat} (h : j < k) (hu : um S k j) : nI (x + ui S k (j + 1)) = nI (x + ui S k j) + 1 := by
  have e : ui S k (j + 1) = ui S k j + (if j < k then uc S k j else 0) := rfl
  have z : (if j < k then uc S k j else 0) = 1 := by rw [if_pos h]; unfold uc; rw [if_pos hu]
  rw [e, z, nI_1]
  rfl
theorem ui_s {x k j : Nat} (c : nI j = nI k) (hj : j < 9) (hk : k < 9) : nI (x + ui S k (j + 1)) = nI (x + ui S k j) := by
  have e : j = k := (nI_eq (by omega) (by omega)).mp c
  rw [ui_n (fun q => by omega)]
  simp
theorem ui_a {x k j : Nat} (hj : j < 9) (hk : k < 9) (c : nI k ≤ nI j) : nI (x + ui S k (j + 1)) = nI (x + ui S k j) + 0 := ui_n (fun q => by have := (nI_leI (by omega) (by omega)).mp c; omega)
theorem ui_b {x k j : Nat} (hj : j < 9) (hk : k < 9) (c : ¬ S 7 (px k j) = 0) : nI (x + ui S k (j + 1)) = nI (x + ui S k j) + 0 := ui_n (fun q => c ((um_iff hk hj).mp q.2).2.2)
theorem ui_c {x k j : Nat} (hj : j < 9) (hk : k < 9) (c : ¬ D_X2_isThere S (nI k) = 1) : nI (x + ui S k (j + 1)) = nI (x + ui S k j) + 0 := ui_n (fun q => c (th1.mpr ((um_iff hk hj).mp q.2).1))
theorem ui_d {x k j : Nat} (hj : j < 9) (hk : k < 9) (c : ¬ D_X2_isThere S (nI j) = 1) : nI (x + ui S k (j + 1)) = nI (x + ui S k j) + 0 := ui_n (fun q => c (th1.mpr ((um_iff hk hj).mp q.2).2.1))
theorem ui_e {x k j : Nat} (hj : j < 9) (hk : k < 9) (c1 : ¬ nI k ≤ nI j) (c2 : S 7 (px k j) = 0) (c3 : D_X2_isThere S (nI k) = 1) (c4 : D_X2_isThere S (nI j) = 1) : nI (x + ui S k (j + 1)) = nI (x + ui S k j) + 1 :=
  ui_y (by rcases Nat.lt_or_ge j k with q | q; exact q; exact absurd (nI_le q (by omega)) c1) ((um_iff hk hj).mpr ⟨th1.mp c3, th1.mp c4, c2⟩)
theorem dw_s {k j : Nat} (c : nI j = nI k) (hj : j < 9) (hk : k < 9) : sm (dw S k) (j + 1) = sm (dw S k) j := by
  have e : j = k := (nI_eq (by omega) (by omega)).mp c
  show sm (dw S k) j + dw S k j = _
  unfold dw
  rw [if_pos e]
  simp
theorem dw_p {k j : Nat} (c : ¬ nI j = nI k) : sm (dw S k) (j + 1) = sm (dw S k) j + S 7 (px k j) := by
  show sm (dw S k) j + dw S k j = _
  rw [show dw S k j = S 7 (px k j) from if_neg (fun q => c (by rw [q]))]
theorem to_0 {k : Nat} (hk : k < 9) (c : nI k = 0) : sm (S 9) (k + 1) = sm (S 9) k + S 9 0 := by
  have e : k = 0 := (nI_eq (b := 0) (by omega) (by decide)).mp c
  subst e
  rfl
theorem wt_k {k : Nat} (hk : k < 9) (c : ¬ nI k = 0) : D_X3_pair S 0 (nI k) 3 = S 9 k := by
  have e : (0 : Nat) ≠ k := fun q => c (by rw [← q]; rfl)
  have := pa_3 S (a := 0) (b := k) (by decide) hk e
  rw [Nat.zero_add, Nat.mod_eq_of_lt hk] at this
  exact this
theorem wt_0 : D_X3_pair S 1 8 3 = S 9 0 := pa_3 S (a := 1) (b := 8) (by decide) (by decide) (by decide)
theorem we_d3 (h : Inv n S) {k : Nat} (hk : k < 9) : sm (dw S k) 9 = S 3 k := h.2.2.2.2.2.2.2.1 k hk
theorem we_d3s (h : Inv n S) {k : Nat} (hk : k < 9) : sm (S 3) (k + 1) = sm (S 3) k + sm (dw S k) 9 := by rw [we_d3 h hk]; rfl
theorem we_54 (h : Inv n S) {k : Nat} (hk : k < 9) : ¬ S 4 k < S 5 k := by
  have q := (h.2.2.2.2.1 k hk).2.2.1
  intro z
  rw [Int32.lt_iff_toInt_lt] at z
  omega
theorem we_34 (h : Inv n S) (hn : n ≤ 100) {k : Nat} (hk : k < 9) : ¬ S 10 1 < S 3 k + S 4 k := by
  have q := h.2.2.2.2.1 k hk
  have r := h.2.1
  intro z
  rw [Int32.lt_iff_toInt_lt, ti_addB (by omega) (by omega) (by omega) (by omega)] at z
  omega
theorem we_1n (h : Inv n S) {k : Nat} (hk : k < 9) : ¬ S 1 k < 0 := by
  have q := h.2.2.2.1 k hk
  intro z
  rw [Int32.lt_iff_toInt_lt, show (0 : Int32).toInt = 0 from rfl] at z
  omega
theorem we_1g (h : Inv n S) {k : Nat} (hk : k < 9) : ¬ 20 < S 1 k := by
  have q := h.2.2.2.1 k hk
  intro z
  rw [Int32.lt_iff_toInt_lt, show (20 : Int32).toInt = 20 from rfl] at z
  omega
theorem we_dd (h : Inv n S) (hn : n ≤ 100) : sm (S 3) 9 = 2 * sm (S 7) 81 := by
  obtain ⟨X, -, e, f, g⟩ := h.all (by omega)
  rw [e, sm_nI (g := fun a => (S 3 a).toInt.toNat) 9 (fun a ha => (f a ha).1), ← g, show (2 : Int32) = nI 2 from rfl, pk_mul]
theorem we_9 (h : Inv n S) : sm (S 9) 9 = S 10 1 := h.2.2.2.2.2.2.2.2
theorem we_u : nI (uo S 9) = nI (U S) := by
  show nI (U2 S) = _
  rw [U_U2]
theorem we_z : nI (uo S 9) = 0 ↔ U S = 0 := by
  rw [we_u]
  have := U_le S
  exact nI_eq (b := 0) (by omega) (by decide)
end WEL
/-! numbers of three digits, of two, of one -/
section NUM
variable {P : Nat → Nat → Int32} {v : Nat}
theorem pd_n (P : Nat → Nat → Int32) (len d : Nat) : putd P len d 1 0 = nI (len + 1) := s2_at
theorem pd_a (P : Nat → Nat → Int32) (len d : Nat) : putd P len d 0 len = nI (48 + d) := by
  unfold putd
  rw [s2_ne (by decide)]
  exact s2_at
theorem pd_b (P : Nat → Nat → Int32) {len d j : Nat} (h : j ≠ len) : putd P len d 0 j = P 0 j := by
  unfold putd
  rw [s2_ne (by decide), s2_ap, if_pos rfl, if_neg h]
def dg3 (v : Nat) : Nat → Nat := fun k => if k = 0 then v / 100 else if k = 1 then v / 10 % 10 else v % 10
def dg2 (v : Nat) : Nat → Nat := fun k => if k = 0 then v / 10 % 10 else v % 10
theorem num3 (hv : v < 1000) (c : ¬ nI v < 100) : dig (putd (putd (putd P 0 (v / 100)) 1 (v / 10 % 10)) 2 (v % 10)) 3 (dg3 v) ∧ val (dg3 v) 3 = v := by
  have hc : 100 ≤ v := by
    rcases Nat.lt_or_ge v 100 with q | q
    · exact absurd (nI_lt (b := 100) q (by decide)) c
    · exact q
  refine ⟨⟨pd_n _ _ _, by decide, by decide, fun k hk => ?_, fun _ => ?_⟩, ?_⟩
  · obtain rfl | rfl | rfl : k = 0 ∨ k = 1 ∨ k = 2 := by omega
    · exact ⟨by show v / 100 < 10; omega, by rw [pd_b _ (by decide), pd_b _ (by decide)]; exact pd_a _ _ _⟩
    · exact ⟨by show v / 10 % 10 < 10; omega, by rw [pd_b _ (by decide)]; exact pd_a _ _ _⟩
    · exact ⟨by show v % 10 < 10; omega, pd_a _ _ _⟩
  · show 0 < v / 100
    omega
  · show 10 * (10 * (10 * 0 + v / 100) + v / 10 % 10) + v % 10 = v
    omega
theorem num2 (c : nI v < 100) (hv : v < 1000) (c2 : ¬ nI v < 10) : dig (putd (putd P 0 (v / 10 % 10)) 1 (v % 10)) 2 (dg2 v) ∧ val (dg2 v) 2 = v := by
  have hc : 10 ≤ v := by
    rcases Nat.lt_or_ge v 10 with q | q
    · exact absurd (nI_lt (b := 10) q (by decide)) c2
    · exact q
  have h1 : v < 100 := (nI_ltI (b := 100) (by omega) (by decide)).mp c
  refine ⟨⟨pd_n _ _ _, by decide, by decide, fun k hk => ?_, fun _ => ?_⟩, ?_⟩
  · obtain rfl | rfl : k = 0 ∨ k = 1 := by omega
    · exact ⟨by show v / 10 % 10 < 10; omega, by rw [pd_b _ (by decide)]; exact pd_a _ _ _⟩
    · exact ⟨by show v % 10 < 10; omega, pd_a _ _ _⟩
  · show 0 < v / 10 % 10
    omega
  · show 10 * (10 * 0 + v / 10 % 10) + v % 10 = v
    omega
theorem num1 (hv : v < 1000) (c : nI v < 10) : dig (putd P 0 (v % 10)) 1 (fun _ => v % 10) ∧ val (fun _ => v % 10) 1 = v := by
  have h1 : v < 10 := (nI_ltI (b := 10) (by omega) (by decide)).mp c
  refine ⟨⟨pd_n _ _ _, by decide, by decide, fun k hk => ?_, fun q => absurd q (by decide)⟩, ?_⟩
  · obtain rfl : k = 0 := by omega
    exact ⟨by show v % 10 < 10; omega, pd_a _ _ _⟩
  · show 10 * 0 + v % 10 = v
    omega
theorem nu_c (hv : v < 1000) (c : ¬ nI v < 100) : ¬ nI v < 10 := by
  intro q
  have h1 : v < 10 := (nI_ltI (b := 10) (by omega) (by decide)).mp q
  exact c (nI_lt (b := 100) (by omega) (by decide))
end NUM

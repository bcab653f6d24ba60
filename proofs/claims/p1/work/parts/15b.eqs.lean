theorem vil_fin : ∀ j, j < 9 → ∀ k, k < 8 → D_X3_villager S0_X2 (nI j) (nI k) = D_X4_villager M0 (nI j) (nI k) := by decide +kernel
theorem eq_villager {v w : Int32} : D_X3_villager S0_X2 v w = D_X4_villager S0_X4 v w := by
  rw [m0]
  by_cases hv : D_X3_isVillager v = 0
  · unfold D_X3_villager D_X4_villager; rw [iv_eq, if_pos hv, if_pos hv]
  · by_cases hw : vp_in w 8
    · obtain ⟨j, hj, rfl⟩ := vp_in_of (f3_isVillager hv) (by decide)
      obtain ⟨k, hk, rfl⟩ := vp_in_of hw (by decide)
      exact vil_fin j hj k hk
    · have n0 : ∀ k, k < 8 → ¬ w = nI k := fun k hk e => hw (by rw [e]; exact vp_in_nI hk (by decide))
      unfold D_X3_villager D_X4_villager
      rw [iv_eq, if_neg hv, if_neg hv]
      simp only [if_neg (show ¬ w = 0 from n0 0 (by decide)), if_neg (show ¬ w = 1 from n0 1 (by decide)), if_neg (show ¬ w = 2 from n0 2 (by decide)), if_neg (show ¬ w = 3 from n0 3 (by decide)), if_neg (show ¬ w = 4 from n0 4 (by decide)), if_neg (show ¬ w = 5 from n0 5 (by decide)), if_neg (show ¬ w = 6 from n0 6 (by decide)), if_neg (show ¬ w = 7 from n0 7 (by decide))]
theorem pair_fin : ∀ i, i < 9 → ∀ j, j < 9 → ∀ k, k < 5 → D_X3_pair S0_X2 (nI i) (nI j) (nI k) = D_X4_pair M0 (nI i) (nI j) (nI k) := by decide +kernel
theorem eq_pair {a b w : Int32} : D_X3_pair S0_X2 a b w = D_X4_pair S0_X4 a b w := by
  rw [m0]
  by_cases ha : D_X3_isVillager a = 0
  · unfold D_X3_pair D_X4_pair; rw [iv_eq, if_pos ha, if_pos ha]
  · by_cases hb : D_X3_isVillager b = 0
    · unfold D_X3_pair D_X4_pair; rw [iv_eq, iv_eq, if_neg ha, if_neg ha, if_pos hb, if_pos hb]
    · by_cases hw : vp_in w 5
      · obtain ⟨i, hi, rfl⟩ := vp_in_of (f3_isVillager ha) (by decide)
        obtain ⟨j, hj, rfl⟩ := vp_in_of (f3_isVillager hb) (by decide)
        obtain ⟨k, hk, rfl⟩ := vp_in_of hw (by decide)
        exact pair_fin i hi j hj k hk
      · have n0 : ∀ k, k < 5 → ¬ w = nI k := fun k hk e => hw (by rw [e]; exact vp_in_nI hk (by decide))
        unfold D_X3_pair D_X4_pair
        rw [iv_eq, iv_eq, if_neg ha, if_neg ha, if_neg hb, if_neg hb]
        simp only [if_neg (show ¬ w = 0 from n0 0 (by decide)), if_neg (show ¬ w = 1 from n0 1 (by decide)), if_neg (show ¬ w = 2 from n0 2 (by decide)), if_neg (show ¬ w = 3 from n0 3 (by decide)), if_neg (show ¬ w = 4 from n0 4 (by decide))]
theorem cp_mod {j t : Nat} (hj : j < 9) (ht : t < 1000) : D_X3_counterpart (nI j) (nI t) = D_X3_counterpart (nI j) (nI (t % 9)) := by
  apply Int32.toInt_inj.mp
  unfold D_X3_counterpart
  rw [ti_remainderOf, ti_remainderOf, pk_sub_toInt (by omega) (by omega), pk_sub_toInt (by omega) (by omega)]
  omega
theorem pb_mod (v : Int32) {t : Nat} (ht : t < 1000) : D_X4_partnerBy v (nI t) = D_X4_partnerBy v (nI (t % 9)) := by
  have e : nI t - nI t / 9 * 9 = nI (t % 9) - nI (t % 9) / 9 * 9 := by
    rw [show (9 : Int32) = nI 9 from rfl, pk_rem (by omega) (by decide) (by decide), pk_rem (by omega) (by decide) (by decide), Nat.mod_mod]
  unfold D_X4_partnerBy
  rw [e]
theorem num_ok {t : Nat} (ht : t < 1000) : ¬ D_X3_isNumber (nI t) = 0 := by
  unfold D_X3_isNumber
  rw [if_neg (nI_pos (by omega)), if_neg (show ¬ (999 : Int32) < nI t from fun q => absurd ((nI_ltI (a := 999) (by decide) (by omega)).mp q) (by omega))]
  decide
theorem par_fin : ∀ j, j < 9 → ∀ r, r < 9 → (if D_X3_counterpart (nI j) (nI r) = nI j then (-1000006) else D_X3_counterpart (nI j) (nI r)) = (if D_X4_partnerBy (nI j) (nI r) = nI j then (-1000006) else D_X4_partnerBy (nI j) (nI r)) := by decide +kernel
theorem eq_partner {v k : Int32} : D_X3_partner S0_X2 v k = D_X4_partner S0_X4 v k := by
  unfold D_X3_partner D_X4_partner
  rw [iv_eq, in_eq]
  by_cases hv : D_X3_isVillager v = 0
  · rw [if_pos hv, if_pos hv]
  · rw [if_neg hv, if_neg hv]
    by_cases hk : D_X3_isNumber k = 0
    · rw [if_pos hk, if_pos hk]
    · rw [if_neg hk, if_neg hk]
      obtain ⟨j, hj, rfl⟩ := vp_in_of (f3_isVillager hv) (by decide)
      obtain ⟨t, ht, rfl⟩ := vp_in_of (f3_isNumber hk) (by decide)
      rw [cp_mod hj ht, pb_mod _ ht]
      exact par_fin j hj (t % 9) (Nat.mod_lt _ (by decide))
theorem cnt_fin : ∀ k, k < 13 → D_X3_count S0_X2 S0_X1 0 (nI k) = D_X4_count M0 (nI k) := by decide +kernel
theorem eq_count {w : Int32} : D_X3_count S0_X2 S0_X1 0 w = D_X4_count S0_X4 w := by
  rw [m0]
  by_cases hw : vp_in w 13
  · obtain ⟨k, hk, rfl⟩ := vp_in_of hw (by decide)
    exact cnt_fin k hk
  · have n0 : ∀ k, k < 13 → ¬ w = nI k := fun k hk e => hw (by rw [e]; exact vp_in_nI hk (by decide))
    have hd : D_X4_in w.toInt64 0 3 = 0 := Decidable.byContradiction fun q => hw (my_wid (f4_in q (by decide) : vp_in w 4) (by decide) (by decide))
    unfold D_X3_count D_X4_count
    simp only [if_neg (show ¬ w = 0 from n0 0 (by decide)), if_neg (show ¬ w = 1 from n0 1 (by decide)), if_neg (show ¬ w = 2 from n0 2 (by decide)), if_neg (show ¬ w = 3 from n0 3 (by decide)), if_neg (show ¬ w = 4 from n0 4 (by decide)), if_neg (show ¬ w = 5 from n0 5 (by decide)), if_neg (show ¬ w = 6 from n0 6 (by decide)), if_neg (show ¬ w = 7 from n0 7 (by decide)), if_neg (show ¬ w = 8 from n0 8 (by decide)), if_neg (show ¬ w = 9 from n0 9 (by decide)), if_neg (show ¬ w = 10 from n0 10 (by decide)), if_neg (show ¬ w = 11 from n0 11 (by decide)), if_neg (show ¬ w = 12 from n0 12 (by decide)), if_pos hd]
theorem best_fin : ∀ k, k < 2 → D_X3_bestCall S0_X2 (nI k) = D_X4_bestCall M0 (nI k) := by decide +kernel
theorem eq_bestCall {w : Int32} : D_X3_bestCall S0_X2 w = D_X4_bestCall S0_X4 w := by
  rw [m0]
  by_cases hw : vp_in w 2
  · obtain ⟨k, hk, rfl⟩ := vp_in_of hw (by decide)
    exact best_fin k hk
  · have n0 : ∀ k, k < 2 → ¬ w = nI k := fun k hk e => hw (by rw [e]; exact vp_in_nI hk (by decide))
    have hd : D_X4_in w.toInt64 0 1 = 0 := Decidable.byContradiction fun q => hw (f4_in q (by decide) : vp_in w 2)
    unfold D_X3_bestCall D_X4_bestCall
    simp only [if_neg (show ¬ w = 0 from n0 0 (by decide)), if_neg (show ¬ w = 1 from n0 1 (by decide)), if_pos hd]
theorem few_fin : ∀ k, k < 2 → D_X3_fewestRounds S0_X2 (nI k) = D_X4_fewestRounds M0 (nI k) := by decide +kernel
theorem eq_fewestRounds {w : Int32} : D_X3_fewestRounds S0_X2 w = D_X4_fewestRounds S0_X4 w := by
  rw [m0]
  by_cases hw : vp_in w 2
  · obtain ⟨k, hk, rfl⟩ := vp_in_of hw (by decide)
    exact few_fin k hk
  · have n0 : ∀ k, k < 2 → ¬ w = nI k := fun k hk e => hw (by rw [e]; exact vp_in_nI hk (by decide))
    have hd : D_X4_in w.toInt64 0 1 = 0 := Decidable.byContradiction fun q => hw (f4_in q (by decide) : vp_in w 2)
    unfold D_X3_fewestRounds D_X4_fewestRounds
    simp only [if_neg (show ¬ w = 0 from n0 0 (by decide)), if_neg (show ¬ w = 1 from n0 1 (by decide)), if_pos hd]
theorem eq_wipe : (D_X3_wipe S0_X1).1 = (D_X4_wipe S0_X4).1 := by rw [m0]; decide +kernel
theorem eq_fault : D_X3_fault S0_X1 = (D_X4_fault S0_X4).1 := by
  rw [fl0]
  exact ff0 rfl
theorem eq_read : D_X3_read S0_X1 = (D_X4_read S0_X4).1 := rfl
theorem eq_undo : D_X3_undo 0 = D_X4_undo S0_X4 := rfl
theorem svL (M : Nat → Nat → Int32) (sl : Int32) (a : Nat) (ha : a ≠ 3) : ∀ (n : Nat) (i : Int32) (M1 : Nat → Nat → Int32), L_X4_save_12 M sl n i M1 a = M1 a := by
  intro n
  induction n with
  | zero => intro i M1; rfl
  | succ n ih =>
    intro i M1
    rw [L_X4_save_12]
    split
    · rfl
    · rw [ih]
      exact s2_ne ha
theorem sv0 (sn : Int32) : T_X4_save_1 sn (L_X4_save_12 M0 sn 313 0 M0) 0 = M0 0 := by
  unfold T_X4_save_1
  rw [s2_ne (by decide), svL M0 sn 0 (by decide)]
theorem eq_save {sn : Int32} : D_X3_save S0_X2 (fun _ => none) sn = (D_X4_save S0_X4 sn).1 := by
  rw [m0]
  unfold D_X3_save D_X4_save
  simp only [isl_eq]
  split
  · rfl
  · simp only [sv0]
    decide +kernel
theorem eq_restore {sn : Int32} : D_X3_restore (fun _ => none) sn = D_X4_restore S0_X4 sn := by
  unfold D_X3_restore D_X4_restore
  simp only [isl_eq]
theorem eq_untilAllMet : (D_X3_untilAllMet S0_X2 S0_X2).1 = (D_X4_untilAllMet S0_X4).1 := by
  rw [m0]
  decide +kernel
theorem call_fin : ∀ r, r < 9 → (D_X2_danceRound S0_X2 (nI r)).1 = (D_X4_round M1 (nI r)).1 := by decide +kernel
theorem dr_mod (S : Nat → Nat → Int32) {t : Nat} (ht : t < 1000) : ∀ (n k : Nat) (pz : Int32) (S1 : Nat → Nat → Int32), k ≤ 9 → L_X2_danceRound_4 S (nI t) n (nI k) pz S1 = L_X2_danceRound_4 S (nI (t % 9)) n (nI k) pz S1 := by
  intro n
  induction n with
  | zero => intro k pz S1 h; rfl
  | succ n ih =>
    intro k pz S1 h
    rw [L_X2_danceRound_4, L_X2_danceRound_4]
    by_cases c : (9 : Int32) ≤ nI k
    · rw [if_pos c, if_pos c]
    · have h9 : k < 9 := my_lt rfl (show (9 : Int32) = nI 9 from rfl) (by decide) h c
      have ih' := fun pz S1 => ih (k + 1) pz S1 (by omega)
      simp only [cp_mod h9 ht, nI_1, ih']
theorem ds_mod (M : Nat → Nat → Int32) (v : Int32) {t : Nat} (ht : t < 1000) : D_X4_dances M v (nI t) = D_X4_dances M v (nI (t % 9)) := by
  unfold D_X4_dances
  rw [pb_mod v ht]
theorem r4_mod (M : Nat → Nat → Int32) {t : Nat} (ht : t < 1000) : ∀ (n : Nat) (i nn : Int32) (M1 : Nat → Nat → Int32), L_X4_round_4 M (nI t) n i nn M1 = L_X4_round_4 M (nI (t % 9)) n i nn M1 := by
  intro n
  induction n with
  | zero => intro i nn M1; rfl
  | succ n ih =>
    intro i nn M1
    rw [L_X4_round_4, L_X4_round_4]
    simp only [ds_mod _ _ ht, ih]
theorem eq_call {f : Nat → Option Nat} {k : Int32} : (D_X3_call 0 f S0_X2 S0_X2 k).1 = (D_X4_call S0_X4 k).1 := by
  rw [m0]
  unfold D_X3_call D_X4_call
  rw [in_eq, m1]
  by_cases hk : D_X3_isNumber k = 0
  · rw [if_pos hk, if_pos hk]
  · rw [if_neg hk, if_neg hk, if_pos (show S0_X2 10 1 < 9999 from by decide +kernel), if_neg (show ¬ M0 0 (3 : Int32).toNatClampNeg = 9999 from by decide +kernel)]
    obtain ⟨t, ht, rfl⟩ := vp_in_of (f3_isNumber hk) (by decide)
    show (D_X2_danceRound S0_X2 (nI t)).1 = (D_X4_round M1 (nI t)).1
    have e1 : (D_X2_danceRound S0_X2 (nI t)).1 = (D_X2_danceRound S0_X2 (nI (t % 9))).1 := by
      unfold D_X2_danceRound
      simp only [show (0 : Int32) = nI 0 from rfl, dr_mod _ ht 10 0 _ _ (by omega)]
    have e2 : (D_X4_round M1 (nI t)).1 = (D_X4_round M1 (nI (t % 9))).1 := by
      unfold D_X4_round
      simp only [r4_mod _ ht]
    rw [e1, e2]
    exact call_fin (t % 9) (Nat.mod_lt _ (by decide))
theorem wb_mod (S : Nat → Nat → Int32) (w : Int32) {t : Nat} (ht : t < 1000) : ∀ (n k : Nat) (u : Int32), k ≤ 9 → L_X2_wouldBring_5 S (nI t) w n (nI k) u = L_X2_wouldBring_5 S (nI (t % 9)) w n (nI k) u := by
  intro n
  induction n with
  | zero => intro k u h; rfl
  | succ n ih =>
    intro k u h
    rw [L_X2_wouldBring_5, L_X2_wouldBring_5]
    by_cases c : (9 : Int32) ≤ nI k
    · rw [if_pos c, if_pos c]
    · have h9 : k < 9 := my_lt rfl (show (9 : Int32) = nI 9 from rfl) (by decide) h c
      have ih' := fun u => ih (k + 1) u (by omega)
      have ev : ∀ u, V_X2_wouldBring_1 S (nI t) w (nI k) u = V_X2_wouldBring_1 S (nI (t % 9)) w (nI k) u := fun u => by
        unfold V_X2_wouldBring_1
        rw [cp_mod h9 ht]
      simp only [cp_mod h9 ht, ev, nI_1, ih']
theorem jb_mod (M : Nat → Nat → Int32) {t : Nat} (ht : t < 1000) : ∀ (n : Nat) (i u : Int32), L_X4_joyBy_4 M (nI t) n i u = L_X4_joyBy_4 M (nI (t % 9)) n i u := by
  intro n
  induction n with
  | zero => intro i u; rfl
  | succ n ih =>
    intro i u
    rw [L_X4_joyBy_4, L_X4_joyBy_4]
    simp only [ds_mod _ _ ht, pb_mod _ ht, ih]
theorem vb_mod (M : Nat → Nat → Int32) (w : Int32) {t : Nat} (ht : t < 1000) : ∀ (n : Nat) (i u : Int32), L_X4_villagersBy_5 M (nI t) w n i u = L_X4_villagersBy_5 M (nI (t % 9)) w n i u := by
  intro n
  induction n with
  | zero => intro i u; rfl
  | succ n ih =>
    intro i u
    rw [L_X4_villagersBy_5, L_X4_villagersBy_5]
    simp only [ds_mod _ _ ht, pb_mod _ ht, ih]
theorem ifc_fin : ∀ r, r < 9 → ∀ i, i < 4 → D_X3_ifCalled S0_X2 (nI r) (nI i) = D_X4_ifCalled M0 (nI r) (nI i) := by decide +kernel
theorem eq_ifCalled {k w : Int32} : D_X3_ifCalled S0_X2 k w = D_X4_ifCalled S0_X4 k w := by
  rw [m0]
  by_cases hk : D_X3_isNumber k = 0
  · unfold D_X3_ifCalled D_X4_ifCalled
    rw [in_eq, if_pos hk, if_pos hk]
  · obtain ⟨t, ht, rfl⟩ := vp_in_of (f3_isNumber hk) (by decide)
    by_cases hw : vp_in w 4
    · obtain ⟨i, hi, rfl⟩ := vp_in_of hw (by decide)
      have hr : t % 9 < 9 := Nat.mod_lt _ (by decide)
      have e1 : D_X3_ifCalled S0_X2 (nI t) (nI i) = D_X3_ifCalled S0_X2 (nI (t % 9)) (nI i) := by
        unfold D_X3_ifCalled D_X2_wouldBring
        rw [if_neg (num_ok ht), if_neg (num_ok (show t % 9 < 1000 from by omega))]
        simp only [show (0 : Int32) = nI 0 from rfl, wb_mod _ _ ht 10 0 _ (by omega)]
      have e2 : D_X4_ifCalled M0 (nI t) (nI i) = D_X4_ifCalled M0 (nI (t % 9)) (nI i) := by
        unfold D_X4_ifCalled D_X4_joyBy D_X4_villagersBy
        rw [in_eq, in_eq, if_neg (num_ok ht), if_neg (num_ok (show t % 9 < 1000 from by omega))]
        simp only [jb_mod _ ht, vb_mod _ _ ht]
      rw [e1, e2]
      exact ifc_fin (t % 9) hr i hi
    · have hd : D_X4_in w.toInt64 0 3 = 0 := Decidable.byContradiction fun q => hw (f4_in q (by decide) : vp_in w 4)
      unfold D_X3_ifCalled D_X4_ifCalled
      rw [in_eq, if_neg hk, if_neg hk, if_pos hd]
      by_cases c : w < 0
      · rw [if_pos c]
      · rw [if_neg c, if_neg (fun q => hw (my_rgB c q (by decide) (by decide)))]
theorem in4_iff (v : Int32) (lo hi : Int64) : D_X4_in v.toInt64 lo hi = 0 ↔ (v.toInt < lo.toInt ∨ hi.toInt < v.toInt) := by
  unfold D_X4_in
  simp only [lg_cmp_lt, lg_cmp_gt]
  simp only [Int64.lt_iff_toInt_lt, Int32.toInt_toInt64]
  by_cases h1 : v.toInt < lo.toInt
  · rw [if_pos h1]; exact ⟨fun _ => Or.inl h1, fun _ => rfl⟩
  · rw [if_neg h1]
    by_cases h2 : hi.toInt < v.toInt
    · rw [if_pos h2]; exact ⟨fun _ => Or.inr h2, fun _ => rfl⟩
    · rw [if_neg h2]; exact ⟨fun q => absurd q (by decide), fun q => absurd q (by omega)⟩
theorem like_fin : ∀ i, i < 9 → ∀ j, j < 9 → S0_X2 6 (D_X3_pairIndex (nI i) (nI j)).toNatClampNeg = M1 0 (69 + D_X4_pairAt (nI i) (nI j)).toNatClampNeg := by decide +kernel
theorem eq_like {f : Nat → Option Nat} {a b v : Int32} : (D_X3_like 0 f S0_X2 S0_X2 a b v).1 = (D_X4_like S0_X4 a b v).1 := by
  rw [m0]
  unfold D_X3_like D_X4_like
  rw [iv_eq, iv_eq, m1]
  by_cases ha : D_X3_isVillager a = 0
  · rw [if_pos ha, if_pos ha]
  · rw [if_neg ha, if_neg ha]
    by_cases hb : D_X3_isVillager b = 0
    · rw [if_pos hb, if_pos hb]
    · rw [if_neg hb, if_neg hb]
      by_cases hab : a = b
      · rw [if_pos hab, if_pos hab]
      · rw [if_neg hab, if_neg hab]
        by_cases c1 : v < (-9)
        · rw [if_pos c1, if_pos ((in4_iff v (-9) 9).mpr (Or.inl (Int32.lt_iff_toInt_lt.mp c1)))]
        · by_cases c2 : v ≤ 9
          · rw [if_neg c1, if_pos c2, if_neg (fun q => by
              rcases (in4_iff v (-9) 9).mp q with h | h
              · exact c1 (Int32.lt_iff_toInt_lt.mpr h)
              · exact absurd (Int32.le_iff_toInt_le.mp c2) (Int.not_le.mpr h))]
            obtain ⟨i, hi, rfl⟩ := vp_in_of (f3_isVillager ha) (by decide)
            obtain ⟨j, hj, rfl⟩ := vp_in_of (f3_isVillager hb) (by decide)
            exact like_fin i hi j hj
          · rw [if_neg c1, if_neg c2, if_pos ((in4_iff v (-9) 9).mpr (Or.inr (Int.not_le.mp (fun q => c2 (Int32.le_iff_toInt_le.mpr q)))))]
theorem feed_fin : ∀ i, i < 9 → S0_X2 1 (nI i).toNatClampNeg = M1 0 (24 + nI i).toNatClampNeg := by decide +kernel
theorem eq_feed {f : Nat → Option Nat} {v w : Int32} : (D_X3_feed 0 f S0_X2 S0_X2 v w).1 = (D_X4_feed S0_X4 v w).1 := by
  rw [m0]
  unfold D_X3_feed D_X4_feed
  rw [iv_eq, m1]
  by_cases ha : D_X3_isVillager v = 0
  · rw [if_pos ha, if_pos ha]
  · rw [if_neg ha, if_neg ha]
    by_cases c1 : w < 0
    · rw [if_pos c1, if_pos ((in4_iff w 0 20).mpr (Or.inl (Int32.lt_iff_toInt_lt.mp c1)))]
    · by_cases c2 : w ≤ 20
      · rw [if_neg c1, if_pos c2, if_neg (fun q => by
          rcases (in4_iff w 0 20).mp q with h | h
          · exact c1 (Int32.lt_iff_toInt_lt.mpr h)
          · exact absurd (Int32.le_iff_toInt_le.mp c2) (Int.not_le.mpr h))]
        obtain ⟨i, hi, rfl⟩ := vp_in_of (f3_isVillager ha) (by decide)
        exact feed_fin i hi
      · rw [if_neg c1, if_neg c2, if_pos ((in4_iff w 0 20).mpr (Or.inr (Int.not_le.mp (fun q => c2 (Int32.le_iff_toInt_le.mpr q)))))]
theorem away_fin : ∀ i, i < 9 → D_J6_bitCount_0f7a4 ((T_X3_away_1 S0_X2 (nI i)) 10 0) = D_X4_sum (T_X4_away_2 (nI i) M1) 15 := by decide +kernel
theorem there_fin : ∀ i, i < 9 → D_X2_isThere S0_X2 (nI i) = 1 ∧ D_X4_isThere M0 (nI i) = 1 := by decide +kernel
theorem eq_away {f : Nat → Option Nat} {v al : Int32} : (D_X3_away 0 f S0_X2 S0_X2 v al).1 = (D_X4_away S0_X4 v al).1 := by
  rw [m0]
  unfold D_X3_away D_X4_away
  rw [iv_eq, m1]
  by_cases ha : D_X3_isVillager v = 0
  · rw [if_pos ha, if_pos ha]
  · rw [if_neg ha, if_neg ha]
    obtain ⟨i, hi, rfl⟩ := vp_in_of (f3_isVillager ha) (by decide)
    rw [(there_fin i hi).1, (there_fin i hi).2]
    by_cases c : (1 : Int32) = al
    · subst c
      rw [if_pos rfl, if_pos rfl, if_neg (show ¬ (1 : Int32) = 0 from by decide)]
      exact away_fin i hi
    · rw [if_neg c, if_neg c]
theorem set_fin : ∀ i, i < 3 → S0_X2 0 (nI i).toNatClampNeg = M1 0 (nI i).toNatClampNeg := by decide +kernel
theorem iset (g v : Int32) : D_X4_isSetting g v = 0 ↔ (g.toInt < 0 ∨ 2 < g.toInt ∨ (g = 2 ∧ (v.toInt < -9 ∨ 9 < v.toInt)) ∨ (¬ g = 2 ∧ (v.toInt < 0 ∨ 9 < v.toInt))) := by
  have k0 : (0 : Int64).toInt = 0 := rfl
  have k2 : (2 : Int64).toInt = 2 := rfl
  have k9 : (9 : Int64).toInt = 9 := rfl
  have m9 : (-9 : Int64).toInt = -9 := rfl
  unfold D_X4_isSetting
  by_cases h1 : D_X4_in g.toInt64 0 2 = 0
  · rw [if_pos h1]
    rw [in4_iff, k0, k2] at h1
    exact ⟨fun _ => by omega, fun _ => rfl⟩
  · rw [if_neg h1]
    rw [in4_iff, k0, k2] at h1
    by_cases h2 : g = 2
    · rw [if_pos h2]
      by_cases h3 : D_X4_in v.toInt64 (-9) 9 = 0
      · rw [if_pos h3]
        rw [in4_iff, m9, k9] at h3
        exact ⟨fun _ => Or.inr (Or.inr (Or.inl ⟨h2, h3⟩)), fun _ => rfl⟩
      · rw [if_neg h3]
        rw [in4_iff, m9, k9] at h3
        exact ⟨fun q => absurd q (by decide), fun q => by
          rcases q with q | q | q | q
          · exact absurd q (by omega)
          · exact absurd q (by omega)
          · exact absurd q.2 h3
          · exact absurd h2 q.1⟩
    · rw [if_neg h2]
      by_cases h3 : D_X4_in v.toInt64 0 9 = 0
      · rw [if_pos h3]
        rw [in4_iff, k0, k9] at h3
        exact ⟨fun _ => Or.inr (Or.inr (Or.inr ⟨h2, h3⟩)), fun _ => rfl⟩
      · rw [if_neg h3]
        rw [in4_iff, k0, k9] at h3
        exact ⟨fun q => absurd q (by decide), fun q => by
          rcases q with q | q | q | q
          · exact absurd q (by omega)
          · exact absurd q (by omega)
          · exact absurd q.1 h2
          · exact absurd q.2 h3⟩
theorem eq_set {f : Nat → Option Nat} {g v : Int32} : (D_X3_set 0 f S0_X2 S0_X2 g v).1 = (D_X4_set S0_X4 g v).1 := by
  have k0 : (0 : Int32).toInt = 0 := rfl
  have k3 : (3 : Int32).toInt = 3 := rfl
  have k9 : (9 : Int32).toInt = 9 := rfl
  have m9 : (-9 : Int32).toInt = -9 := rfl
  rw [m0]
  unfold D_X3_set D_X4_set
  rw [m1]
  by_cases c1 : g < 0
  · rw [if_pos c1, if_pos ((iset g v).mpr (Or.inl (Int32.lt_iff_toInt_lt.mp c1)))]
  · rw [if_neg c1]
    by_cases c2 : g < 3
    · rw [if_pos c2]
      have hin : vp_in g 3 := my_rgA c1 c2 (by decide) (by decide)
      have hv : S0_X2 0 g.toNatClampNeg = M1 0 g.toNatClampNeg := by
        obtain ⟨i, hi, rfl⟩ := vp_in_of hin (by decide)
        exact set_fin i hi
      have q1 := Int32.lt_iff_toInt_lt.mp c2
      have q0 : ¬ g.toInt < (0 : Int32).toInt := fun q => c1 (Int32.lt_iff_toInt_lt.mpr q)
      rw [k0] at q0
      rw [k3] at q1
      by_cases c3 : g = 2
      · rw [if_pos c3]
        by_cases c4 : v < (-9)
        · rw [if_pos c4, if_pos ((iset g v).mpr (Or.inr (Or.inr (Or.inl ⟨c3, Or.inl (Int32.lt_iff_toInt_lt.mp c4)⟩))))]
        · rw [if_neg c4]
          by_cases c5 : v ≤ 9
          · rw [if_pos c5, if_neg (fun q => by
              have r4 : ¬ v.toInt < (-9 : Int32).toInt := fun q => c4 (Int32.lt_iff_toInt_lt.mpr q)
              have r5 := Int32.le_iff_toInt_le.mp c5
              rw [m9] at r4
              rw [k9] at r5
              rcases (iset g v).mp q with q | q | q | q
              · omega
              · omega
              · exact absurd q.2 (by omega)
              · exact q.1 c3)]
            exact hv
          · rw [if_neg c5, if_pos ((iset g v).mpr (Or.inr (Or.inr (Or.inl ⟨c3, Or.inr (Int.not_le.mp (fun q => c5 (Int32.le_iff_toInt_le.mpr q)))⟩))))]
      · rw [if_neg c3]
        by_cases c4 : v < 0
        · rw [if_pos c4, if_pos ((iset g v).mpr (Or.inr (Or.inr (Or.inr ⟨c3, Or.inl (Int32.lt_iff_toInt_lt.mp c4)⟩))))]
        · rw [if_neg c4]
          by_cases c5 : v ≤ 9
          · rw [if_pos c5, if_neg (fun q => by
              have r4 : ¬ v.toInt < (0 : Int32).toInt := fun q => c4 (Int32.lt_iff_toInt_lt.mpr q)
              have r5 := Int32.le_iff_toInt_le.mp c5
              rw [k0] at r4
              rw [k9] at r5
              rcases (iset g v).mp q with q | q | q | q
              · omega
              · omega
              · exact c3 q.1
              · exact absurd q.2 (by omega))]
            exact hv
          · rw [if_neg c5, if_pos ((iset g v).mpr (Or.inr (Or.inr (Or.inr ⟨c3, Or.inr (Int.not_le.mp (fun q => c5 (Int32.le_iff_toInt_le.mpr q)))⟩))))]
    · rw [if_neg c2, if_pos ((iset g v).mpr (Or.inr (Or.inl (by
        have q1 : ¬ g.toInt < (3 : Int32).toInt := fun q => c2 (Int32.lt_iff_toInt_lt.mpr q)
        rw [k3] at q1
        omega))))]
def uN (x : Int64) : Nat := x.toUInt64.toNat
theorem uN_inj {x y : Int64} (h : uN x = uN y) : x = y := congrArg UInt64.toInt64 (UInt64.toNat_inj.mp h)
theorem uN_shr (x : Int64) (s : UInt64) : uN (x.toUInt64 >>> s).toInt64 = uN x / 2 ^ (s.toNat % 64) := by
  show (x.toUInt64 >>> s).toNat = _
  rw [UInt64.toNat_shiftRight, Nat.shiftRight_eq_div_pow]
  rfl
theorem uN_V (x : Int64) : uN (V_X3_charactersIn_1 x) = uN x / 256 := by
  have h : ((8 : Int32).toInt64.toUInt64 &&& Int64.toUInt64 63).toNat % 64 = 8 := by decide
  unfold V_X3_charactersIn_1
  rw [uN_shr, h]
theorem chars_L (ch : Int64) : ∀ (n k : Nat) (lf : Int64), k ≤ 8 → 9 ≤ k + n → uN lf < 2 ^ (64 - 8 * k) → L_X3_charactersIn_5 ch n (nI k) lf = (if lg_cmp (L_X4_charactersOf_5 ch n (nI k) lf).2 0 = 0 then (L_X4_charactersOf_5 ch n (nI k) lf).1 else 0) := by
  intro n
  induction n with
  | zero => intro k lf h1 h2; exact absurd h2 (by omega)
  | succ n ih =>
    intro k lf hk hn hu
    rw [L_X3_charactersIn_5, L_X4_charactersOf_5]
    by_cases c8 : (8 : Int32) ≤ nI k
    · have h8 : 8 ≤ k := (nI_leI (by decide) (by omega)).mp c8
      obtain rfl : k = 8 := by omega
      have h0 : lf = 0 := uN_inj (by rw [show uN 0 = 0 from rfl]; have : (2 : Nat) ^ (64 - 8 * 8) = 1 := rfl; omega)
      subst h0
      rw [if_pos (show lg_cmp 0 0 = 0 from by decide)]
      simp only [if_pos c8]
      rw [if_pos (show lg_cmp 0 0 = 0 from by decide)]
    · have h8 : k < 8 := my_lt rfl (show (8 : Int32) = nI 8 from rfl) (by decide) hk c8
      rw [if_neg c8, if_neg c8]
      by_cases c0 : lg_cmp lf 0 = 0
      · have h0 : lf = 0 := (lg_cmp_eq lf 0).mp c0
        subst h0
        rw [if_pos c0, if_pos (show D_X4_in (0 &&& 255) 33 126 = 0 from by decide), if_pos (show lg_cmp (nI k, (0 : Int64)).2 0 = 0 from by show lg_cmp 0 0 = 0; decide)]
      · rw [if_neg c0]
        by_cases c1 : lg_cmp (lf &&& 255) 33 < 0
        · rw [if_pos c1, if_pos (show D_X4_in (lf &&& 255) 33 126 = 0 from by unfold D_X4_in; rw [if_pos c1]), if_neg (show ¬ lg_cmp (nI k, lf).2 0 = 0 from c0)]
        · rw [if_neg c1]
          by_cases c2 : lg_cmp (lf &&& 255) 126 ≤ 0
          · have hin : ¬ D_X4_in (lf &&& 255) 33 126 = 0 := by
              unfold D_X4_in
              rw [if_neg c1, if_neg (Int32.not_lt.mpr c2)]
              decide
            rw [if_pos c2, if_neg hin, nI_1]
            refine ih (k + 1) _ (by omega) (by omega) ?_
            rw [uN_V]
            have e : (2 : Nat) ^ (64 - 8 * k) = 2 ^ (64 - 8 * (k + 1)) * 256 := by
              rw [show (256 : Nat) = 2 ^ 8 from rfl, ← Nat.pow_add]
              congr 1
              omega
            rw [e] at hu
            exact Nat.div_lt_of_lt_mul (by rw [Nat.mul_comm]; exact hu)
          · rw [if_neg c2, if_pos (show D_X4_in (lf &&& 255) 33 126 = 0 from by unfold D_X4_in; rw [if_neg c1, if_pos (Int32.not_le.mp c2)]), if_neg (show ¬ lg_cmp (nI k, lf).2 0 = 0 from c0)]
theorem chars_eq (ch : Int64) : D_X3_charactersIn ch = D_X4_charactersOf ch := chars_L ch 9 0 ch (by omega) (by omega) ch.toUInt64.toNat_lt
theorem pL4 (M : Nat → Nat → Int32) (ch : Int64) : ∀ (n : Nat) (i : Int32) (M1 : Nat → Nat → Int32), L_X4_put_29 M ch n i M1 9 = M1 9 := by
  intro n
  induction n with
  | zero => intro i M1; rfl
  | succ n ih =>
    intro i M1
    rw [L_X4_put_29]
    split
    · rfl
    · rw [ih]
      exact s2_ne (by decide)
theorem pL3 (P : Nat → Nat → Int32) (ch : Int64) (gv : Int32) : ∀ (n : Nat) (i : Int32) (P1 : Nat → Nat → Int32), L_X1_append_10 P ch gv n i P1 1 = P1 1 := by
  intro n
  induction n with
  | zero => intro i P1; rfl
  | succ n ih =>
    intro i P1
    rw [L_X1_append_10]
    split
    · rfl
    · rw [ih]
      exact s2_ne (by decide)
theorem put3 (ch : Int64) (gv : Int32) : D_X1_append S0_X1 ch gv 1 0 = 0 + gv := by
  have e := pL3 S0_X1 ch gv 10 (((S0_X1 1 0) + gv) - 1) S0_X1
  show (L_X1_append_10 S0_X1 ch gv 10 (((S0_X1 1 0) + gv) - 1) S0_X1) 1 0 + gv = 0 + gv
  rw [e]
  rfl
theorem put4 (ch : Int64) : T_X4_put_1 ch (L_X4_put_29 M0 ch 10 0 M0) 9 1 = 0 + D_X4_charactersOf ch := by
  have e := pL4 M0 ch 10 0 M0
  show (L_X4_put_29 M0 ch 10 0 M0) 9 1 + D_X4_charactersOf ch = 0 + D_X4_charactersOf ch
  rw [e]
  rfl
theorem eq_put {ch : Int64} : (D_X3_put S0_X1 ch).1 = (D_X4_put S0_X4 ch).1 := by
  rw [m0]
  unfold D_X3_put D_X4_put
  rw [chars_eq, show M0 9 1 = 0 from rfl, show S0_X1 1 0 = 0 from rfl, put3]
  by_cases c : D_X4_charactersOf ch = 0
  · rw [if_pos c, if_pos c]
  · rw [if_neg c, if_neg c]
    by_cases c2 : 0 + D_X4_charactersOf ch ≤ 60
    · rw [if_pos c2, if_pos c2]
      exact (put4 ch).symm
    · rw [if_neg c2, if_neg c2]

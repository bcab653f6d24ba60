def D_X3_villager (S : Nat → Nat → Int32) (v : Int32) (w : Int32) : (Int32) := if (D_X3_isVillager v) = 0 then (-1000001) else (if w = 0 then (if (D_X2_isThere S v) = 0 then 0 else 1) else (if w = 1 then (S 1 v.toNatClampNeg) else (if w = 2 then (S 2 v.toNatClampNeg) else (if w = 3 then (S 3 v.toNatClampNeg) else (if w = 4 then (S 4 v.toNatClampNeg) else (if w = 5 then (S 5 v.toNatClampNeg) else (if w = 6 then (D_X2_dancedWith S v) else (if w = 7 then (D_X2_mostFrequentPartner S v) else (-1000002)))))))))
set_option maxRecDepth 100000 in
theorem in_X3_villager_RX2 : ∀ w ∈ u_ws RX2 TX2 13, w ∈ wsX3_villager := by decide +kernel
set_option maxRecDepth 100000 in
theorem in_X3_villager_RX3 : ∀ w ∈ u_ws RX3 TX3 5, w ∈ wsX3_villager := by decide +kernel
set_option maxHeartbeats 4000000 in
set_option maxRecDepth 100000 in
theorem c_X3_villager (l : Launch) (D : va_G) (Y : YY) (sz : Nat) (r : Nat) (tr : Nat) (pp : Nat) (h : Nat) (sl : Nat) (q : Nat → Nat) (S : Nat → Nat → Int32) (x : Nat) (v : Int32) (w : Int32) : Met l yX3_villager wsX3_villager ({ frames := 2, cells := 0, slots := 0, locals := 46 } : Room) (va_Pc [.ref x, .int v, .int w] (Pst D Y sz (wX x r tr pp h sl ++ wR Y r q S))) ((fun A : Nat → Prop => Qsi D (fun r9 w9 => r9 = D_X3_villager S v w ∧ w9 = wX x r tr pp h sl ++ wR Y r q S) A) (va_A (wX x r tr pp h sl ++ wR Y r q S) sz)) 0 0 (va_A (wX x r tr pp h sl ++ wR Y r q S) sz) := by
  refine ct_in (cc := cX3_villager) (maxL := 3) (ret := (some .int)) (Qc := fun A : Nat → Prop => Qsi D (fun r9 w9 => r9 = D_X3_villager S v w ∧ w9 = wX x r tr pp h sl ++ wR Y r q S) A) (by decide +kernel) rfl (Nat.le_of_ble_eq_true rfl) ?_
  intro p e s m below meth c A ls hx hb hr hts hown hml hlk hin hsz hA hP hD hK hS hl
  have hown : s.vm.findClass RX3 = some m.cls := hown
  have hl : lv_has ls 3 [(0, .ref x), (1, .int v), (2, .int w)] := hl
  show W p l e ({ frames := 2, cells := 0, slots := 0, locals := 46 } : Room) s m ([.ref x, .int v, .int w] : List Value).toArray below meth c s.heap [] 0 0 (MQ below (Qsi D (fun r9 w9 => r9 = D_X3_villager S v w ∧ w9 = wX x r tr pp h sl ++ wR Y r q S) A) ([.ref x, .int v, .int w] : List Value).toArray s 0 0 A) (F0 m 0 ls [])
  refine lv_iload_n hx hb dX3_villager_0 rfl (lv_at hl 1 rfl) ?_
  refine ck_iD (wr := wX x r tr pp h sl ++ wR Y r q S) (ws' := wX x r tr pp h sl ++ wR Y r q S) (va_runS (As := [.int v]) (rest := []) ⟨hx, hb, hml, hown, hts⟩ (c_X3_isVillager l D Y s.heap.size v) (va_cwS 1 hts gX3_villager_X3_isVillager rfl rfl rfl (by decide +kernel) ⟨Nat.le_of_ble_eq_true rfl, Nat.le_of_ble_eq_true rfl⟩) (pst_S hK hP hD [] rfl (by decide)) rfl rfl hl.1 rfl (lv_room (Nat.le_of_ble_eq_true rfl)) dX3_villager_1 ⟨Nat.zero_le _, Nat.zero_le _⟩) hP hD hS hA [] [0, 1, 2, 3, 4, 5, 6, 7, 8, 9, 10, 11] [0, 1, 2, 3, 4, 5, 6, 7, 8, 9, 10, 11] rfl rfl (by decide) (by decide) rfl (by decide) (fun H locs hP hD hS => ?_)
  refine lv_if_ne (tgt := 10) hx hb dX3_villager_4 (by decide) (fun c_1 => ?_) (fun c_1 => ?_)
  · refine lv_iload_n hx hb dX3_villager_10 rfl (lv_at hl 2 rfl) ?_
    rcases Decidable.em (w = 0) with c_2 | c_2
    · refine lv_tableIn (off := 45) (tgt := 56) hx hb dX3_villager_11 (by rw [c_2]; decide) (by rw [c_2]; decide) (by rw [c_2]; rfl) (by decide) ?_
      refine lv_aload_n hx hb dX3_villager_56 rfl (lv_at hl 0 rfl) ?_
      refine va_get (D := D) (ci := 3) (v := .ref r) (C := RX3) (T := TX3) (N := 5) hx hb hts in_X3_villager_RX3 hown hK.1 hP 0 rfl rfl 0 (by decide) (hts (.fieldLink RX3 12 "NineDancers" "ring" "LNineDancers$Ring;") (by decide +kernel)) (fun _ h9 => h9) rfl dX3_villager_57 ?_
      refine lv_iload_n hx hb dX3_villager_60 rfl (lv_at hl 1 rfl) ?_
      refine ck_iD (wr := wX x r tr pp h sl) (ws' := wX x r tr pp h sl ++ wR Y r q S) (va_runV (As := [.int v]) (rest := []) ⟨hx, hb, hml, hown, hts⟩ (c_X2_isThere l D Y H.size q S r v) (cwV 1 hts gX3_villager_X2_isThere rfl rfl rfl (by decide +kernel) ⟨Nat.le_of_ble_eq_true rfl, Nat.le_of_ble_eq_true rfl⟩) (pst_V hK hP hD [1, 2, 3, 4, 5, 6, 7, 8, 9, 10, 11] rfl (by decide) (q0 := 0) rfl rfl) rfl rfl hl.1 rfl (lv_room (Nat.le_of_ble_eq_true rfl)) dX3_villager_61 ⟨Nat.zero_le _, Nat.zero_le _⟩) hP hD hS hA [1, 2, 3, 4, 5, 6, 7, 8, 9, 10, 11] [0] [0, 1, 2, 3, 4, 5, 6, 7, 8, 9, 10, 11] rfl rfl (by decide) (by decide) rfl (by decide) (fun H locs hP hD hS => ?_)
      refine lv_if_eq (tgt := 71) hx hb dX3_villager_64 (by decide) (fun c_3 => ?_) (fun c_3 => ?_)
      · refine lv_iconst (v := 0) hx hb dX3_villager_71 (by decide) ?_
        have e9 : D_X3_villager S v w = 0 := by rw [D_X3_villager, if_neg c_1, if_pos c_2, if_pos c_3]
        exact ret_i hx hb hr hlk hP hD hS dX3_villager_72 ⟨Nat.zero_le _, Nat.zero_le _⟩ ⟨e9.symm, rfl⟩
      · refine lv_iconst (v := 1) hx hb dX3_villager_67 (by decide) ?_
        refine lv_goto (tgt := 72) hx hb dX3_villager_68 (by decide) ?_
        have e9 : D_X3_villager S v w = 1 := by rw [D_X3_villager, if_neg c_1, if_pos c_2, if_neg c_3]
        exact ret_i hx hb hr hlk hP hD hS dX3_villager_72 ⟨Nat.zero_le _, Nat.zero_le _⟩ ⟨e9.symm, rfl⟩
    rcases Decidable.em (w = 1) with c_4 | c_4
    · refine lv_tableIn (off := 62) (tgt := 73) hx hb dX3_villager_11 (by rw [c_4]; decide) (by rw [c_4]; decide) (by rw [c_4]; rfl) (by decide) ?_
      refine lv_aload_n hx hb dX3_villager_73 rfl (lv_at hl 0 rfl) ?_
      refine va_get (D := D) (ci := 3) (v := .ref r) (C := RX3) (T := TX3) (N := 5) hx hb hts in_X3_villager_RX3 hown hK.1 hP 0 rfl rfl 0 (by decide) (hts (.fieldLink RX3 12 "NineDancers" "ring" "LNineDancers$Ring;") (by decide +kernel)) (fun _ h9 => h9) rfl dX3_villager_74 ?_
      refine va_get (D := D) (ci := 2) (v := .ref (q 1)) (C := RX2) (T := TX2) (N := 13) hx hb hts in_X3_villager_RX2 hown hK.1 hP 1 rfl rfl 2 (by decide) (hts (.fieldLink RX3 97 "NineDancers$Ring" "strengths" "[I") (by decide +kernel)) (fun _ h9 => h9) rfl dX3_villager_77 ?_
      refine lv_iload_n hx hb dX3_villager_80 rfl (lv_at hl 1 rfl) ?_
      refine va_iald (D := D) hx hb hK.1 hP 3 0 rfl rfl (f3_isVillager c_1) dX3_villager_81 ?_
      have e9 : D_X3_villager S v w = S 1 v.toNatClampNeg := by rw [D_X3_villager, if_neg c_1, if_neg c_2, if_pos c_4]
      exact ret_i hx hb hr hlk hP hD hS dX3_villager_82 ⟨Nat.zero_le _, Nat.zero_le _⟩ ⟨e9.symm, rfl⟩
    rcases Decidable.em (w = 2) with c_5 | c_5
    · refine lv_tableIn (off := 72) (tgt := 83) hx hb dX3_villager_11 (by rw [c_5]; decide) (by rw [c_5]; decide) (by rw [c_5]; rfl) (by decide) ?_
      refine lv_aload_n hx hb dX3_villager_83 rfl (lv_at hl 0 rfl) ?_
      refine va_get (D := D) (ci := 3) (v := .ref r) (C := RX3) (T := TX3) (N := 5) hx hb hts in_X3_villager_RX3 hown hK.1 hP 0 rfl rfl 0 (by decide) (hts (.fieldLink RX3 12 "NineDancers" "ring" "LNineDancers$Ring;") (by decide +kernel)) (fun _ h9 => h9) rfl dX3_villager_84 ?_
      refine va_get (D := D) (ci := 2) (v := .ref (q 2)) (C := RX2) (T := TX2) (N := 13) hx hb hts in_X3_villager_RX2 hown hK.1 hP 1 rfl rfl 3 (by decide) (hts (.fieldLink RX3 100 "NineDancers$Ring" "joys" "[I") (by decide +kernel)) (fun _ h9 => h9) rfl dX3_villager_87 ?_
      refine lv_iload_n hx hb dX3_villager_90 rfl (lv_at hl 1 rfl) ?_
      refine va_iald (D := D) hx hb hK.1 hP 4 0 rfl rfl (f3_isVillager c_1) dX3_villager_91 ?_
      have e9 : D_X3_villager S v w = S 2 v.toNatClampNeg := by rw [D_X3_villager, if_neg c_1, if_neg c_2, if_neg c_4, if_pos c_5]
      exact ret_i hx hb hr hlk hP hD hS dX3_villager_92 ⟨Nat.zero_le _, Nat.zero_le _⟩ ⟨e9.symm, rfl⟩
    rcases Decidable.em (w = 3) with c_6 | c_6
    · refine lv_tableIn (off := 82) (tgt := 93) hx hb dX3_villager_11 (by rw [c_6]; decide) (by rw [c_6]; decide) (by rw [c_6]; rfl) (by decide) ?_
      refine lv_aload_n hx hb dX3_villager_93 rfl (lv_at hl 0 rfl) ?_
      refine va_get (D := D) (ci := 3) (v := .ref r) (C := RX3) (T := TX3) (N := 5) hx hb hts in_X3_villager_RX3 hown hK.1 hP 0 rfl rfl 0 (by decide) (hts (.fieldLink RX3 12 "NineDancers" "ring" "LNineDancers$Ring;") (by decide +kernel)) (fun _ h9 => h9) rfl dX3_villager_94 ?_
      refine va_get (D := D) (ci := 2) (v := .ref (q 3)) (C := RX2) (T := TX2) (N := 13) hx hb hts in_X3_villager_RX2 hown hK.1 hP 1 rfl rfl 4 (by decide) (hts (.fieldLink RX3 103 "NineDancers$Ring" "roundsDanced" "[I") (by decide +kernel)) (fun _ h9 => h9) rfl dX3_villager_97 ?_
      refine lv_iload_n hx hb dX3_villager_100 rfl (lv_at hl 1 rfl) ?_
      refine va_iald (D := D) hx hb hK.1 hP 5 0 rfl rfl (f3_isVillager c_1) dX3_villager_101 ?_
      have e9 : D_X3_villager S v w = S 3 v.toNatClampNeg := by rw [D_X3_villager, if_neg c_1, if_neg c_2, if_neg c_4, if_neg c_5, if_pos c_6]
      exact ret_i hx hb hr hlk hP hD hS dX3_villager_102 ⟨Nat.zero_le _, Nat.zero_le _⟩ ⟨e9.symm, rfl⟩
    rcases Decidable.em (w = 4) with c_7 | c_7
    · refine lv_tableIn (off := 92) (tgt := 103) hx hb dX3_villager_11 (by rw [c_7]; decide) (by rw [c_7]; decide) (by rw [c_7]; rfl) (by decide) ?_
      refine lv_aload_n hx hb dX3_villager_103 rfl (lv_at hl 0 rfl) ?_
      refine va_get (D := D) (ci := 3) (v := .ref r) (C := RX3) (T := TX3) (N := 5) hx hb hts in_X3_villager_RX3 hown hK.1 hP 0 rfl rfl 0 (by decide) (hts (.fieldLink RX3 12 "NineDancers" "ring" "LNineDancers$Ring;") (by decide +kernel)) (fun _ h9 => h9) rfl dX3_villager_104 ?_
      refine va_get (D := D) (ci := 2) (v := .ref (q 4)) (C := RX2) (T := TX2) (N := 13) hx hb hts in_X3_villager_RX2 hown hK.1 hP 1 rfl rfl 5 (by decide) (hts (.fieldLink RX3 106 "NineDancers$Ring" "roundsRested" "[I") (by decide +kernel)) (fun _ h9 => h9) rfl dX3_villager_107 ?_
      refine lv_iload_n hx hb dX3_villager_110 rfl (lv_at hl 1 rfl) ?_
      refine va_iald (D := D) hx hb hK.1 hP 6 0 rfl rfl (f3_isVillager c_1) dX3_villager_111 ?_
      have e9 : D_X3_villager S v w = S 4 v.toNatClampNeg := by rw [D_X3_villager, if_neg c_1, if_neg c_2, if_neg c_4, if_neg c_5, if_neg c_6, if_pos c_7]
      exact ret_i hx hb hr hlk hP hD hS dX3_villager_112 ⟨Nat.zero_le _, Nat.zero_le _⟩ ⟨e9.symm, rfl⟩
    rcases Decidable.em (w = 5) with c_8 | c_8
    · refine lv_tableIn (off := 102) (tgt := 113) hx hb dX3_villager_11 (by rw [c_8]; decide) (by rw [c_8]; decide) (by rw [c_8]; rfl) (by decide) ?_
      refine lv_aload_n hx hb dX3_villager_113 rfl (lv_at hl 0 rfl) ?_
      refine va_get (D := D) (ci := 3) (v := .ref r) (C := RX3) (T := TX3) (N := 5) hx hb hts in_X3_villager_RX3 hown hK.1 hP 0 rfl rfl 0 (by decide) (hts (.fieldLink RX3 12 "NineDancers" "ring" "LNineDancers$Ring;") (by decide +kernel)) (fun _ h9 => h9) rfl dX3_villager_114 ?_
      refine va_get (D := D) (ci := 2) (v := .ref (q 5)) (C := RX2) (T := TX2) (N := 13) hx hb hts in_X3_villager_RX2 hown hK.1 hP 1 rfl rfl 6 (by decide) (hts (.fieldLink RX3 109 "NineDancers$Ring" "roundsAlone" "[I") (by decide +kernel)) (fun _ h9 => h9) rfl dX3_villager_117 ?_
      refine lv_iload_n hx hb dX3_villager_120 rfl (lv_at hl 1 rfl) ?_
      refine va_iald (D := D) hx hb hK.1 hP 7 0 rfl rfl (f3_isVillager c_1) dX3_villager_121 ?_
      have e9 : D_X3_villager S v w = S 5 v.toNatClampNeg := by rw [D_X3_villager, if_neg c_1, if_neg c_2, if_neg c_4, if_neg c_5, if_neg c_6, if_neg c_7, if_pos c_8]
      exact ret_i hx hb hr hlk hP hD hS dX3_villager_122 ⟨Nat.zero_le _, Nat.zero_le _⟩ ⟨e9.symm, rfl⟩
    rcases Decidable.em (w = 6) with c_9 | c_9
    · refine lv_tableIn (off := 112) (tgt := 123) hx hb dX3_villager_11 (by rw [c_9]; decide) (by rw [c_9]; decide) (by rw [c_9]; rfl) (by decide) ?_
      refine lv_aload_n hx hb dX3_villager_123 rfl (lv_at hl 0 rfl) ?_
      refine va_get (D := D) (ci := 3) (v := .ref r) (C := RX3) (T := TX3) (N := 5) hx hb hts in_X3_villager_RX3 hown hK.1 hP 0 rfl rfl 0 (by decide) (hts (.fieldLink RX3 12 "NineDancers" "ring" "LNineDancers$Ring;") (by decide +kernel)) (fun _ h9 => h9) rfl dX3_villager_124 ?_
      refine lv_iload_n hx hb dX3_villager_127 rfl (lv_at hl 1 rfl) ?_
      refine ck_iD (wr := wX x r tr pp h sl) (ws' := wX x r tr pp h sl ++ wR Y r q S) (va_runV (As := [.int v]) (rest := []) ⟨hx, hb, hml, hown, hts⟩ (c_X2_dancedWith l D Y H.size q S r v (f3_isVillager c_1)) (cwV 1 hts gX3_villager_X2_dancedWith rfl rfl rfl (by decide +kernel) ⟨Nat.le_of_ble_eq_true rfl, Nat.le_of_ble_eq_true rfl⟩) (pst_V hK hP hD [1, 2, 3, 4, 5, 6, 7, 8, 9, 10, 11] rfl (by decide) (q0 := 0) rfl rfl) rfl rfl hl.1 rfl (lv_room (Nat.le_of_ble_eq_true rfl)) dX3_villager_128 ⟨Nat.zero_le _, Nat.zero_le _⟩) hP hD hS hA [1, 2, 3, 4, 5, 6, 7, 8, 9, 10, 11] [0] [0, 1, 2, 3, 4, 5, 6, 7, 8, 9, 10, 11] rfl rfl (by decide) (by decide) rfl (by decide) (fun H locs hP hD hS => ?_)
      have e9 : D_X3_villager S v w = D_X2_dancedWith S v := by rw [D_X3_villager, if_neg c_1, if_neg c_2, if_neg c_4, if_neg c_5, if_neg c_6, if_neg c_7, if_neg c_8, if_pos c_9]
      exact ret_i hx hb hr hlk hP hD hS dX3_villager_131 ⟨Nat.zero_le _, Nat.zero_le _⟩ ⟨e9.symm, rfl⟩
    rcases Decidable.em (w = 7) with c_10 | c_10
    · refine lv_tableIn (off := 121) (tgt := 132) hx hb dX3_villager_11 (by rw [c_10]; decide) (by rw [c_10]; decide) (by rw [c_10]; rfl) (by decide) ?_
      refine lv_aload_n hx hb dX3_villager_132 rfl (lv_at hl 0 rfl) ?_
      refine va_get (D := D) (ci := 3) (v := .ref r) (C := RX3) (T := TX3) (N := 5) hx hb hts in_X3_villager_RX3 hown hK.1 hP 0 rfl rfl 0 (by decide) (hts (.fieldLink RX3 12 "NineDancers" "ring" "LNineDancers$Ring;") (by decide +kernel)) (fun _ h9 => h9) rfl dX3_villager_133 ?_
      refine lv_iload_n hx hb dX3_villager_136 rfl (lv_at hl 1 rfl) ?_
      refine ck_iD (wr := wX x r tr pp h sl) (ws' := wX x r tr pp h sl ++ wR Y r q S) (va_runV (As := [.int v]) (rest := []) ⟨hx, hb, hml, hown, hts⟩ (c_X2_mostFrequentPartner l D Y H.size q S r v (f3_isVillager c_1)) (cwV 1 hts gX3_villager_X2_mostFrequentPartner rfl rfl rfl (by decide +kernel) ⟨Nat.le_of_ble_eq_true rfl, Nat.le_of_ble_eq_true rfl⟩) (pst_V hK hP hD [1, 2, 3, 4, 5, 6, 7, 8, 9, 10, 11] rfl (by decide) (q0 := 0) rfl rfl) rfl rfl hl.1 rfl (lv_room (Nat.le_of_ble_eq_true rfl)) dX3_villager_137 ⟨Nat.zero_le _, Nat.zero_le _⟩) hP hD hS hA [1, 2, 3, 4, 5, 6, 7, 8, 9, 10, 11] [0] [0, 1, 2, 3, 4, 5, 6, 7, 8, 9, 10, 11] rfl rfl (by decide) (by decide) rfl (by decide) (fun H locs hP hD hS => ?_)
      have e9 : D_X3_villager S v w = D_X2_mostFrequentPartner S v := by rw [D_X3_villager, if_neg c_1, if_neg c_2, if_neg c_4, if_neg c_5, if_neg c_6, if_neg c_7, if_neg c_8, if_neg c_9, if_pos c_10]
      exact ret_i hx hb hr hlk hP hD hS dX3_villager_140 ⟨Nat.zero_le _, Nat.zero_le _⟩ ⟨e9.symm, rfl⟩
    refine lv_tableOut (tgt := 141) hx hb dX3_villager_11 (by have z0 := lv_neT c_2 (show (0 : Int32).toInt = 0 from rfl); have z1 := lv_neT c_4 (show (1 : Int32).toInt = 1 from rfl); have z2 := lv_neT c_5 (show (2 : Int32).toInt = 2 from rfl); have z3 := lv_neT c_6 (show (3 : Int32).toInt = 3 from rfl); have z4 := lv_neT c_7 (show (4 : Int32).toInt = 4 from rfl); have z5 := lv_neT c_8 (show (5 : Int32).toInt = 5 from rfl); have z6 := lv_neT c_9 (show (6 : Int32).toInt = 6 from rfl); have z7 := lv_neT c_10 (show (7 : Int32).toInt = 7 from rfl); omega) (by decide) ?_
    refine lv_ldc (v := (-1000002)) hx hb hown (hts (.constant RX3 37 (-1000002)) (by decide +kernel)) dX3_villager_141 ?_
    have e9 : D_X3_villager S v w = (-1000002) := by rw [D_X3_villager, if_neg c_1, if_neg c_2, if_neg c_4, if_neg c_5, if_neg c_6, if_neg c_7, if_neg c_8, if_neg c_9, if_neg c_10]
    exact ret_i hx hb hr hlk hP hD hS dX3_villager_143 ⟨Nat.zero_le _, Nat.zero_le _⟩ ⟨e9.symm, rfl⟩
  · refine lv_ldc (v := (-1000001)) hx hb hown (hts (.constant RX3 50 (-1000001)) (by decide +kernel)) dX3_villager_7 ?_
    have e9 : D_X3_villager S v w = (-1000001) := by rw [D_X3_villager, if_pos c_1]
    exact ret_i hx hb hr hlk hP hD hS dX3_villager_9 ⟨Nat.zero_le _, Nat.zero_le _⟩ ⟨e9.symm, rfl⟩
def D_X3_pair (S : Nat → Nat → Int32) (a : Int32) (b : Int32) (w : Int32) : (Int32) := if (D_X3_isVillager a) = 0 then (-1000001) else (if (D_X3_isVillager b) = 0 then (-1000001) else (if a = b then (-1000002) else (if w = 0 then (S 6 (D_X3_pairIndex a b).toNatClampNeg) else (if w = 1 then (S 7 (D_X3_pairIndex a b).toNatClampNeg) else (if w = 2 then (D_X3_remainderOf (a + b)) else (if w = 3 then (S 9 (D_X3_remainderOf (a + b)).toNatClampNeg) else (if w = 4 then (S 8 (D_X3_pairIndex a b).toNatClampNeg) else (-1000002))))))))
set_option maxRecDepth 100000 in
theorem in_X3_pair_RX2 : ∀ w ∈ u_ws RX2 TX2 13, w ∈ wsX3_pair := by decide +kernel
set_option maxRecDepth 100000 in
theorem in_X3_pair_RX3 : ∀ w ∈ u_ws RX3 TX3 5, w ∈ wsX3_pair := by decide +kernel
set_option maxHeartbeats 4000000 in
set_option maxRecDepth 100000 in
theorem c_X3_pair (l : Launch) (D : va_G) (Y : YY) (sz : Nat) (r : Nat) (tr : Nat) (pp : Nat) (h : Nat) (sl : Nat) (q : Nat → Nat) (S : Nat → Nat → Int32) (x : Nat) (a : Int32) (b : Int32) (w : Int32) : Met l yX3_pair wsX3_pair ({ frames := 2, cells := 0, slots := 0, locals := 42 } : Room) (va_Pc [.ref x, .int a, .int b, .int w] (Pst D Y sz (wX x r tr pp h sl ++ wR Y r q S))) ((fun A : Nat → Prop => Qsi D (fun r9 w9 => r9 = D_X3_pair S a b w ∧ w9 = wX x r tr pp h sl ++ wR Y r q S) A) (va_A (wX x r tr pp h sl ++ wR Y r q S) sz)) 0 0 (va_A (wX x r tr pp h sl ++ wR Y r q S) sz) := by
  refine ct_in (cc := cX3_pair) (maxL := 6) (ret := (some .int)) (Qc := fun A : Nat → Prop => Qsi D (fun r9 w9 => r9 = D_X3_pair S a b w ∧ w9 = wX x r tr pp h sl ++ wR Y r q S) A) (by decide +kernel) rfl (Nat.le_of_ble_eq_true rfl) ?_
  intro p e s m below meth c A ls hx hb hr hts hown hml hlk hin hsz hA hP hD hK hS hl
  have hown : s.vm.findClass RX3 = some m.cls := hown
  have hl : lv_has ls 6 [(0, .ref x), (1, .int a), (2, .int b), (3, .int w)] := hl
  show W p l e ({ frames := 2, cells := 0, slots := 0, locals := 42 } : Room) s m ([.ref x, .int a, .int b, .int w] : List Value).toArray below meth c s.heap [] 0 0 (MQ below (Qsi D (fun r9 w9 => r9 = D_X3_pair S a b w ∧ w9 = wX x r tr pp h sl ++ wR Y r q S) A) ([.ref x, .int a, .int b, .int w] : List Value).toArray s 0 0 A) (F0 m 0 ls [])
  refine lv_iload_n hx hb dX3_pair_0 rfl (lv_at hl 1 rfl) ?_
  refine ck_iD (wr := wX x r tr pp h sl ++ wR Y r q S) (ws' := wX x r tr pp h sl ++ wR Y r q S) (va_runS (As := [.int a]) (rest := []) ⟨hx, hb, hml, hown, hts⟩ (c_X3_isVillager l D Y s.heap.size a) (va_cwS 1 hts gX3_pair_X3_isVillager rfl rfl rfl (by decide +kernel) ⟨Nat.le_of_ble_eq_true rfl, Nat.le_of_ble_eq_true rfl⟩) (pst_S hK hP hD [] rfl (by decide)) rfl rfl hl.1 rfl (lv_room (Nat.le_of_ble_eq_true rfl)) dX3_pair_1 ⟨Nat.zero_le _, Nat.zero_le _⟩) hP hD hS hA [] [0, 1, 2, 3, 4, 5, 6, 7, 8, 9, 10, 11] [0, 1, 2, 3, 4, 5, 6, 7, 8, 9, 10, 11] rfl rfl (by decide) (by decide) rfl (by decide) (fun H locs hP hD hS => ?_)
  refine lv_if_eq (tgt := 14) hx hb dX3_pair_4 (by decide) (fun c_1 => ?_) (fun c_1 => ?_)
  · refine lv_ldc (v := (-1000001)) hx hb hown (hts (.constant RX3 50 (-1000001)) (by decide +kernel)) dX3_pair_14 ?_
    have e9 : D_X3_pair S a b w = (-1000001) := by rw [D_X3_pair, if_pos c_1]
    exact ret_i hx hb hr hlk hP hD hS dX3_pair_16 ⟨Nat.zero_le _, Nat.zero_le _⟩ ⟨e9.symm, rfl⟩
  · refine lv_iload_n hx hb dX3_pair_7 rfl (lv_at hl 2 rfl) ?_
    refine ck_iD (wr := wX x r tr pp h sl ++ wR Y r q S) (ws' := wX x r tr pp h sl ++ wR Y r q S) (va_runS (As := [.int b]) (rest := []) ⟨hx, hb, hml, hown, hts⟩ (c_X3_isVillager l D Y H.size b) (va_cwS 1 hts gX3_pair_X3_isVillager rfl rfl rfl (by decide +kernel) ⟨Nat.le_of_ble_eq_true rfl, Nat.le_of_ble_eq_true rfl⟩) (pst_S hK hP hD [] rfl (by decide)) rfl rfl hl.1 rfl (lv_room (Nat.le_of_ble_eq_true rfl)) dX3_pair_8 ⟨Nat.zero_le _, Nat.zero_le _⟩) hP hD hS hA [] [0, 1, 2, 3, 4, 5, 6, 7, 8, 9, 10, 11] [0, 1, 2, 3, 4, 5, 6, 7, 8, 9, 10, 11] rfl rfl (by decide) (by decide) rfl (by decide) (fun H locs hP hD hS => ?_)
    refine lv_if_ne (tgt := 17) hx hb dX3_pair_11 (by decide) (fun c_2 => ?_) (fun c_2 => ?_)
    · refine lv_iload_n hx hb dX3_pair_17 rfl (lv_at hl 1 rfl) ?_
      refine lv_iload_n hx hb dX3_pair_18 rfl (lv_at hl 2 rfl) ?_
      refine lv_icmp_ne (tgt := 25) hx hb dX3_pair_19 (by decide) (fun c_3 => ?_) (fun c_3 => ?_)
      · refine lv_iload_n hx hb dX3_pair_25 rfl (lv_at hl 1 rfl) ?_
        refine lv_iload_n hx hb dX3_pair_26 rfl (lv_at hl 2 rfl) ?_
        refine ck_iD (wr := wX x r tr pp h sl ++ wR Y r q S) (ws' := wX x r tr pp h sl ++ wR Y r q S) (va_runS (As := [.int a, .int b]) (rest := []) ⟨hx, hb, hml, hown, hts⟩ (c_X3_pairIndex l D Y H.size a b) (va_cwS 2 hts gX3_pair_X3_pairIndex rfl rfl rfl (by decide +kernel) ⟨Nat.le_of_ble_eq_true rfl, Nat.le_of_ble_eq_true rfl⟩) (pst_S hK hP hD [] rfl (by decide)) rfl rfl hl.1 rfl (lv_room (Nat.le_of_ble_eq_true rfl)) dX3_pair_27 ⟨Nat.zero_le _, Nat.zero_le _⟩) hP hD hS hA [] [0, 1, 2, 3, 4, 5, 6, 7, 8, 9, 10, 11] [0, 1, 2, 3, 4, 5, 6, 7, 8, 9, 10, 11] rfl rfl (by decide) (by decide) rfl (by decide) (fun H locs hP hD hS => ?_)
        refine lv_istore (lv' := [(4, .int (D_X3_pairIndex a b)), (0, .ref x), (1, .int a), (2, .int b), (3, .int w)]) hx hb dX3_pair_30 hl (by decide) rfl (fun ls hl => ?_)
        refine lv_iload_n hx hb dX3_pair_32 rfl (lv_at hl 2 rfl) ?_
        refine lv_iload_n hx hb dX3_pair_33 rfl (lv_at hl 3 rfl) ?_
        refine lv_iadd hx hb dX3_pair_34 ?_
        refine ck_iD (wr := wX x r tr pp h sl ++ wR Y r q S) (ws' := wX x r tr pp h sl ++ wR Y r q S) (va_runS (As := [.int (a + b)]) (rest := []) ⟨hx, hb, hml, hown, hts⟩ (c_X3_remainderOf l D Y H.size (a + b)) (va_cwS 1 hts gX3_pair_X3_remainderOf rfl rfl rfl (by decide +kernel) ⟨Nat.le_of_ble_eq_true rfl, Nat.le_of_ble_eq_true rfl⟩) (pst_S hK hP hD [] rfl (by decide)) rfl rfl hl.1 rfl (lv_room (Nat.le_of_ble_eq_true rfl)) dX3_pair_35 ⟨Nat.zero_le _, Nat.zero_le _⟩) hP hD hS hA [] [0, 1, 2, 3, 4, 5, 6, 7, 8, 9, 10, 11] [0, 1, 2, 3, 4, 5, 6, 7, 8, 9, 10, 11] rfl rfl (by decide) (by decide) rfl (by decide) (fun H locs hP hD hS => ?_)
        refine lv_istore (lv' := [(5, .int (D_X3_remainderOf (a + b))), (4, .int (D_X3_pairIndex a b)), (0, .ref x), (1, .int a), (2, .int b), (3, .int w)]) hx hb dX3_pair_38 hl (by decide) rfl (fun ls hl => ?_)
        refine lv_iload_n hx hb dX3_pair_40 rfl (lv_at hl 5 rfl) ?_
        rcases Decidable.em (w = 0) with c_4 | c_4
        · refine lv_tableIn (off := 35) (tgt := 76) hx hb dX3_pair_41 (by rw [c_4]; decide) (by rw [c_4]; decide) (by rw [c_4]; rfl) (by decide) ?_
          refine lv_aload_n hx hb dX3_pair_76 rfl (lv_at hl 2 rfl) ?_
          refine va_get (D := D) (ci := 3) (v := .ref r) (C := RX3) (T := TX3) (N := 5) hx hb hts in_X3_pair_RX3 hown hK.1 hP 0 rfl rfl 0 (by decide) (hts (.fieldLink RX3 12 "NineDancers" "ring" "LNineDancers$Ring;") (by decide +kernel)) (fun _ h9 => h9) rfl dX3_pair_77 ?_
          refine va_get (D := D) (ci := 2) (v := .ref (q 6)) (C := RX2) (T := TX2) (N := 13) hx hb hts in_X3_pair_RX2 hown hK.1 hP 1 rfl rfl 7 (by decide) (hts (.fieldLink RX3 55 "NineDancers$Ring" "likings" "[I") (by decide +kernel)) (fun _ h9 => h9) rfl dX3_pair_80 ?_
          refine lv_iload hx hb dX3_pair_83 (lv_at hl 1 rfl) ?_
          refine va_iald (D := D) hx hb hK.1 hP 8 0 rfl rfl (in_pairIndex (f3_isVillager c_1) (f3_isVillager c_2)) dX3_pair_85 ?_
          have e9 : D_X3_pair S a b w = S 6 (D_X3_pairIndex a b).toNatClampNeg := by rw [D_X3_pair, if_neg c_1, if_neg c_2, if_neg c_3, if_pos c_4]
          exact ret_i hx hb hr hlk hP hD hS dX3_pair_86 ⟨Nat.zero_le _, Nat.zero_le _⟩ ⟨e9.symm, rfl⟩
        rcases Decidable.em (w = 1) with c_5 | c_5
        · refine lv_tableIn (off := 46) (tgt := 87) hx hb dX3_pair_41 (by rw [c_5]; decide) (by rw [c_5]; decide) (by rw [c_5]; rfl) (by decide) ?_
          refine lv_aload_n hx hb dX3_pair_87 rfl (lv_at hl 2 rfl) ?_
          refine va_get (D := D) (ci := 3) (v := .ref r) (C := RX3) (T := TX3) (N := 5) hx hb hts in_X3_pair_RX3 hown hK.1 hP 0 rfl rfl 0 (by decide) (hts (.fieldLink RX3 12 "NineDancers" "ring" "LNineDancers$Ring;") (by decide +kernel)) (fun _ h9 => h9) rfl dX3_pair_88 ?_
          refine va_get (D := D) (ci := 2) (v := .ref (q 7)) (C := RX2) (T := TX2) (N := 13) hx hb hts in_X3_pair_RX2 hown hK.1 hP 1 rfl rfl 8 (by decide) (hts (.fieldLink RX3 121 "NineDancers$Ring" "dances" "[I") (by decide +kernel)) (fun _ h9 => h9) rfl dX3_pair_91 ?_
          refine lv_iload hx hb dX3_pair_94 (lv_at hl 1 rfl) ?_
          refine va_iald (D := D) hx hb hK.1 hP 9 0 rfl rfl (in_pairIndex (f3_isVillager c_1) (f3_isVillager c_2)) dX3_pair_96 ?_
          have e9 : D_X3_pair S a b w = S 7 (D_X3_pairIndex a b).toNatClampNeg := by rw [D_X3_pair, if_neg c_1, if_neg c_2, if_neg c_3, if_neg c_4, if_pos c_5]
          exact ret_i hx hb hr hlk hP hD hS dX3_pair_97 ⟨Nat.zero_le _, Nat.zero_le _⟩ ⟨e9.symm, rfl⟩
        rcases Decidable.em (w = 2) with c_6 | c_6
        · refine lv_tableIn (off := 57) (tgt := 98) hx hb dX3_pair_41 (by rw [c_6]; decide) (by rw [c_6]; decide) (by rw [c_6]; rfl) (by decide) ?_
          refine lv_iload hx hb dX3_pair_98 (lv_at hl 0 rfl) ?_
          have e9 : D_X3_pair S a b w = D_X3_remainderOf (a + b) := by rw [D_X3_pair, if_neg c_1, if_neg c_2, if_neg c_3, if_neg c_4, if_neg c_5, if_pos c_6]
          exact ret_i hx hb hr hlk hP hD hS dX3_pair_100 ⟨Nat.zero_le _, Nat.zero_le _⟩ ⟨e9.symm, rfl⟩
        rcases Decidable.em (w = 3) with c_7 | c_7
        · refine lv_tableIn (off := 60) (tgt := 101) hx hb dX3_pair_41 (by rw [c_7]; decide) (by rw [c_7]; decide) (by rw [c_7]; rfl) (by decide) ?_
          refine lv_aload_n hx hb dX3_pair_101 rfl (lv_at hl 2 rfl) ?_
          refine va_get (D := D) (ci := 3) (v := .ref r) (C := RX3) (T := TX3) (N := 5) hx hb hts in_X3_pair_RX3 hown hK.1 hP 0 rfl rfl 0 (by decide) (hts (.fieldLink RX3 12 "NineDancers" "ring" "LNineDancers$Ring;") (by decide +kernel)) (fun _ h9 => h9) rfl dX3_pair_102 ?_
          refine va_get (D := D) (ci := 2) (v := .ref (q 9)) (C := RX2) (T := TX2) (N := 13) hx hb hts in_X3_pair_RX2 hown hK.1 hP 1 rfl rfl 10 (by decide) (hts (.fieldLink RX3 124 "NineDancers$Ring" "timesTold" "[I") (by decide +kernel)) (fun _ h9 => h9) rfl dX3_pair_105 ?_
          refine lv_iload hx hb dX3_pair_108 (lv_at hl 0 rfl) ?_
          refine va_iald (D := D) hx hb hK.1 hP 11 0 rfl rfl (in_remainderOf _) dX3_pair_110 ?_
          have e9 : D_X3_pair S a b w = S 9 (D_X3_remainderOf (a + b)).toNatClampNeg := by rw [D_X3_pair, if_neg c_1, if_neg c_2, if_neg c_3, if_neg c_4, if_neg c_5, if_neg c_6, if_pos c_7]
          exact ret_i hx hb hr hlk hP hD hS dX3_pair_111 ⟨Nat.zero_le _, Nat.zero_le _⟩ ⟨e9.symm, rfl⟩
        rcases Decidable.em (w = 4) with c_8 | c_8
        · refine lv_tableIn (off := 71) (tgt := 112) hx hb dX3_pair_41 (by rw [c_8]; decide) (by rw [c_8]; decide) (by rw [c_8]; rfl) (by decide) ?_
          refine lv_aload_n hx hb dX3_pair_112 rfl (lv_at hl 2 rfl) ?_
          refine va_get (D := D) (ci := 3) (v := .ref r) (C := RX3) (T := TX3) (N := 5) hx hb hts in_X3_pair_RX3 hown hK.1 hP 0 rfl rfl 0 (by decide) (hts (.fieldLink RX3 12 "NineDancers" "ring" "LNineDancers$Ring;") (by decide +kernel)) (fun _ h9 => h9) rfl dX3_pair_113 ?_
          refine va_get (D := D) (ci := 2) (v := .ref (q 8)) (C := RX2) (T := TX2) (N := 13) hx hb hts in_X3_pair_RX2 hown hK.1 hP 1 rfl rfl 9 (by decide) (hts (.fieldLink RX3 127 "NineDancers$Ring" "lastDances" "[I") (by decide +kernel)) (fun _ h9 => h9) rfl dX3_pair_116 ?_
          refine lv_iload hx hb dX3_pair_119 (lv_at hl 1 rfl) ?_
          refine va_iald (D := D) hx hb hK.1 hP 10 0 rfl rfl (in_pairIndex (f3_isVillager c_1) (f3_isVillager c_2)) dX3_pair_121 ?_
          have e9 : D_X3_pair S a b w = S 8 (D_X3_pairIndex a b).toNatClampNeg := by rw [D_X3_pair, if_neg c_1, if_neg c_2, if_neg c_3, if_neg c_4, if_neg c_5, if_neg c_6, if_neg c_7, if_pos c_8]
          exact ret_i hx hb hr hlk hP hD hS dX3_pair_122 ⟨Nat.zero_le _, Nat.zero_le _⟩ ⟨e9.symm, rfl⟩
        refine lv_tableOut (tgt := 123) hx hb dX3_pair_41 (by have z0 := lv_neT c_4 (show (0 : Int32).toInt = 0 from rfl); have z1 := lv_neT c_5 (show (1 : Int32).toInt = 1 from rfl); have z2 := lv_neT c_6 (show (2 : Int32).toInt = 2 from rfl); have z3 := lv_neT c_7 (show (3 : Int32).toInt = 3 from rfl); have z4 := lv_neT c_8 (show (4 : Int32).toInt = 4 from rfl); omega) (by decide) ?_
        refine lv_ldc (v := (-1000002)) hx hb hown (hts (.constant RX3 37 (-1000002)) (by decide +kernel)) dX3_pair_123 ?_
        have e9 : D_X3_pair S a b w = (-1000002) := by rw [D_X3_pair, if_neg c_1, if_neg c_2, if_neg c_3, if_neg c_4, if_neg c_5, if_neg c_6, if_neg c_7, if_neg c_8]
        exact ret_i hx hb hr hlk hP hD hS dX3_pair_125 ⟨Nat.zero_le _, Nat.zero_le _⟩ ⟨e9.symm, rfl⟩
      · refine lv_ldc (v := (-1000002)) hx hb hown (hts (.constant RX3 37 (-1000002)) (by decide +kernel)) dX3_pair_22 ?_
        have e9 : D_X3_pair S a b w = (-1000002) := by rw [D_X3_pair, if_neg c_1, if_neg c_2, if_pos c_3]
        exact ret_i hx hb hr hlk hP hD hS dX3_pair_24 ⟨Nat.zero_le _, Nat.zero_le _⟩ ⟨e9.symm, rfl⟩
    · refine lv_ldc (v := (-1000001)) hx hb hown (hts (.constant RX3 50 (-1000001)) (by decide +kernel)) dX3_pair_14 ?_
      have e9 : D_X3_pair S a b w = (-1000001) := by rw [D_X3_pair, if_neg c_1, if_pos c_2]
      exact ret_i hx hb hr hlk hP hD hS dX3_pair_16 ⟨Nat.zero_le _, Nat.zero_le _⟩ ⟨e9.symm, rfl⟩
def D_X3_partner (S : Nat → Nat → Int32) (v : Int32) (k : Int32) : (Int32) := if (D_X3_isVillager v) = 0 then (-1000001) else (if (D_X3_isNumber k) = 0 then (-1000002) else (if (D_X3_counterpart v k) = v then (-1000006) else (D_X3_counterpart v k)))
set_option maxHeartbeats 4000000 in
set_option maxRecDepth 100000 in
theorem c_X3_partner (l : Launch) (D : va_G) (Y : YY) (sz : Nat) (r : Nat) (tr : Nat) (pp : Nat) (h : Nat) (sl : Nat) (q : Nat → Nat) (S : Nat → Nat → Int32) (x : Nat) (v : Int32) (k : Int32) : Met l yX3_partner wsX3_partner ({ frames := 3, cells := 0, slots := 0, locals := 63 } : Room) (va_Pc [.ref x, .int v, .int k] (Pst D Y sz (wX x r tr pp h sl ++ wR Y r q S))) ((fun A : Nat → Prop => Qsi D (fun r9 w9 => r9 = D_X3_partner S v k ∧ w9 = wX x r tr pp h sl ++ wR Y r q S) A) (va_A (wX x r tr pp h sl ++ wR Y r q S) sz)) 0 0 (va_A (wX x r tr pp h sl ++ wR Y r q S) sz) := by
  refine ct_in (cc := cX3_partner) (maxL := 4) (ret := (some .int)) (Qc := fun A : Nat → Prop => Qsi D (fun r9 w9 => r9 = D_X3_partner S v k ∧ w9 = wX x r tr pp h sl ++ wR Y r q S) A) (by decide +kernel) rfl (Nat.le_of_ble_eq_true rfl) ?_
  intro p e s m below meth c A ls hx hb hr hts hown hml hlk hin hsz hA hP hD hK hS hl
  have hown : s.vm.findClass RX3 = some m.cls := hown
  have hl : lv_has ls 4 [(0, .ref x), (1, .int v), (2, .int k)] := hl
  show W p l e ({ frames := 3, cells := 0, slots := 0, locals := 63 } : Room) s m ([.ref x, .int v, .int k] : List Value).toArray below meth c s.heap [] 0 0 (MQ below (Qsi D (fun r9 w9 => r9 = D_X3_partner S v k ∧ w9 = wX x r tr pp h sl ++ wR Y r q S) A) ([.ref x, .int v, .int k] : List Value).toArray s 0 0 A) (F0 m 0 ls [])
  refine lv_iload_n hx hb dX3_partner_0 rfl (lv_at hl 1 rfl) ?_
  refine ck_iD (wr := wX x r tr pp h sl ++ wR Y r q S) (ws' := wX x r tr pp h sl ++ wR Y r q S) (va_runS (As := [.int v]) (rest := []) ⟨hx, hb, hml, hown, hts⟩ (c_X3_isVillager l D Y s.heap.size v) (va_cwS 1 hts gX3_partner_X3_isVillager rfl rfl rfl (by decide +kernel) ⟨Nat.le_of_ble_eq_true rfl, Nat.le_of_ble_eq_true rfl⟩) (pst_S hK hP hD [] rfl (by decide)) rfl rfl hl.1 rfl (lv_room (Nat.le_of_ble_eq_true rfl)) dX3_partner_1 ⟨Nat.zero_le _, Nat.zero_le _⟩) hP hD hS hA [] [0, 1, 2, 3, 4, 5, 6, 7, 8, 9, 10, 11] [0, 1, 2, 3, 4, 5, 6, 7, 8, 9, 10, 11] rfl rfl (by decide) (by decide) rfl (by decide) (fun H locs hP hD hS => ?_)
  refine lv_if_ne (tgt := 10) hx hb dX3_partner_4 (by decide) (fun c_1 => ?_) (fun c_1 => ?_)
  · refine lv_iload_n hx hb dX3_partner_10 rfl (lv_at hl 2 rfl) ?_
    refine ck_iD (wr := wX x r tr pp h sl ++ wR Y r q S) (ws' := wX x r tr pp h sl ++ wR Y r q S) (va_runS (As := [.int k]) (rest := []) ⟨hx, hb, hml, hown, hts⟩ (c_X3_isNumber l D Y H.size k) (va_cwS 1 hts gX3_partner_X3_isNumber rfl rfl rfl (by decide +kernel) ⟨Nat.le_of_ble_eq_true rfl, Nat.le_of_ble_eq_true rfl⟩) (pst_S hK hP hD [] rfl (by decide)) rfl rfl hl.1 rfl (lv_room (Nat.le_of_ble_eq_true rfl)) dX3_partner_11 ⟨Nat.zero_le _, Nat.zero_le _⟩) hP hD hS hA [] [0, 1, 2, 3, 4, 5, 6, 7, 8, 9, 10, 11] [0, 1, 2, 3, 4, 5, 6, 7, 8, 9, 10, 11] rfl rfl (by decide) (by decide) rfl (by decide) (fun H locs hP hD hS => ?_)
    refine lv_if_ne (tgt := 20) hx hb dX3_partner_14 (by decide) (fun c_2 => ?_) (fun c_2 => ?_)
    · refine lv_iload_n hx hb dX3_partner_20 rfl (lv_at hl 1 rfl) ?_
      refine lv_iload_n hx hb dX3_partner_21 rfl (lv_at hl 2 rfl) ?_
      refine ck_iD (wr := wX x r tr pp h sl ++ wR Y r q S) (ws' := wX x r tr pp h sl ++ wR Y r q S) (va_runS (As := [.int v, .int k]) (rest := []) ⟨hx, hb, hml, hown, hts⟩ (c_X3_counterpart l D Y H.size v k) (va_cwS 2 hts gX3_partner_X3_counterpart rfl rfl rfl (by decide +kernel) ⟨Nat.le_of_ble_eq_true rfl, Nat.le_of_ble_eq_true rfl⟩) (pst_S hK hP hD [] rfl (by decide)) rfl rfl hl.1 rfl (lv_room (Nat.le_of_ble_eq_true rfl)) dX3_partner_22 ⟨Nat.zero_le _, Nat.zero_le _⟩) hP hD hS hA [] [0, 1, 2, 3, 4, 5, 6, 7, 8, 9, 10, 11] [0, 1, 2, 3, 4, 5, 6, 7, 8, 9, 10, 11] rfl rfl (by decide) (by decide) rfl (by decide) (fun H locs hP hD hS => ?_)
      refine lv_istore_n (lv' := [(3, .int (D_X3_counterpart v k)), (0, .ref x), (1, .int v), (2, .int k)]) hx hb dX3_partner_25 rfl hl (by decide) rfl (fun ls hl => ?_)
      refine lv_iload_n hx hb dX3_partner_26 rfl (lv_at hl 0 rfl) ?_
      refine lv_iload_n hx hb dX3_partner_27 rfl (lv_at hl 2 rfl) ?_
      refine lv_icmp_ne (tgt := 36) hx hb dX3_partner_28 (by decide) (fun c_3 => ?_) (fun c_3 => ?_)
      · refine lv_iload_n hx hb dX3_partner_36 rfl (lv_at hl 0 rfl) ?_
        have e9 : D_X3_partner S v k = D_X3_counterpart v k := by rw [D_X3_partner, if_neg c_1, if_neg c_2, if_neg c_3]
        exact ret_i hx hb hr hlk hP hD hS dX3_partner_37 ⟨Nat.zero_le _, Nat.zero_le _⟩ ⟨e9.symm, rfl⟩
      · refine lv_ldc (v := (-1000006)) hx hb hown (hts (.constant RX3 86 (-1000006)) (by decide +kernel)) dX3_partner_31 ?_
        refine lv_goto (tgt := 37) hx hb dX3_partner_33 (by decide) ?_
        have e9 : D_X3_partner S v k = (-1000006) := by rw [D_X3_partner, if_neg c_1, if_neg c_2, if_pos c_3]
        exact ret_i hx hb hr hlk hP hD hS dX3_partner_37 ⟨Nat.zero_le _, Nat.zero_le _⟩ ⟨e9.symm, rfl⟩
    · refine lv_ldc (v := (-1000002)) hx hb hown (hts (.constant RX3 37 (-1000002)) (by decide +kernel)) dX3_partner_17 ?_
      have e9 : D_X3_partner S v k = (-1000002) := by rw [D_X3_partner, if_neg c_1, if_pos c_2]
      exact ret_i hx hb hr hlk hP hD hS dX3_partner_19 ⟨Nat.zero_le _, Nat.zero_le _⟩ ⟨e9.symm, rfl⟩
  · refine lv_ldc (v := (-1000001)) hx hb hown (hts (.constant RX3 50 (-1000001)) (by decide +kernel)) dX3_partner_7 ?_
    have e9 : D_X3_partner S v k = (-1000001) := by rw [D_X3_partner, if_pos c_1]
    exact ret_i hx hb hr hlk hP hD hS dX3_partner_9 ⟨Nat.zero_le _, Nat.zero_le _⟩ ⟨e9.symm, rfl⟩
def D_X3_ifCalled (S : Nat → Nat → Int32) (k : Int32) (w : Int32) : (Int32) := if (D_X3_isNumber k) = 0 then (-1000002) else (if w < 0 then (-1000002) else (if w ≤ 3 then (D_X2_wouldBring S k w) else (-1000002)))
set_option maxRecDepth 100000 in
theorem in_X3_ifCalled_RX3 : ∀ w ∈ u_ws RX3 TX3 5, w ∈ wsX3_ifCalled := by decide +kernel
set_option maxHeartbeats 4000000 in
set_option maxRecDepth 100000 in
theorem c_X3_ifCalled (l : Launch) (D : va_G) (Y : YY) (sz : Nat) (r : Nat) (tr : Nat) (pp : Nat) (h : Nat) (sl : Nat) (q : Nat → Nat) (S : Nat → Nat → Int32) (x : Nat) (k : Int32) (w : Int32) : Met l yX3_ifCalled wsX3_ifCalled ({ frames := 4, cells := 0, slots := 0, locals := 92 } : Room) (va_Pc [.ref x, .int k, .int w] (Pst D Y sz (wX x r tr pp h sl ++ wR Y r q S))) ((fun A : Nat → Prop => Qsi D (fun r9 w9 => r9 = D_X3_ifCalled S k w ∧ w9 = wX x r tr pp h sl ++ wR Y r q S) A) (va_A (wX x r tr pp h sl ++ wR Y r q S) sz)) 0 0 (va_A (wX x r tr pp h sl ++ wR Y r q S) sz) := by
  refine ct_in (cc := cX3_ifCalled) (maxL := 3) (ret := (some .int)) (Qc := fun A : Nat → Prop => Qsi D (fun r9 w9 => r9 = D_X3_ifCalled S k w ∧ w9 = wX x r tr pp h sl ++ wR Y r q S) A) (by decide +kernel) rfl (Nat.le_of_ble_eq_true rfl) ?_
  intro p e s m below meth c A ls hx hb hr hts hown hml hlk hin hsz hA hP hD hK hS hl
  have hown : s.vm.findClass RX3 = some m.cls := hown
  have hl : lv_has ls 3 [(0, .ref x), (1, .int k), (2, .int w)] := hl
  show W p l e ({ frames := 4, cells := 0, slots := 0, locals := 92 } : Room) s m ([.ref x, .int k, .int w] : List Value).toArray below meth c s.heap [] 0 0 (MQ below (Qsi D (fun r9 w9 => r9 = D_X3_ifCalled S k w ∧ w9 = wX x r tr pp h sl ++ wR Y r q S) A) ([.ref x, .int k, .int w] : List Value).toArray s 0 0 A) (F0 m 0 ls [])
  refine lv_iload_n hx hb dX3_ifCalled_0 rfl (lv_at hl 1 rfl) ?_
  refine ck_iD (wr := wX x r tr pp h sl ++ wR Y r q S) (ws' := wX x r tr pp h sl ++ wR Y r q S) (va_runS (As := [.int k]) (rest := []) ⟨hx, hb, hml, hown, hts⟩ (c_X3_isNumber l D Y s.heap.size k) (va_cwS 1 hts gX3_ifCalled_X3_isNumber rfl rfl rfl (by decide +kernel) ⟨Nat.le_of_ble_eq_true rfl, Nat.le_of_ble_eq_true rfl⟩) (pst_S hK hP hD [] rfl (by decide)) rfl rfl hl.1 rfl (lv_room (Nat.le_of_ble_eq_true rfl)) dX3_ifCalled_1 ⟨Nat.zero_le _, Nat.zero_le _⟩) hP hD hS hA [] [0, 1, 2, 3, 4, 5, 6, 7, 8, 9, 10, 11] [0, 1, 2, 3, 4, 5, 6, 7, 8, 9, 10, 11] rfl rfl (by decide) (by decide) rfl (by decide) (fun H locs hP hD hS => ?_)
  refine lv_if_eq (tgt := 16) hx hb dX3_ifCalled_4 (by decide) (fun c_1 => ?_) (fun c_1 => ?_)
  · refine lv_ldc (v := (-1000002)) hx hb hown (hts (.constant RX3 37 (-1000002)) (by decide +kernel)) dX3_ifCalled_16 ?_
    have e9 : D_X3_ifCalled S k w = (-1000002) := by rw [D_X3_ifCalled, if_pos c_1]
    exact ret_i hx hb hr hlk hP hD hS dX3_ifCalled_18 ⟨Nat.zero_le _, Nat.zero_le _⟩ ⟨e9.symm, rfl⟩
  · refine lv_iload_n hx hb dX3_ifCalled_7 rfl (lv_at hl 2 rfl) ?_
    refine lv_if_lt (tgt := 16) hx hb dX3_ifCalled_8 (by decide) (fun c_2 => ?_) (fun c_2 => ?_)
    · refine lv_ldc (v := (-1000002)) hx hb hown (hts (.constant RX3 37 (-1000002)) (by decide +kernel)) dX3_ifCalled_16 ?_
      have e9 : D_X3_ifCalled S k w = (-1000002) := by rw [D_X3_ifCalled, if_neg c_1, if_pos c_2]
      exact ret_i hx hb hr hlk hP hD hS dX3_ifCalled_18 ⟨Nat.zero_le _, Nat.zero_le _⟩ ⟨e9.symm, rfl⟩
    · refine lv_iload_n hx hb dX3_ifCalled_11 rfl (lv_at hl 2 rfl) ?_
      refine lv_iconst (v := 3) hx hb dX3_ifCalled_12 (by decide) ?_
      refine lv_icmp_le (tgt := 19) hx hb dX3_ifCalled_13 (by decide) (fun c_3 => ?_) (fun c_3 => ?_)
      · refine lv_aload_n hx hb dX3_ifCalled_19 rfl (lv_at hl 0 rfl) ?_
        refine va_get (D := D) (ci := 3) (v := .ref r) (C := RX3) (T := TX3) (N := 5) hx hb hts in_X3_ifCalled_RX3 hown hK.1 hP 0 rfl rfl 0 (by decide) (hts (.fieldLink RX3 12 "NineDancers" "ring" "LNineDancers$Ring;") (by decide +kernel)) (fun _ h9 => h9) rfl dX3_ifCalled_20 ?_
        refine lv_iload_n hx hb dX3_ifCalled_23 rfl (lv_at hl 1 rfl) ?_
        refine lv_iload_n hx hb dX3_ifCalled_24 rfl (lv_at hl 2 rfl) ?_
        refine ck_iD (wr := wX x r tr pp h sl) (ws' := wX x r tr pp h sl ++ wR Y r q S) (va_runV (As := [.int k, .int w]) (rest := []) ⟨hx, hb, hml, hown, hts⟩ (c_X2_wouldBring l D Y H.size q S r k w) (cwV 2 hts gX3_ifCalled_X2_wouldBring rfl rfl rfl (by decide +kernel) ⟨Nat.le_of_ble_eq_true rfl, Nat.le_of_ble_eq_true rfl⟩) (pst_V hK hP hD [1, 2, 3, 4, 5, 6, 7, 8, 9, 10, 11] rfl (by decide) (q0 := 0) rfl rfl) rfl rfl hl.1 rfl (lv_room (Nat.le_of_ble_eq_true rfl)) dX3_ifCalled_25 ⟨Nat.zero_le _, Nat.zero_le _⟩) hP hD hS hA [1, 2, 3, 4, 5, 6, 7, 8, 9, 10, 11] [0] [0, 1, 2, 3, 4, 5, 6, 7, 8, 9, 10, 11] rfl rfl (by decide) (by decide) rfl (by decide) (fun H locs hP hD hS => ?_)
        have e9 : D_X3_ifCalled S k w = D_X2_wouldBring S k w := by rw [D_X3_ifCalled, if_neg c_1, if_neg c_2, if_pos c_3]
        exact ret_i hx hb hr hlk hP hD hS dX3_ifCalled_28 ⟨Nat.zero_le _, Nat.zero_le _⟩ ⟨e9.symm, rfl⟩
      · refine lv_ldc (v := (-1000002)) hx hb hown (hts (.constant RX3 37 (-1000002)) (by decide +kernel)) dX3_ifCalled_16 ?_
        have e9 : D_X3_ifCalled S k w = (-1000002) := by rw [D_X3_ifCalled, if_neg c_1, if_neg c_2, if_neg c_3]
        exact ret_i hx hb hr hlk hP hD hS dX3_ifCalled_18 ⟨Nat.zero_le _, Nat.zero_le _⟩ ⟨e9.symm, rfl⟩
def L_X3_bestCall_27 (S : Nat → Nat → Int32) (w : Int32) : Nat → (Int32) → (Int32) → (Int32) → (Int32) × (Int32)
  | 0, i, be, mj => (be, mj)
  | n_27 + 1, i, be, mj => if 9 ≤ i then (be, mj) else (if (D_X2_wouldBring S i 1) ≤ mj then (L_X3_bestCall_27 S w n_27 (i + 1) be mj) else (L_X3_bestCall_27 S w n_27 (i + 1) i (D_X2_wouldBring S i 1)))
def D_X3_bestCall (S : Nat → Nat → Int32) (w : Int32) : (Int32) := if w = 0 then (if w = 0 then ((L_X3_bestCall_27 S w 10 1 0 (D_X2_wouldBring S 0 1)).1) else ((L_X3_bestCall_27 S w 10 1 0 (D_X2_wouldBring S 0 1)).2)) else (if w = 1 then (if w = 0 then ((L_X3_bestCall_27 S w 10 1 0 (D_X2_wouldBring S 0 1)).1) else ((L_X3_bestCall_27 S w 10 1 0 (D_X2_wouldBring S 0 1)).2)) else (-1000002))
set_option maxRecDepth 100000 in
theorem in_X3_bestCall_RX3 : ∀ w ∈ u_ws RX3 TX3 5, w ∈ wsX3_bestCall := by decide +kernel
set_option maxHeartbeats 4000000 in
set_option maxRecDepth 100000 in
theorem c_X3_bestCall (l : Launch) (D : va_G) (Y : YY) (sz : Nat) (r : Nat) (tr : Nat) (pp : Nat) (h : Nat) (sl : Nat) (q : Nat → Nat) (S : Nat → Nat → Int32) (x : Nat) (w : Int32) : Met l yX3_bestCall wsX3_bestCall ({ frames := 4, cells := 0, slots := 0, locals := 92 } : Room) (va_Pc [.ref x, .int w] (Pst D Y sz (wX x r tr pp h sl ++ wR Y r q S))) ((fun A : Nat → Prop => Qsi D (fun r9 w9 => r9 = D_X3_bestCall S w ∧ w9 = wX x r tr pp h sl ++ wR Y r q S) A) (va_A (wX x r tr pp h sl ++ wR Y r q S) sz)) 0 0 (va_A (wX x r tr pp h sl ++ wR Y r q S) sz) := by
  refine ct_in (cc := cX3_bestCall) (maxL := 6) (ret := (some .int)) (Qc := fun A : Nat → Prop => Qsi D (fun r9 w9 => r9 = D_X3_bestCall S w ∧ w9 = wX x r tr pp h sl ++ wR Y r q S) A) (by decide +kernel) rfl (Nat.le_of_ble_eq_true rfl) ?_
  intro p e s m below meth c A ls hx hb hr hts hown hml hlk hin hsz hA hP hD hK hS hl
  have hown : s.vm.findClass RX3 = some m.cls := hown
  have hl : lv_has ls 6 [(0, .ref x), (1, .int w)] := hl
  show W p l e ({ frames := 4, cells := 0, slots := 0, locals := 92 } : Room) s m ([.ref x, .int w] : List Value).toArray below meth c s.heap [] 0 0 (MQ below (Qsi D (fun r9 w9 => r9 = D_X3_bestCall S w ∧ w9 = wX x r tr pp h sl ++ wR Y r q S) A) ([.ref x, .int w] : List Value).toArray s 0 0 A) (F0 m 0 ls [])
  refine lv_iload_n hx hb dX3_bestCall_0 rfl (lv_at hl 1 rfl) ?_
  refine lv_if_eq (tgt := 12) hx hb dX3_bestCall_1 (by decide) (fun c_1 => ?_) (fun c_1 => ?_)
  · refine lv_iconst (v := 0) hx hb dX3_bestCall_12 (by decide) ?_
    refine lv_istore_n (lv' := [(2, .int 0), (0, .ref x), (1, .int w)]) hx hb dX3_bestCall_13 rfl hl (by decide) rfl (fun ls hl => ?_)
    refine lv_aload_n hx hb dX3_bestCall_14 rfl (lv_at hl 1 rfl) ?_
    refine va_get (D := D) (ci := 3) (v := .ref r) (C := RX3) (T := TX3) (N := 5) hx hb hts in_X3_bestCall_RX3 hown hK.1 hP 0 rfl rfl 0 (by decide) (hts (.fieldLink RX3 12 "NineDancers" "ring" "LNineDancers$Ring;") (by decide +kernel)) (fun _ h9 => h9) rfl dX3_bestCall_15 ?_
    refine lv_iconst (v := 0) hx hb dX3_bestCall_18 (by decide) ?_
    refine lv_iconst (v := 1) hx hb dX3_bestCall_19 (by decide) ?_
    refine ck_iD (wr := wX x r tr pp h sl) (ws' := wX x r tr pp h sl ++ wR Y r q S) (va_runV (As := [.int 0, .int 1]) (rest := []) ⟨hx, hb, hml, hown, hts⟩ (c_X2_wouldBring l D Y s.heap.size q S r 0 1) (cwV 2 hts gX3_bestCall_X2_wouldBring rfl rfl rfl (by decide +kernel) ⟨Nat.le_of_ble_eq_true rfl, Nat.le_of_ble_eq_true rfl⟩) (pst_V hK hP hD [1, 2, 3, 4, 5, 6, 7, 8, 9, 10, 11] rfl (by decide) (q0 := 0) rfl rfl) rfl rfl hl.1 rfl (lv_room (Nat.le_of_ble_eq_true rfl)) dX3_bestCall_20 ⟨Nat.zero_le _, Nat.zero_le _⟩) hP hD hS hA [1, 2, 3, 4, 5, 6, 7, 8, 9, 10, 11] [0] [0, 1, 2, 3, 4, 5, 6, 7, 8, 9, 10, 11] rfl rfl (by decide) (by decide) rfl (by decide) (fun H locs hP hD hS => ?_)
    refine lv_istore_n (lv' := [(3, .int (D_X2_wouldBring S 0 1)), (2, .int 0), (0, .ref x), (1, .int w)]) hx hb dX3_bestCall_23 rfl hl (by decide) rfl (fun ls hl => ?_)
    refine lv_iconst (v := 1) hx hb dX3_bestCall_24 (by decide) ?_
    refine lv_istore (lv' := [(4, .int 1), (3, .int (D_X2_wouldBring S 0 1)), (2, .int 0), (0, .ref x), (1, .int w)]) hx hb dX3_bestCall_25 hl (by decide) rfl (fun ls hl => ?_)
    have loop_27 : ∀ (n_27 k_27 : Nat) (i : Int32) (be : Int32) (mj : Int32) (H : Heap) (locs : List Loc) (ls : Array Slot), 10 ≤ k_27 + n_27 → k_27 ≤ 9 → i = nI k_27 → va_P D vwCl (wX x r tr pp h sl ++ wR Y r q S) H → va_D A (wX x r tr pp h sl ++ wR Y r q S) → va_S A s.heap H locs → lv_has ls 6 [(4, .int i), (3, .int mj), (2, .int be), (0, .ref x), (1, .int w)] → L_X3_bestCall_27 S w n_27 i be mj = L_X3_bestCall_27 S w 10 1 0 (D_X2_wouldBring S 0 1) → W p l e ({ frames := 4, cells := 0, slots := 0, locals := 92 } : Room) s m ([.ref x, .int w] : List Value).toArray below meth c H locs 0 0 (MQ below (Qsi D (fun r9 w9 => r9 = D_X3_bestCall S w ∧ w9 = wX x r tr pp h sl ++ wR Y r q S) A) ([.ref x, .int w] : List Value).toArray s 0 0 A) (F0 m 27 ls []) := by
      intro n_27
      induction n_27 with
      | zero => intro k_27 i be mj H locs ls hkf hkN_27 ex_27 hP hD hS hl hR_27; exact absurd hkf (by omega)
      | succ n_27 ih_27 =>
        intro k_27 i be mj H locs ls hkf hkN_27 ex_27 hP hD hS hl hR_27
        refine lv_iload hx hb dX3_bestCall_27 (lv_at hl 0 rfl) ?_
        refine lv_bipush (v := 9) hx hb dX3_bestCall_29 (by decide) ?_
        refine lv_icmp_ge (tgt := 64) hx hb dX3_bestCall_31 (by decide) (fun c_2 => ?_) (fun c_2 => ?_)
        · have e8 : L_X3_bestCall_27 S w (n_27 + 1) i be mj = (be, mj) := by rw [L_X3_bestCall_27, if_pos c_2]
          have e8 := hR_27.symm.trans e8
          have ebe : (L_X3_bestCall_27 S w 10 1 0 (D_X2_wouldBring S 0 1)).1 = be := by rw [e8]
          have emj : (L_X3_bestCall_27 S w 10 1 0 (D_X2_wouldBring S 0 1)).2 = mj := by rw [e8]
          clear e8 hR_27 ih_27
          refine lv_iload_n hx hb dX3_bestCall_64 rfl (lv_at hl 4 rfl) ?_
          refine lv_if_ne (tgt := 72) hx hb dX3_bestCall_65 (by decide) (fun c_3 => ?_) (fun c_3 => ?_)
          · refine lv_iload_n hx hb dX3_bestCall_72 rfl (lv_at hl 1 rfl) ?_
            subst emj
            subst ebe
            have e9 : D_X3_bestCall S w = ((L_X3_bestCall_27 S w 10 1 0 (D_X2_wouldBring S 0 1)).2) := by rw [D_X3_bestCall, if_pos c_1, if_neg c_3]
            exact ret_i hx hb hr hlk hP hD hS dX3_bestCall_73 ⟨Nat.zero_le _, Nat.zero_le _⟩ ⟨e9.symm, rfl⟩
          · refine lv_iload_n hx hb dX3_bestCall_68 rfl (lv_at hl 2 rfl) ?_
            refine lv_goto (tgt := 73) hx hb dX3_bestCall_69 (by decide) ?_
            subst emj
            subst ebe
            have e9 : D_X3_bestCall S w = ((L_X3_bestCall_27 S w 10 1 0 (D_X2_wouldBring S 0 1)).1) := by rw [D_X3_bestCall, if_pos c_1, if_pos c_3]
            exact ret_i hx hb hr hlk hP hD hS dX3_bestCall_73 ⟨Nat.zero_le _, Nat.zero_le _⟩ ⟨e9.symm, rfl⟩
        · have hk_27 := my_lt ex_27 (show (9 : Int32) = nI 9 from rfl) (by decide) hkN_27 c_2
          refine lv_aload_n hx hb dX3_bestCall_34 rfl (lv_at hl 3 rfl) ?_
          refine va_get (D := D) (ci := 3) (v := .ref r) (C := RX3) (T := TX3) (N := 5) hx hb hts in_X3_bestCall_RX3 hown hK.1 hP 0 rfl rfl 0 (by decide) (hts (.fieldLink RX3 12 "NineDancers" "ring" "LNineDancers$Ring;") (by decide +kernel)) (fun _ h9 => h9) rfl dX3_bestCall_35 ?_
          refine lv_iload hx hb dX3_bestCall_38 (lv_at hl 0 rfl) ?_
          refine lv_iconst (v := 1) hx hb dX3_bestCall_40 (by decide) ?_
          refine ck_iD (wr := wX x r tr pp h sl) (ws' := wX x r tr pp h sl ++ wR Y r q S) (va_runV (As := [.int i, .int 1]) (rest := []) ⟨hx, hb, hml, hown, hts⟩ (c_X2_wouldBring l D Y H.size q S r i 1) (cwV 2 hts gX3_bestCall_X2_wouldBring rfl rfl rfl (by decide +kernel) ⟨Nat.le_of_ble_eq_true rfl, Nat.le_of_ble_eq_true rfl⟩) (pst_V hK hP hD [1, 2, 3, 4, 5, 6, 7, 8, 9, 10, 11] rfl (by decide) (q0 := 0) rfl rfl) rfl rfl hl.1 rfl (lv_room (Nat.le_of_ble_eq_true rfl)) dX3_bestCall_41 ⟨Nat.zero_le _, Nat.zero_le _⟩) hP hD hS hA [1, 2, 3, 4, 5, 6, 7, 8, 9, 10, 11] [0] [0, 1, 2, 3, 4, 5, 6, 7, 8, 9, 10, 11] rfl rfl (by decide) (by decide) rfl (by decide) (fun H locs hP hD hS => ?_)
          refine lv_istore (lv' := [(5, .int (D_X2_wouldBring S i 1)), (4, .int i), (3, .int mj), (2, .int be), (0, .ref x), (1, .int w)]) hx hb dX3_bestCall_44 hl (by decide) rfl (fun ls hl => ?_)
          refine lv_iload hx hb dX3_bestCall_46 (lv_at hl 0 rfl) ?_
          refine lv_iload_n hx hb dX3_bestCall_48 rfl (lv_at hl 2 rfl) ?_
          refine lv_icmp_le (tgt := 58) hx hb dX3_bestCall_49 (by decide) (fun c_4 => ?_) (fun c_4 => ?_)
          · refine lv_iinc (v := i + 1) (lv' := [(4, .int (i + 1)), (5, .int (D_X2_wouldBring S i 1)), (3, .int mj), (2, .int be), (0, .ref x), (1, .int w)]) hx hb dX3_bestCall_58 hl (k := 1) rfl rfl (by decide) rfl (fun ls hl => ?_)
            refine lv_goto (tgt := 27) hx hb dX3_bestCall_61 (by decide) ?_
            exact ih_27 (k_27 + 1) (i + 1) be mj _ _ _ (by omega) (by omega) (by rw [ex_27]; exact nI_1 k_27)  hP hD hS (lv_sub hl [0, 2, 3, 4, 5] rfl) (by rw [L_X3_bestCall_27, if_neg c_2, if_pos c_4] at hR_27; exact hR_27)
          · refine lv_iload hx hb dX3_bestCall_52 (lv_at hl 1 rfl) ?_
            refine lv_istore_n (lv' := [(2, .int i), (5, .int (D_X2_wouldBring S i 1)), (4, .int i), (3, .int mj), (0, .ref x), (1, .int w)]) hx hb dX3_bestCall_54 rfl hl (by decide) rfl (fun ls hl => ?_)
            refine lv_iload hx hb dX3_bestCall_55 (lv_at hl 1 rfl) ?_
            refine lv_istore_n (lv' := [(3, .int (D_X2_wouldBring S i 1)), (2, .int i), (5, .int (D_X2_wouldBring S i 1)), (4, .int i), (0, .ref x), (1, .int w)]) hx hb dX3_bestCall_57 rfl hl (by decide) rfl (fun ls hl => ?_)
            refine lv_iinc (v := i + 1) (lv' := [(4, .int (i + 1)), (3, .int (D_X2_wouldBring S i 1)), (2, .int i), (5, .int (D_X2_wouldBring S i 1)), (0, .ref x), (1, .int w)]) hx hb dX3_bestCall_58 hl (k := 3) rfl rfl (by decide) rfl (fun ls hl => ?_)
            refine lv_goto (tgt := 27) hx hb dX3_bestCall_61 (by decide) ?_
            exact ih_27 (k_27 + 1) (i + 1) i (D_X2_wouldBring S i 1) _ _ _ (by omega) (by omega) (by rw [ex_27]; exact nI_1 k_27)  hP hD hS (lv_sub hl [0, 1, 2, 4, 5] rfl) (by rw [L_X3_bestCall_27, if_neg c_2, if_neg c_4] at hR_27; exact hR_27)
    exact loop_27 10 1 1 0 (D_X2_wouldBring S 0 1) _ _ _ (by omega) (by omega) rfl  hP hD hS (lv_sub hl [0, 1, 2, 3, 4] rfl) rfl
  · refine lv_iload_n hx hb dX3_bestCall_4 rfl (lv_at hl 1 rfl) ?_
    refine lv_iconst (v := 1) hx hb dX3_bestCall_5 (by decide) ?_
    refine lv_icmp_eq (tgt := 12) hx hb dX3_bestCall_6 (by decide) (fun c_5 => ?_) (fun c_5 => ?_)
    · refine lv_iconst (v := 0) hx hb dX3_bestCall_12 (by decide) ?_
      refine lv_istore_n (lv' := [(2, .int 0), (0, .ref x), (1, .int w)]) hx hb dX3_bestCall_13 rfl hl (by decide) rfl (fun ls hl => ?_)
      refine lv_aload_n hx hb dX3_bestCall_14 rfl (lv_at hl 1 rfl) ?_
      refine va_get (D := D) (ci := 3) (v := .ref r) (C := RX3) (T := TX3) (N := 5) hx hb hts in_X3_bestCall_RX3 hown hK.1 hP 0 rfl rfl 0 (by decide) (hts (.fieldLink RX3 12 "NineDancers" "ring" "LNineDancers$Ring;") (by decide +kernel)) (fun _ h9 => h9) rfl dX3_bestCall_15 ?_
      refine lv_iconst (v := 0) hx hb dX3_bestCall_18 (by decide) ?_
      refine lv_iconst (v := 1) hx hb dX3_bestCall_19 (by decide) ?_
      refine ck_iD (wr := wX x r tr pp h sl) (ws' := wX x r tr pp h sl ++ wR Y r q S) (va_runV (As := [.int 0, .int 1]) (rest := []) ⟨hx, hb, hml, hown, hts⟩ (c_X2_wouldBring l D Y s.heap.size q S r 0 1) (cwV 2 hts gX3_bestCall_X2_wouldBring rfl rfl rfl (by decide +kernel) ⟨Nat.le_of_ble_eq_true rfl, Nat.le_of_ble_eq_true rfl⟩) (pst_V hK hP hD [1, 2, 3, 4, 5, 6, 7, 8, 9, 10, 11] rfl (by decide) (q0 := 0) rfl rfl) rfl rfl hl.1 rfl (lv_room (Nat.le_of_ble_eq_true rfl)) dX3_bestCall_20 ⟨Nat.zero_le _, Nat.zero_le _⟩) hP hD hS hA [1, 2, 3, 4, 5, 6, 7, 8, 9, 10, 11] [0] [0, 1, 2, 3, 4, 5, 6, 7, 8, 9, 10, 11] rfl rfl (by decide) (by decide) rfl (by decide) (fun H locs hP hD hS => ?_)
      refine lv_istore_n (lv' := [(3, .int (D_X2_wouldBring S 0 1)), (2, .int 0), (0, .ref x), (1, .int w)]) hx hb dX3_bestCall_23 rfl hl (by decide) rfl (fun ls hl => ?_)
      refine lv_iconst (v := 1) hx hb dX3_bestCall_24 (by decide) ?_
      refine lv_istore (lv' := [(4, .int 1), (3, .int (D_X2_wouldBring S 0 1)), (2, .int 0), (0, .ref x), (1, .int w)]) hx hb dX3_bestCall_25 hl (by decide) rfl (fun ls hl => ?_)
      have loop_27 : ∀ (n_27 k_27 : Nat) (i : Int32) (be : Int32) (mj : Int32) (H : Heap) (locs : List Loc) (ls : Array Slot), 10 ≤ k_27 + n_27 → k_27 ≤ 9 → i = nI k_27 → va_P D vwCl (wX x r tr pp h sl ++ wR Y r q S) H → va_D A (wX x r tr pp h sl ++ wR Y r q S) → va_S A s.heap H locs → lv_has ls 6 [(4, .int i), (3, .int mj), (2, .int be), (0, .ref x), (1, .int w)] → L_X3_bestCall_27 S w n_27 i be mj = L_X3_bestCall_27 S w 10 1 0 (D_X2_wouldBring S 0 1) → W p l e ({ frames := 4, cells := 0, slots := 0, locals := 92 } : Room) s m ([.ref x, .int w] : List Value).toArray below meth c H locs 0 0 (MQ below (Qsi D (fun r9 w9 => r9 = D_X3_bestCall S w ∧ w9 = wX x r tr pp h sl ++ wR Y r q S) A) ([.ref x, .int w] : List Value).toArray s 0 0 A) (F0 m 27 ls []) := by
        intro n_27
        induction n_27 with
        | zero => intro k_27 i be mj H locs ls hkf hkN_27 ex_27 hP hD hS hl hR_27; exact absurd hkf (by omega)
        | succ n_27 ih_27 =>
          intro k_27 i be mj H locs ls hkf hkN_27 ex_27 hP hD hS hl hR_27
          refine lv_iload hx hb dX3_bestCall_27 (lv_at hl 0 rfl) ?_
          refine lv_bipush (v := 9) hx hb dX3_bestCall_29 (by decide) ?_
          refine lv_icmp_ge (tgt := 64) hx hb dX3_bestCall_31 (by decide) (fun c_6 => ?_) (fun c_6 => ?_)
          · have e8 : L_X3_bestCall_27 S w (n_27 + 1) i be mj = (be, mj) := by rw [L_X3_bestCall_27, if_pos c_6]
            have e8 := hR_27.symm.trans e8
            have ebe : (L_X3_bestCall_27 S w 10 1 0 (D_X2_wouldBring S 0 1)).1 = be := by rw [e8]
            have emj : (L_X3_bestCall_27 S w 10 1 0 (D_X2_wouldBring S 0 1)).2 = mj := by rw [e8]
            clear e8 hR_27 ih_27
            refine lv_iload_n hx hb dX3_bestCall_64 rfl (lv_at hl 4 rfl) ?_
            refine lv_if_ne (tgt := 72) hx hb dX3_bestCall_65 (by decide) (fun c_7 => ?_) (fun c_7 => ?_)
            · refine lv_iload_n hx hb dX3_bestCall_72 rfl (lv_at hl 1 rfl) ?_
              subst emj
              subst ebe
              have e9 : D_X3_bestCall S w = ((L_X3_bestCall_27 S w 10 1 0 (D_X2_wouldBring S 0 1)).2) := by rw [D_X3_bestCall, if_neg c_1, if_pos c_5, if_neg c_7]
              exact ret_i hx hb hr hlk hP hD hS dX3_bestCall_73 ⟨Nat.zero_le _, Nat.zero_le _⟩ ⟨e9.symm, rfl⟩
            · refine lv_iload_n hx hb dX3_bestCall_68 rfl (lv_at hl 2 rfl) ?_
              refine lv_goto (tgt := 73) hx hb dX3_bestCall_69 (by decide) ?_
              subst emj
              subst ebe
              have e9 : D_X3_bestCall S w = ((L_X3_bestCall_27 S w 10 1 0 (D_X2_wouldBring S 0 1)).1) := by rw [D_X3_bestCall, if_neg c_1, if_pos c_5, if_pos c_7]
              exact ret_i hx hb hr hlk hP hD hS dX3_bestCall_73 ⟨Nat.zero_le _, Nat.zero_le _⟩ ⟨e9.symm, rfl⟩
          · have hk_27 := my_lt ex_27 (show (9 : Int32) = nI 9 from rfl) (by decide) hkN_27 c_6
            refine lv_aload_n hx hb dX3_bestCall_34 rfl (lv_at hl 3 rfl) ?_
            refine va_get (D := D) (ci := 3) (v := .ref r) (C := RX3) (T := TX3) (N := 5) hx hb hts in_X3_bestCall_RX3 hown hK.1 hP 0 rfl rfl 0 (by decide) (hts (.fieldLink RX3 12 "NineDancers" "ring" "LNineDancers$Ring;") (by decide +kernel)) (fun _ h9 => h9) rfl dX3_bestCall_35 ?_
            refine lv_iload hx hb dX3_bestCall_38 (lv_at hl 0 rfl) ?_
            refine lv_iconst (v := 1) hx hb dX3_bestCall_40 (by decide) ?_
            refine ck_iD (wr := wX x r tr pp h sl) (ws' := wX x r tr pp h sl ++ wR Y r q S) (va_runV (As := [.int i, .int 1]) (rest := []) ⟨hx, hb, hml, hown, hts⟩ (c_X2_wouldBring l D Y H.size q S r i 1) (cwV 2 hts gX3_bestCall_X2_wouldBring rfl rfl rfl (by decide +kernel) ⟨Nat.le_of_ble_eq_true rfl, Nat.le_of_ble_eq_true rfl⟩) (pst_V hK hP hD [1, 2, 3, 4, 5, 6, 7, 8, 9, 10, 11] rfl (by decide) (q0 := 0) rfl rfl) rfl rfl hl.1 rfl (lv_room (Nat.le_of_ble_eq_true rfl)) dX3_bestCall_41 ⟨Nat.zero_le _, Nat.zero_le _⟩) hP hD hS hA [1, 2, 3, 4, 5, 6, 7, 8, 9, 10, 11] [0] [0, 1, 2, 3, 4, 5, 6, 7, 8, 9, 10, 11] rfl rfl (by decide) (by decide) rfl (by decide) (fun H locs hP hD hS => ?_)
            refine lv_istore (lv' := [(5, .int (D_X2_wouldBring S i 1)), (4, .int i), (3, .int mj), (2, .int be), (0, .ref x), (1, .int w)]) hx hb dX3_bestCall_44 hl (by decide) rfl (fun ls hl => ?_)
            refine lv_iload hx hb dX3_bestCall_46 (lv_at hl 0 rfl) ?_
            refine lv_iload_n hx hb dX3_bestCall_48 rfl (lv_at hl 2 rfl) ?_
            refine lv_icmp_le (tgt := 58) hx hb dX3_bestCall_49 (by decide) (fun c_8 => ?_) (fun c_8 => ?_)
            · refine lv_iinc (v := i + 1) (lv' := [(4, .int (i + 1)), (5, .int (D_X2_wouldBring S i 1)), (3, .int mj), (2, .int be), (0, .ref x), (1, .int w)]) hx hb dX3_bestCall_58 hl (k := 1) rfl rfl (by decide) rfl (fun ls hl => ?_)
              refine lv_goto (tgt := 27) hx hb dX3_bestCall_61 (by decide) ?_
              exact ih_27 (k_27 + 1) (i + 1) be mj _ _ _ (by omega) (by omega) (by rw [ex_27]; exact nI_1 k_27)  hP hD hS (lv_sub hl [0, 2, 3, 4, 5] rfl) (by rw [L_X3_bestCall_27, if_neg c_6, if_pos c_8] at hR_27; exact hR_27)
            · refine lv_iload hx hb dX3_bestCall_52 (lv_at hl 1 rfl) ?_
              refine lv_istore_n (lv' := [(2, .int i), (5, .int (D_X2_wouldBring S i 1)), (4, .int i), (3, .int mj), (0, .ref x), (1, .int w)]) hx hb dX3_bestCall_54 rfl hl (by decide) rfl (fun ls hl => ?_)
              refine lv_iload hx hb dX3_bestCall_55 (lv_at hl 1 rfl) ?_
              refine lv_istore_n (lv' := [(3, .int (D_X2_wouldBring S i 1)), (2, .int i), (5, .int (D_X2_wouldBring S i 1)), (4, .int i), (0, .ref x), (1, .int w)]) hx hb dX3_bestCall_57 rfl hl (by decide) rfl (fun ls hl => ?_)
              refine lv_iinc (v := i + 1) (lv' := [(4, .int (i + 1)), (3, .int (D_X2_wouldBring S i 1)), (2, .int i), (5, .int (D_X2_wouldBring S i 1)), (0, .ref x), (1, .int w)]) hx hb dX3_bestCall_58 hl (k := 3) rfl rfl (by decide) rfl (fun ls hl => ?_)
              refine lv_goto (tgt := 27) hx hb dX3_bestCall_61 (by decide) ?_
              exact ih_27 (k_27 + 1) (i + 1) i (D_X2_wouldBring S i 1) _ _ _ (by omega) (by omega) (by rw [ex_27]; exact nI_1 k_27)  hP hD hS (lv_sub hl [0, 1, 2, 4, 5] rfl) (by rw [L_X3_bestCall_27, if_neg c_6, if_neg c_8] at hR_27; exact hR_27)
      exact loop_27 10 1 1 0 (D_X2_wouldBring S 0 1) _ _ _ (by omega) (by omega) rfl  hP hD hS (lv_sub hl [0, 1, 2, 3, 4] rfl) rfl
    · refine lv_ldc (v := (-1000002)) hx hb hown (hts (.constant RX3 37 (-1000002)) (by decide +kernel)) dX3_bestCall_9 ?_
      have e9 : D_X3_bestCall S w = (-1000002) := by rw [D_X3_bestCall, if_neg c_1, if_neg c_5]
      exact ret_i hx hb hr hlk hP hD hS dX3_bestCall_11 ⟨Nat.zero_le _, Nat.zero_le _⟩ ⟨e9.symm, rfl⟩
def D_X3_fewestRounds (S : Nat → Nat → Int32) (w : Int32) : (Int32) := if w = 0 then (D_X2_remaindersWithUnmetPair S) else (if w = 1 then (D_X2_roundsByTrying S) else (-1000002))
set_option maxRecDepth 100000 in
theorem in_X3_fewestRounds_RX3 : ∀ w ∈ u_ws RX3 TX3 5, w ∈ wsX3_fewestRounds := by decide +kernel
set_option maxHeartbeats 4000000 in
set_option maxRecDepth 100000 in
theorem c_X3_fewestRounds (l : Launch) (D : va_G) (Y : YY) (sz : Nat) (r : Nat) (tr : Nat) (pp : Nat) (h : Nat) (sl : Nat) (q : Nat → Nat) (S : Nat → Nat → Int32) (x : Nat) (w : Int32) : Met l yX3_fewestRounds wsX3_fewestRounds ({ frames := 5, cells := 0, slots := 0, locals := 108 } : Room) (va_Pc [.ref x, .int w] (Pst D Y sz (wX x r tr pp h sl ++ wR Y r q S))) ((fun A : Nat → Prop => Qsi D (fun r9 w9 => r9 = D_X3_fewestRounds S w ∧ w9 = wX x r tr pp h sl ++ wR Y r q S) A) (va_A (wX x r tr pp h sl ++ wR Y r q S) sz)) 0 0 (va_A (wX x r tr pp h sl ++ wR Y r q S) sz) := by
  refine ct_in (cc := cX3_fewestRounds) (maxL := 2) (ret := (some .int)) (Qc := fun A : Nat → Prop => Qsi D (fun r9 w9 => r9 = D_X3_fewestRounds S w ∧ w9 = wX x r tr pp h sl ++ wR Y r q S) A) (by decide +kernel) rfl (Nat.le_of_ble_eq_true rfl) ?_
  intro p e s m below meth c A ls hx hb hr hts hown hml hlk hin hsz hA hP hD hK hS hl
  have hown : s.vm.findClass RX3 = some m.cls := hown
  have hl : lv_has ls 2 [(0, .ref x), (1, .int w)] := hl
  show W p l e ({ frames := 5, cells := 0, slots := 0, locals := 108 } : Room) s m ([.ref x, .int w] : List Value).toArray below meth c s.heap [] 0 0 (MQ below (Qsi D (fun r9 w9 => r9 = D_X3_fewestRounds S w ∧ w9 = wX x r tr pp h sl ++ wR Y r q S) A) ([.ref x, .int w] : List Value).toArray s 0 0 A) (F0 m 0 ls [])
  refine lv_iload_n hx hb dX3_fewestRounds_0 rfl (lv_at hl 1 rfl) ?_
  rcases Decidable.em (w = 0) with c_1 | c_1
  · refine lv_lookup (off := 27) (tgt := 28) hx hb dX3_fewestRounds_1 (by decide) (by rw [c_1]; rfl) (by decide) ?_
    refine lv_aload_n hx hb dX3_fewestRounds_28 rfl (lv_at hl 0 rfl) ?_
    refine va_get (D := D) (ci := 3) (v := .ref r) (C := RX3) (T := TX3) (N := 5) hx hb hts in_X3_fewestRounds_RX3 hown hK.1 hP 0 rfl rfl 0 (by decide) (hts (.fieldLink RX3 12 "NineDancers" "ring" "LNineDancers$Ring;") (by decide +kernel)) (fun _ h9 => h9) rfl dX3_fewestRounds_29 ?_
    refine ck_iD (wr := wX x r tr pp h sl) (ws' := wX x r tr pp h sl ++ wR Y r q S) (va_runV (As := []) (rest := []) ⟨hx, hb, hml, hown, hts⟩ (c_X2_remaindersWithUnmetPair l D Y s.heap.size q S r) (cwV 0 hts gX3_fewestRounds_X2_remaindersWithUnmetPair rfl rfl rfl (by decide +kernel) ⟨Nat.le_of_ble_eq_true rfl, Nat.le_of_ble_eq_true rfl⟩) (pst_V hK hP hD [1, 2, 3, 4, 5, 6, 7, 8, 9, 10, 11] rfl (by decide) (q0 := 0) rfl rfl) rfl rfl hl.1 rfl (lv_room (Nat.le_of_ble_eq_true rfl)) dX3_fewestRounds_32 ⟨Nat.zero_le _, Nat.zero_le _⟩) hP hD hS hA [1, 2, 3, 4, 5, 6, 7, 8, 9, 10, 11] [0] [0, 1, 2, 3, 4, 5, 6, 7, 8, 9, 10, 11] rfl rfl (by decide) (by decide) rfl (by decide) (fun H locs hP hD hS => ?_)
    have e9 : D_X3_fewestRounds S w = D_X2_remaindersWithUnmetPair S := by rw [D_X3_fewestRounds, if_pos c_1]
    exact ret_i hx hb hr hlk hP hD hS dX3_fewestRounds_35 ⟨Nat.zero_le _, Nat.zero_le _⟩ ⟨e9.symm, rfl⟩
  rcases Decidable.em (w = 1) with c_2 | c_2
  · refine lv_lookup (off := 35) (tgt := 36) hx hb dX3_fewestRounds_1 (by decide) (by rw [c_2]; rfl) (by decide) ?_
    refine lv_aload_n hx hb dX3_fewestRounds_36 rfl (lv_at hl 0 rfl) ?_
    refine va_get (D := D) (ci := 3) (v := .ref r) (C := RX3) (T := TX3) (N := 5) hx hb hts in_X3_fewestRounds_RX3 hown hK.1 hP 0 rfl rfl 0 (by decide) (hts (.fieldLink RX3 12 "NineDancers" "ring" "LNineDancers$Ring;") (by decide +kernel)) (fun _ h9 => h9) rfl dX3_fewestRounds_37 ?_
    refine ck_iD (wr := wX x r tr pp h sl) (ws' := wX x r tr pp h sl ++ wR Y r q S) (va_runV (As := []) (rest := []) ⟨hx, hb, hml, hown, hts⟩ (c_X2_roundsByTrying l D Y s.heap.size q S r) (cwV 0 hts gX3_fewestRounds_X2_roundsByTrying rfl rfl rfl (by decide +kernel) ⟨Nat.le_of_ble_eq_true rfl, Nat.le_of_ble_eq_true rfl⟩) (pst_V hK hP hD [1, 2, 3, 4, 5, 6, 7, 8, 9, 10, 11] rfl (by decide) (q0 := 0) rfl rfl) rfl rfl hl.1 rfl (lv_room (Nat.le_of_ble_eq_true rfl)) dX3_fewestRounds_40 ⟨Nat.zero_le _, Nat.zero_le _⟩) hP hD hS hA [1, 2, 3, 4, 5, 6, 7, 8, 9, 10, 11] [0] [0, 1, 2, 3, 4, 5, 6, 7, 8, 9, 10, 11] rfl rfl (by decide) (by decide) rfl (by decide) (fun H locs hP hD hS => ?_)
    have e9 : D_X3_fewestRounds S w = D_X2_roundsByTrying S := by rw [D_X3_fewestRounds, if_neg c_1, if_pos c_2]
    exact ret_i hx hb hr hlk hP hD hS dX3_fewestRounds_43 ⟨Nat.zero_le _, Nat.zero_le _⟩ ⟨e9.symm, rfl⟩
  refine lv_lookup (off := 43) (tgt := 44) hx hb dX3_fewestRounds_1 (by decide) (by rw [show (#[(0, 27), (1, 35)] : Array (Int × Int)).toList = [(0, 27), (1, 35)] from rfl, lv_osw c_1 (show (0 : Int32).toInt = 0 from rfl), lv_osw c_2 (show (1 : Int32).toInt = 1 from rfl)]; rfl) (by decide) ?_
  refine lv_ldc (v := (-1000002)) hx hb hown (hts (.constant RX3 37 (-1000002)) (by decide +kernel)) dX3_fewestRounds_44 ?_
  have e9 : D_X3_fewestRounds S w = (-1000002) := by rw [D_X3_fewestRounds, if_neg c_1, if_neg c_2]
  exact ret_i hx hb hr hlk hP hD hS dX3_fewestRounds_46 ⟨Nat.zero_le _, Nat.zero_le _⟩ ⟨e9.symm, rfl⟩
def L_X3_untilAllMet_21 (S : Nat → Nat → Int32) (Z : Nat → Nat → Int32) (S_1 : Nat → Nat → Int32) : Nat → (Int32) → (Int32) → (Nat → Nat → Int32) → (Int32) × (Nat → Nat → Int32)
  | 0, i, u, Z1 => (u, Z1)
  | n_21 + 1, i, u, Z1 => if 500 ≤ i then (u, Z1) else (if u ≤ 0 then (u, Z1) else (L_X3_untilAllMet_21 S Z S_1 n_21 (i + 1) (u - (D_X2_wouldBring Z1 (D_X3_remainderOf i) 3)) ((D_X2_danceRound Z1 (D_X3_remainderOf i)).2)))
def D_X3_untilAllMet (S : Nat → Nat → Int32) (Z : Nat → Nat → Int32)  : (Int32) × (Nat → Nat → Int32) := if ((L_X3_untilAllMet_21 S Z (D_X2_copyFrom Z S) 501 0 (D_X2_unmetPairs (D_X2_copyFrom Z S)) (D_X2_copyFrom Z S)).1) ≤ 0 then ((((L_X3_untilAllMet_21 S Z (D_X2_copyFrom Z S) 501 0 (D_X2_unmetPairs (D_X2_copyFrom Z S)) (D_X2_copyFrom Z S)).2) 10 1) - (S 10 1), ((L_X3_untilAllMet_21 S Z (D_X2_copyFrom Z S) 501 0 (D_X2_unmetPairs (D_X2_copyFrom Z S)) (D_X2_copyFrom Z S)).2)) else ((-1000006), ((L_X3_untilAllMet_21 S Z (D_X2_copyFrom Z S) 501 0 (D_X2_unmetPairs (D_X2_copyFrom Z S)) (D_X2_copyFrom Z S)).2))
set_option maxRecDepth 100000 in
theorem in_X3_untilAllMet_RX2 : ∀ w ∈ u_ws RX2 TX2 13, w ∈ wsX3_untilAllMet := by decide +kernel
set_option maxRecDepth 100000 in
theorem in_X3_untilAllMet_RX3 : ∀ w ∈ u_ws RX3 TX3 5, w ∈ wsX3_untilAllMet := by decide +kernel
set_option maxHeartbeats 4000000 in
set_option maxRecDepth 100000 in
theorem c_X3_untilAllMet (l : Launch) (D : va_G) (Y : YY) (sz : Nat) (r : Nat) (tr : Nat) (pp : Nat) (h : Nat) (sl : Nat) (q : Nat → Nat) (q1 : Nat → Nat) (S : Nat → Nat → Int32) (Z : Nat → Nat → Int32) (x : Nat) : Met l yX3_untilAllMet wsX3_untilAllMet ({ frames := 4, cells := 0, slots := 0, locals := 92 } : Room) (va_Pc [.ref x] (Pst D Y sz (wX x r tr pp h sl ++ (wR Y r q S ++ wR Y tr q1 Z)))) ((fun A : Nat → Prop => Qsi D (fun r9 w9 => r9 = (D_X3_untilAllMet S Z).1 ∧ w9 = wX x r tr pp h sl ++ (wR Y r q S ++ wR Y tr q1 ((D_X3_untilAllMet S Z).2))) A) (va_A (wX x r tr pp h sl ++ (wR Y r q S ++ wR Y tr q1 Z)) sz)) 0 0 (va_A (wX x r tr pp h sl ++ (wR Y r q S ++ wR Y tr q1 Z)) sz) := by
  refine ct_in (cc := cX3_untilAllMet) (maxL := 4) (ret := (some .int)) (Qc := fun A : Nat → Prop => Qsi D (fun r9 w9 => r9 = (D_X3_untilAllMet S Z).1 ∧ w9 = wX x r tr pp h sl ++ (wR Y r q S ++ wR Y tr q1 ((D_X3_untilAllMet S Z).2))) A) (by decide +kernel) rfl (Nat.le_of_ble_eq_true rfl) ?_
  intro p e s m below meth c A ls hx hb hr hts hown hml hlk hin hsz hA hP hD hK hS hl
  have hown : s.vm.findClass RX3 = some m.cls := hown
  have hl : lv_has ls 4 [(0, .ref x)] := hl
  show W p l e ({ frames := 4, cells := 0, slots := 0, locals := 92 } : Room) s m ([.ref x] : List Value).toArray below meth c s.heap [] 0 0 (MQ below (Qsi D (fun r9 w9 => r9 = (D_X3_untilAllMet S Z).1 ∧ w9 = wX x r tr pp h sl ++ (wR Y r q S ++ wR Y tr q1 ((D_X3_untilAllMet S Z).2))) A) ([.ref x] : List Value).toArray s 0 0 A) (F0 m 0 ls [])
  refine lv_aload_n hx hb dX3_untilAllMet_0 rfl (lv_at hl 0 rfl) ?_
  refine va_get (D := D) (ci := 3) (v := .ref tr) (C := RX3) (T := TX3) (N := 5) hx hb hts in_X3_untilAllMet_RX3 hown hK.1 hP 0 rfl rfl 1 (by decide) (hts (.fieldLink RX3 16 "NineDancers" "trial" "LNineDancers$Ring;") (by decide +kernel)) (fun _ h9 => h9) rfl dX3_untilAllMet_1 ?_
  refine lv_aload_n hx hb dX3_untilAllMet_4 rfl (lv_at hl 0 rfl) ?_
  refine va_get (D := D) (ci := 3) (v := .ref r) (C := RX3) (T := TX3) (N := 5) hx hb hts in_X3_untilAllMet_RX3 hown hK.1 hP 0 rfl rfl 0 (by decide) (hts (.fieldLink RX3 12 "NineDancers" "ring" "LNineDancers$Ring;") (by decide +kernel)) (fun _ h9 => h9) rfl dX3_untilAllMet_5 ?_
  refine ck_vD (wr := wX x r tr pp h sl) (ws' := wX x r tr pp h sl ++ (wR Y r q S ++ wR Y tr q1 (D_X2_copyFrom Z S))) (va_runV (As := [.ref r]) (rest := []) ⟨hx, hb, hml, hown, hts⟩ (c_X2_copyFrom l D Y s.heap.size q1 q Z S tr r) (cwV 1 hts gX3_untilAllMet_X2_copyFrom rfl rfl rfl (by decide +kernel) ⟨Nat.le_of_ble_eq_true rfl, Nat.le_of_ble_eq_true rfl⟩) (pst_V hK hP hD [12, 13, 14, 15, 16, 17, 18, 19, 20, 21, 22, 1, 2, 3, 4, 5, 6, 7, 8, 9, 10, 11] rfl (by decide) (q0 := 0) rfl rfl) rfl rfl hl.1 rfl (lv_room (Nat.le_of_ble_eq_true rfl)) dX3_untilAllMet_8 ⟨Nat.zero_le _, Nat.zero_le _⟩) hP hD hS hA [12, 13, 14, 15, 16, 17, 18, 19, 20, 21, 22, 1, 2, 3, 4, 5, 6, 7, 8, 9, 10, 11] [0] [0, 12, 13, 14, 15, 16, 17, 18, 19, 20, 21, 22, 1, 2, 3, 4, 5, 6, 7, 8, 9, 10, 11] rfl rfl (by decide) (by decide) rfl (by decide) (fun H locs hP hD hS => ?_)
  obtain ⟨S_1, eS_1⟩ : ∃ z9, (D_X2_copyFrom Z S) = z9 := ⟨_, rfl⟩
  rw [eS_1] at hP hD
  refine lv_aload_n hx hb dX3_untilAllMet_11 rfl (lv_at hl 0 rfl) ?_
  refine va_get (D := D) (ci := 3) (v := .ref tr) (C := RX3) (T := TX3) (N := 5) hx hb hts in_X3_untilAllMet_RX3 hown hK.1 hP 0 rfl rfl 1 (by decide) (hts (.fieldLink RX3 16 "NineDancers" "trial" "LNineDancers$Ring;") (by decide +kernel)) (fun _ h9 => h9) rfl dX3_untilAllMet_12 ?_
  refine ck_iD (wr := wX x r tr pp h sl ++ wR Y r q S) (ws' := wX x r tr pp h sl ++ (wR Y r q S ++ wR Y tr q1 S_1)) (va_runV (As := []) (rest := []) ⟨hx, hb, hml, hown, hts⟩ (c_X2_unmetPairs l D Y H.size q1 S_1 tr) (cwV 0 hts gX3_untilAllMet_X2_unmetPairs rfl rfl rfl (by decide +kernel) ⟨Nat.le_of_ble_eq_true rfl, Nat.le_of_ble_eq_true rfl⟩) (pst_V hK hP hD [12, 13, 14, 15, 16, 17, 18, 19, 20, 21, 22] rfl (by decide) (q0 := 0) rfl rfl) rfl rfl hl.1 rfl (lv_room (Nat.le_of_ble_eq_true rfl)) dX3_untilAllMet_15 ⟨Nat.zero_le _, Nat.zero_le _⟩) hP hD hS hA [12, 13, 14, 15, 16, 17, 18, 19, 20, 21, 22] [0, 1, 2, 3, 4, 5, 6, 7, 8, 9, 10, 11] [0, 1, 2, 3, 4, 5, 6, 7, 8, 9, 10, 11, 12, 13, 14, 15, 16, 17, 18, 19, 20, 21, 22] rfl rfl (by decide) (by decide) rfl (by decide) (fun H locs hP hD hS => ?_)
  refine lv_istore_n (lv' := [(1, .int (D_X2_unmetPairs S_1)), (0, .ref x)]) hx hb dX3_untilAllMet_18 rfl hl (by decide) rfl (fun ls hl => ?_)
  refine lv_iconst (v := 0) hx hb dX3_untilAllMet_19 (by decide) ?_
  refine lv_istore_n (lv' := [(2, .int 0), (1, .int (D_X2_unmetPairs S_1)), (0, .ref x)]) hx hb dX3_untilAllMet_20 rfl hl (by decide) rfl (fun ls hl => ?_)
  have loop_21 : ∀ (n_21 k_21 : Nat) (i : Int32) (u : Int32) (Z1 : Nat → Nat → Int32) (H : Heap) (locs : List Loc) (ls : Array Slot), 501 ≤ k_21 + n_21 → k_21 ≤ 500 → i = nI k_21 → va_P D vwCl (wX x r tr pp h sl ++ (wR Y r q S ++ wR Y tr q1 Z1)) H → va_D A (wX x r tr pp h sl ++ (wR Y r q S ++ wR Y tr q1 Z1)) → va_S A s.heap H locs → lv_has ls 4 [(2, .int i), (1, .int u), (0, .ref x)] → L_X3_untilAllMet_21 S Z S_1 n_21 i u Z1 = L_X3_untilAllMet_21 S Z S_1 501 0 (D_X2_unmetPairs S_1) S_1 → W p l e ({ frames := 4, cells := 0, slots := 0, locals := 92 } : Room) s m ([.ref x] : List Value).toArray below meth c H locs 0 0 (MQ below (Qsi D (fun r9 w9 => r9 = (D_X3_untilAllMet S Z).1 ∧ w9 = wX x r tr pp h sl ++ (wR Y r q S ++ wR Y tr q1 ((D_X3_untilAllMet S Z).2))) A) ([.ref x] : List Value).toArray s 0 0 A) (F0 m 21 ls []) := by
    intro n_21
    induction n_21 with
    | zero => intro k_21 i u Z1 H locs ls hkf hkN_21 ex_21 hP hD hS hl hR_21; exact absurd hkf (by omega)
    | succ n_21 ih_21 =>
      intro k_21 i u Z1 H locs ls hkf hkN_21 ex_21 hP hD hS hl hR_21
      refine lv_iload_n hx hb dX3_untilAllMet_21 rfl (lv_at hl 0 rfl) ?_
      refine lv_sipush (v := 500) hx hb dX3_untilAllMet_22 (by decide) ?_
      refine lv_icmp_ge (tgt := 64) hx hb dX3_untilAllMet_25 (by decide) (fun c_1 => ?_) (fun c_1 => ?_)
      · have e8 : L_X3_untilAllMet_21 S Z S_1 (n_21 + 1) i u Z1 = (u, Z1) := by rw [L_X3_untilAllMet_21, if_pos c_1]
        have e8 := hR_21.symm.trans e8
        have eu : (L_X3_untilAllMet_21 S Z S_1 501 0 (D_X2_unmetPairs S_1) S_1).1 = u := by rw [e8]
        have eZ1 : (L_X3_untilAllMet_21 S Z S_1 501 0 (D_X2_unmetPairs S_1) S_1).2 = Z1 := by rw [e8]
        clear e8 hR_21 ih_21
        refine lv_iload_n hx hb dX3_untilAllMet_64 rfl (lv_at hl 1 rfl) ?_
        refine lv_if_le (tgt := 73) hx hb dX3_untilAllMet_65 (by decide) (fun c_2 => ?_) (fun c_2 => ?_)
        · refine lv_aload_n hx hb dX3_untilAllMet_73 rfl (lv_at hl 2 rfl) ?_
          refine va_get (D := D) (ci := 3) (v := .ref tr) (C := RX3) (T := TX3) (N := 5) hx hb hts in_X3_untilAllMet_RX3 hown hK.1 hP 0 rfl rfl 1 (by decide) (hts (.fieldLink RX3 16 "NineDancers" "trial" "LNineDancers$Ring;") (by decide +kernel)) (fun _ h9 => h9) rfl dX3_untilAllMet_74 ?_
          refine va_get (D := D) (ci := 2) (v := .int (Z1 10 1)) (C := RX2) (T := TX2) (N := 13) hx hb hts in_X3_untilAllMet_RX2 hown hK.1 hP 12 rfl rfl 11 (by decide) (hts (.fieldLink RX3 75 "NineDancers$Ring" "rounds" "I") (by decide +kernel)) (fun _ h9 => h9) rfl dX3_untilAllMet_77 ?_
          refine lv_aload_n hx hb dX3_untilAllMet_80 rfl (lv_at hl 2 rfl) ?_
          refine va_get (D := D) (ci := 3) (v := .ref r) (C := RX3) (T := TX3) (N := 5) hx hb hts in_X3_untilAllMet_RX3 hown hK.1 hP 0 rfl rfl 0 (by decide) (hts (.fieldLink RX3 12 "NineDancers" "ring" "LNineDancers$Ring;") (by decide +kernel)) (fun _ h9 => h9) rfl dX3_untilAllMet_81 ?_
          refine va_get (D := D) (ci := 2) (v := .int (S 10 1)) (C := RX2) (T := TX2) (N := 13) hx hb hts in_X3_untilAllMet_RX2 hown hK.1 hP 1 rfl rfl 11 (by decide) (hts (.fieldLink RX3 75 "NineDancers$Ring" "rounds" "I") (by decide +kernel)) (fun _ h9 => h9) rfl dX3_untilAllMet_84 ?_
          refine lv_isub hx hb dX3_untilAllMet_87 ?_
          subst eZ1
          subst eu
          subst eS_1
          have e9 : D_X3_untilAllMet S Z = ((((L_X3_untilAllMet_21 S Z (D_X2_copyFrom Z S) 501 0 (D_X2_unmetPairs (D_X2_copyFrom Z S)) (D_X2_copyFrom Z S)).2) 10 1) - (S 10 1), ((L_X3_untilAllMet_21 S Z (D_X2_copyFrom Z S) 501 0 (D_X2_unmetPairs (D_X2_copyFrom Z S)) (D_X2_copyFrom Z S)).2)) := by rw [D_X3_untilAllMet, if_pos c_2]
          exact ret_i hx hb hr hlk hP hD hS dX3_untilAllMet_88 ⟨Nat.zero_le _, Nat.zero_le _⟩ ⟨by rw [e9], by rw [e9]⟩
        · refine lv_ldc (v := (-1000006)) hx hb hown (hts (.constant RX3 86 (-1000006)) (by decide +kernel)) dX3_untilAllMet_68 ?_
          refine lv_goto (tgt := 88) hx hb dX3_untilAllMet_70 (by decide) ?_
          subst eZ1
          subst eu
          subst eS_1
          have e9 : D_X3_untilAllMet S Z = ((-1000006), ((L_X3_untilAllMet_21 S Z (D_X2_copyFrom Z S) 501 0 (D_X2_unmetPairs (D_X2_copyFrom Z S)) (D_X2_copyFrom Z S)).2)) := by rw [D_X3_untilAllMet, if_neg c_2]
          exact ret_i hx hb hr hlk hP hD hS dX3_untilAllMet_88 ⟨Nat.zero_le _, Nat.zero_le _⟩ ⟨by rw [e9], by rw [e9]⟩
      · have hk_21 := my_lt ex_21 (show (500 : Int32) = nI 500 from rfl) (by decide) hkN_21 c_1
        refine lv_iload_n hx hb dX3_untilAllMet_28 rfl (lv_at hl 1 rfl) ?_
        refine lv_if_le (tgt := 64) hx hb dX3_untilAllMet_29 (by decide) (fun c_3 => ?_) (fun c_3 => ?_)
        · have e8 : L_X3_untilAllMet_21 S Z S_1 (n_21 + 1) i u Z1 = (u, Z1) := by rw [L_X3_untilAllMet_21, if_neg c_1, if_pos c_3]
          have e8 := hR_21.symm.trans e8
          have eu : (L_X3_untilAllMet_21 S Z S_1 501 0 (D_X2_unmetPairs S_1) S_1).1 = u := by rw [e8]
          have eZ1 : (L_X3_untilAllMet_21 S Z S_1 501 0 (D_X2_unmetPairs S_1) S_1).2 = Z1 := by rw [e8]
          clear e8 hR_21 ih_21
          refine lv_iload_n hx hb dX3_untilAllMet_64 rfl (lv_at hl 1 rfl) ?_
          refine lv_if_le (tgt := 73) hx hb dX3_untilAllMet_65 (by decide) (fun c_4 => ?_) (fun c_4 => ?_)
          · refine lv_aload_n hx hb dX3_untilAllMet_73 rfl (lv_at hl 2 rfl) ?_
            refine va_get (D := D) (ci := 3) (v := .ref tr) (C := RX3) (T := TX3) (N := 5) hx hb hts in_X3_untilAllMet_RX3 hown hK.1 hP 0 rfl rfl 1 (by decide) (hts (.fieldLink RX3 16 "NineDancers" "trial" "LNineDancers$Ring;") (by decide +kernel)) (fun _ h9 => h9) rfl dX3_untilAllMet_74 ?_
            refine va_get (D := D) (ci := 2) (v := .int (Z1 10 1)) (C := RX2) (T := TX2) (N := 13) hx hb hts in_X3_untilAllMet_RX2 hown hK.1 hP 12 rfl rfl 11 (by decide) (hts (.fieldLink RX3 75 "NineDancers$Ring" "rounds" "I") (by decide +kernel)) (fun _ h9 => h9) rfl dX3_untilAllMet_77 ?_
            refine lv_aload_n hx hb dX3_untilAllMet_80 rfl (lv_at hl 2 rfl) ?_
            refine va_get (D := D) (ci := 3) (v := .ref r) (C := RX3) (T := TX3) (N := 5) hx hb hts in_X3_untilAllMet_RX3 hown hK.1 hP 0 rfl rfl 0 (by decide) (hts (.fieldLink RX3 12 "NineDancers" "ring" "LNineDancers$Ring;") (by decide +kernel)) (fun _ h9 => h9) rfl dX3_untilAllMet_81 ?_
            refine va_get (D := D) (ci := 2) (v := .int (S 10 1)) (C := RX2) (T := TX2) (N := 13) hx hb hts in_X3_untilAllMet_RX2 hown hK.1 hP 1 rfl rfl 11 (by decide) (hts (.fieldLink RX3 75 "NineDancers$Ring" "rounds" "I") (by decide +kernel)) (fun _ h9 => h9) rfl dX3_untilAllMet_84 ?_
            refine lv_isub hx hb dX3_untilAllMet_87 ?_
            subst eZ1
            subst eu
            subst eS_1
            have e9 : D_X3_untilAllMet S Z = ((((L_X3_untilAllMet_21 S Z (D_X2_copyFrom Z S) 501 0 (D_X2_unmetPairs (D_X2_copyFrom Z S)) (D_X2_copyFrom Z S)).2) 10 1) - (S 10 1), ((L_X3_untilAllMet_21 S Z (D_X2_copyFrom Z S) 501 0 (D_X2_unmetPairs (D_X2_copyFrom Z S)) (D_X2_copyFrom Z S)).2)) := by rw [D_X3_untilAllMet, if_pos c_4]
            exact ret_i hx hb hr hlk hP hD hS dX3_untilAllMet_88 ⟨Nat.zero_le _, Nat.zero_le _⟩ ⟨by rw [e9], by rw [e9]⟩
          · refine lv_ldc (v := (-1000006)) hx hb hown (hts (.constant RX3 86 (-1000006)) (by decide +kernel)) dX3_untilAllMet_68 ?_
            refine lv_goto (tgt := 88) hx hb dX3_untilAllMet_70 (by decide) ?_
            subst eZ1
            subst eu
            subst eS_1
            have e9 : D_X3_untilAllMet S Z = ((-1000006), ((L_X3_untilAllMet_21 S Z (D_X2_copyFrom Z S) 501 0 (D_X2_unmetPairs (D_X2_copyFrom Z S)) (D_X2_copyFrom Z S)).2)) := by rw [D_X3_untilAllMet, if_neg c_4]
            exact ret_i hx hb hr hlk hP hD hS dX3_untilAllMet_88 ⟨Nat.zero_le _, Nat.zero_le _⟩ ⟨by rw [e9], by rw [e9]⟩
        · refine lv_iload_n hx hb dX3_untilAllMet_32 rfl (lv_at hl 0 rfl) ?_
          refine ck_iD (wr := wX x r tr pp h sl ++ (wR Y r q S ++ wR Y tr q1 Z1)) (ws' := wX x r tr pp h sl ++ (wR Y r q S ++ wR Y tr q1 Z1)) (va_runS (As := [.int i]) (rest := []) ⟨hx, hb, hml, hown, hts⟩ (c_X3_remainderOf l D Y H.size i) (va_cwS 1 hts gX3_untilAllMet_X3_remainderOf rfl rfl rfl (by decide +kernel) ⟨Nat.le_of_ble_eq_true rfl, Nat.le_of_ble_eq_true rfl⟩) (pst_S hK hP hD [] rfl (by decide)) rfl rfl hl.1 rfl (lv_room (Nat.le_of_ble_eq_true rfl)) dX3_untilAllMet_33 ⟨Nat.zero_le _, Nat.zero_le _⟩) hP hD hS hA [] [0, 1, 2, 3, 4, 5, 6, 7, 8, 9, 10, 11, 12, 13, 14, 15, 16, 17, 18, 19, 20, 21, 22] [0, 1, 2, 3, 4, 5, 6, 7, 8, 9, 10, 11, 12, 13, 14, 15, 16, 17, 18, 19, 20, 21, 22] rfl rfl (by decide) (by decide) rfl (by decide) (fun H locs hP hD hS => ?_)
          refine lv_istore_n (lv' := [(3, .int (D_X3_remainderOf i)), (2, .int i), (1, .int u), (0, .ref x)]) hx hb dX3_untilAllMet_36 rfl hl (by decide) rfl (fun ls hl => ?_)
          refine lv_iload_n hx hb dX3_untilAllMet_37 rfl (lv_at hl 2 rfl) ?_
          refine lv_aload_n hx hb dX3_untilAllMet_38 rfl (lv_at hl 3 rfl) ?_
          refine va_get (D := D) (ci := 3) (v := .ref tr) (C := RX3) (T := TX3) (N := 5) hx hb hts in_X3_untilAllMet_RX3 hown hK.1 hP 0 rfl rfl 1 (by decide) (hts (.fieldLink RX3 16 "NineDancers" "trial" "LNineDancers$Ring;") (by decide +kernel)) (fun _ h9 => h9) rfl dX3_untilAllMet_39 ?_
          refine lv_iload_n hx hb dX3_untilAllMet_42 rfl (lv_at hl 0 rfl) ?_
          refine lv_iconst (v := 3) hx hb dX3_untilAllMet_43 (by decide) ?_
          refine ck_iD (wr := wX x r tr pp h sl ++ wR Y r q S) (ws' := wX x r tr pp h sl ++ (wR Y r q S ++ wR Y tr q1 Z1)) (va_runV (As := [.int (D_X3_remainderOf i), .int 3]) (rest := [.int u]) ⟨hx, hb, hml, hown, hts⟩ (c_X2_wouldBring l D Y H.size q1 Z1 tr (D_X3_remainderOf i) 3) (cwV 2 hts gX3_untilAllMet_X2_wouldBring rfl rfl rfl (by decide +kernel) ⟨Nat.le_of_ble_eq_true rfl, Nat.le_of_ble_eq_true rfl⟩) (pst_V hK hP hD [12, 13, 14, 15, 16, 17, 18, 19, 20, 21, 22] rfl (by decide) (q0 := 0) rfl rfl) rfl rfl hl.1 rfl (lv_room (Nat.le_of_ble_eq_true rfl)) dX3_untilAllMet_44 ⟨Nat.zero_le _, Nat.zero_le _⟩) hP hD hS hA [12, 13, 14, 15, 16, 17, 18, 19, 20, 21, 22] [0, 1, 2, 3, 4, 5, 6, 7, 8, 9, 10, 11] [0, 1, 2, 3, 4, 5, 6, 7, 8, 9, 10, 11, 12, 13, 14, 15, 16, 17, 18, 19, 20, 21, 22] rfl rfl (by decide) (by decide) rfl (by decide) (fun H locs hP hD hS => ?_)
          refine lv_isub hx hb dX3_untilAllMet_47 ?_
          refine lv_istore_n (lv' := [(1, .int (u - (D_X2_wouldBring Z1 (D_X3_remainderOf i) 3))), (3, .int (D_X3_remainderOf i)), (2, .int i), (0, .ref x)]) hx hb dX3_untilAllMet_48 rfl hl (by decide) rfl (fun ls hl => ?_)
          refine lv_aload_n hx hb dX3_untilAllMet_49 rfl (lv_at hl 3 rfl) ?_
          refine va_get (D := D) (ci := 3) (v := .ref tr) (C := RX3) (T := TX3) (N := 5) hx hb hts in_X3_untilAllMet_RX3 hown hK.1 hP 0 rfl rfl 1 (by decide) (hts (.fieldLink RX3 16 "NineDancers" "trial" "LNineDancers$Ring;") (by decide +kernel)) (fun _ h9 => h9) rfl dX3_untilAllMet_50 ?_
          refine lv_iload_n hx hb dX3_untilAllMet_53 rfl (lv_at hl 1 rfl) ?_
          refine ck_iD (wr := wX x r tr pp h sl ++ wR Y r q S) (ws' := wX x r tr pp h sl ++ (wR Y r q S ++ wR Y tr q1 ((D_X2_danceRound Z1 (D_X3_remainderOf i)).2))) (va_runV (As := [.int (D_X3_remainderOf i)]) (rest := []) ⟨hx, hb, hml, hown, hts⟩ (c_X2_danceRound l D Y H.size q1 Z1 tr (D_X3_remainderOf i)) (cwV 1 hts gX3_untilAllMet_X2_danceRound rfl rfl rfl (by decide +kernel) ⟨Nat.le_of_ble_eq_true rfl, Nat.le_of_ble_eq_true rfl⟩) (pst_V hK hP hD [12, 13, 14, 15, 16, 17, 18, 19, 20, 21, 22] rfl (by decide) (q0 := 0) rfl rfl) rfl rfl hl.1 rfl (lv_room (Nat.le_of_ble_eq_true rfl)) dX3_untilAllMet_54 ⟨Nat.zero_le _, Nat.zero_le _⟩) hP hD hS hA [12, 13, 14, 15, 16, 17, 18, 19, 20, 21, 22] [0, 1, 2, 3, 4, 5, 6, 7, 8, 9, 10, 11] [0, 1, 2, 3, 4, 5, 6, 7, 8, 9, 10, 11, 12, 13, 14, 15, 16, 17, 18, 19, 20, 21, 22] rfl rfl (by decide) (by decide) rfl (by decide) (fun H locs hP hD hS => ?_)
          obtain ⟨S_2, eS_2⟩ : ∃ z9, (D_X2_danceRound Z1 (D_X3_remainderOf i)).2 = z9 := ⟨_, rfl⟩
          rw [eS_2] at hP hD
          refine lv_pop hx hb dX3_untilAllMet_57 rfl ?_
          refine lv_iinc (v := i + 1) (lv' := [(2, .int (i + 1)), (1, .int (u - (D_X2_wouldBring Z1 (D_X3_remainderOf i) 3))), (3, .int (D_X3_remainderOf i)), (0, .ref x)]) hx hb dX3_untilAllMet_58 hl (k := 2) rfl rfl (by decide) rfl (fun ls hl => ?_)
          refine lv_goto (tgt := 21) hx hb dX3_untilAllMet_61 (by decide) ?_
          subst eS_2
          exact ih_21 (k_21 + 1) (i + 1) (u - (D_X2_wouldBring Z1 (D_X3_remainderOf i) 3)) ((D_X2_danceRound Z1 (D_X3_remainderOf i)).2) _ _ _ (by omega) (by omega) (by rw [ex_21]; exact nI_1 k_21)  hP hD hS (lv_sub hl [0, 1, 3] rfl) (by rw [L_X3_untilAllMet_21, if_neg c_1, if_neg c_3] at hR_21; exact hR_21)
  exact loop_21 501 0 0 (D_X2_unmetPairs S_1) S_1 _ _ _ (by omega) (Nat.zero_le _) nI_0.symm  hP hD hS (lv_sub hl [0, 1, 2] rfl) rfl
def T_X1_empty_1 (P : Nat → Nat → Int32) : Nat → Nat → Int32 := s2 P 1 0 0
def D_X1_empty (P : Nat → Nat → Int32)  : (Int32) × (Nat → Nat → Int32) := (P 1 0, (T_X1_empty_1 P))
set_option maxRecDepth 100000 in
theorem in_X1_empty_RX1 : ∀ w ∈ u_ws RX1 TX1 2, w ∈ wsX1_empty := by decide +kernel
set_option maxHeartbeats 4000000 in
set_option maxRecDepth 100000 in
theorem c_X1_empty (l : Launch) (D : va_G) (Y : YY) (sz : Nat) (tx : Nat) (P : Nat → Nat → Int32) (pp : Nat) : Met l yX1_empty wsX1_empty ({ frames := 0, cells := 0, slots := 0, locals := 0 } : Room) (va_Pc [.ref pp] (Pst D Y sz (wP Y pp tx P))) ((fun A : Nat → Prop => Qsi D (fun r9 w9 => r9 = (D_X1_empty P).1 ∧ w9 = wP Y pp tx ((D_X1_empty P).2)) A) (va_A (wP Y pp tx P) sz)) 0 0 (va_A (wP Y pp tx P) sz) := by
  refine ct_in (cc := cX1_empty) (maxL := 2) (ret := (some .int)) (Qc := fun A : Nat → Prop => Qsi D (fun r9 w9 => r9 = (D_X1_empty P).1 ∧ w9 = wP Y pp tx ((D_X1_empty P).2)) A) (by decide +kernel) rfl (Nat.le_of_ble_eq_true rfl) ?_
  intro p e s m below meth c A ls hx hb hr hts hown hml hlk hin hsz hA hP hD hK hS hl
  have hown : s.vm.findClass RX1 = some m.cls := hown
  have hl : lv_has ls 2 [(0, .ref pp)] := hl
  show W p l e ({ frames := 0, cells := 0, slots := 0, locals := 0 } : Room) s m ([.ref pp] : List Value).toArray below meth c s.heap [] 0 0 (MQ below (Qsi D (fun r9 w9 => r9 = (D_X1_empty P).1 ∧ w9 = wP Y pp tx ((D_X1_empty P).2)) A) ([.ref pp] : List Value).toArray s 0 0 A) (F0 m 0 ls [])
  refine lv_aload_n hx hb dX1_empty_0 rfl (lv_at hl 0 rfl) ?_
  refine va_get (D := D) (ci := 1) (v := .int (P 1 0)) (C := RX1) (T := TX1) (N := 2) hx hb hts in_X1_empty_RX1 hown hK.1 hP 0 rfl rfl 1 (by decide) (hts (.fieldLink RX1 15 "NineDancers$Pad" "length" "I") (by decide +kernel)) (fun _ h9 => h9) rfl dX1_empty_1 ?_
  refine lv_istore_n (lv' := [(1, .int (P 1 0)), (0, .ref pp)]) hx hb dX1_empty_4 rfl hl (by decide) rfl (fun ls hl => ?_)
  refine lv_aload_n hx hb dX1_empty_5 rfl (lv_at hl 1 rfl) ?_
  refine lv_iconst (v := 0) hx hb dX1_empty_6 (by decide) ?_
  refine va_put (D := D) (ci := 1) (v := .int 0) (ty := .int) (C := RX1) (T := TX1) (N := 2) hx hb hts in_X1_empty_RX1 tyX1 tyX1_ok nmX1 hown hK.1 hP hD hS 0 rfl rfl 1 (by decide) (hts (.fieldLink RX1 15 "NineDancers$Pad" "length" "I") (by decide +kernel)) (fun _ h9 => h9) rfl (by decide +kernel) rfl rfl (Nat.le_of_ble_eq_true rfl) dX1_empty_7 (fun H locs hP hD hS => ?_)
  have hP : va_P D vwCl (wP Y pp tx (T_X1_empty_1 P)) H := hP
  have hD : va_D A (wP Y pp tx (T_X1_empty_1 P)) := hD
  obtain ⟨S_1, eS_1⟩ : ∃ z9, T_X1_empty_1 P = z9 := ⟨_, rfl⟩
  rw [eS_1] at hP hD
  refine lv_iload_n hx hb dX1_empty_10 rfl (lv_at hl 0 rfl) ?_
  subst eS_1
  have e9 : D_X1_empty P = (P 1 0, (T_X1_empty_1 P)) := by rw [D_X1_empty]
  exact ret_i hx hb hr hlk hP hD hS dX1_empty_11 ⟨Nat.zero_le _, Nat.zero_le _⟩ ⟨by rw [e9], by rw [e9]⟩
def D_X3_wipe (P : Nat → Nat → Int32)  : (Int32) × (Nat → Nat → Int32) := ((D_X1_empty P).1, ((D_X1_empty P).2))
set_option maxRecDepth 100000 in
theorem in_X3_wipe_RX3 : ∀ w ∈ u_ws RX3 TX3 5, w ∈ wsX3_wipe := by decide +kernel
set_option maxHeartbeats 4000000 in
set_option maxRecDepth 100000 in
theorem c_X3_wipe (l : Launch) (D : va_G) (Y : YY) (sz : Nat) (r : Nat) (tr : Nat) (pp : Nat) (h : Nat) (sl : Nat) (tx : Nat) (P : Nat → Nat → Int32) (x : Nat) : Met l yX3_wipe wsX3_wipe ({ frames := 1, cells := 0, slots := 0, locals := 21 } : Room) (va_Pc [.ref x] (Pst D Y sz (wX x r tr pp h sl ++ wP Y pp tx P))) ((fun A : Nat → Prop => Qsi D (fun r9 w9 => r9 = (D_X3_wipe P).1 ∧ w9 = wX x r tr pp h sl ++ wP Y pp tx ((D_X3_wipe P).2)) A) (va_A (wX x r tr pp h sl ++ wP Y pp tx P) sz)) 0 0 (va_A (wX x r tr pp h sl ++ wP Y pp tx P) sz) := by
  refine ct_in (cc := cX3_wipe) (maxL := 1) (ret := (some .int)) (Qc := fun A : Nat → Prop => Qsi D (fun r9 w9 => r9 = (D_X3_wipe P).1 ∧ w9 = wX x r tr pp h sl ++ wP Y pp tx ((D_X3_wipe P).2)) A) (by decide +kernel) rfl (Nat.le_of_ble_eq_true rfl) ?_
  intro p e s m below meth c A ls hx hb hr hts hown hml hlk hin hsz hA hP hD hK hS hl
  have hown : s.vm.findClass RX3 = some m.cls := hown
  have hl : lv_has ls 1 [(0, .ref x)] := hl
  show W p l e ({ frames := 1, cells := 0, slots := 0, locals := 21 } : Room) s m ([.ref x] : List Value).toArray below meth c s.heap [] 0 0 (MQ below (Qsi D (fun r9 w9 => r9 = (D_X3_wipe P).1 ∧ w9 = wX x r tr pp h sl ++ wP Y pp tx ((D_X3_wipe P).2)) A) ([.ref x] : List Value).toArray s 0 0 A) (F0 m 0 ls [])
  refine lv_aload_n hx hb dX3_wipe_0 rfl (lv_at hl 0 rfl) ?_
  refine va_get (D := D) (ci := 3) (v := .ref pp) (C := RX3) (T := TX3) (N := 5) hx hb hts in_X3_wipe_RX3 hown hK.1 hP 0 rfl rfl 2 (by decide) (hts (.fieldLink RX3 22 "NineDancers" "pad" "LNineDancers$Pad;") (by decide +kernel)) (fun _ h9 => h9) rfl dX3_wipe_1 ?_
  refine ck_iD (wr := wX x r tr pp h sl) (ws' := wX x r tr pp h sl ++ wP Y pp tx ((D_X1_empty P).2)) (va_runV (As := []) (rest := []) ⟨hx, hb, hml, hown, hts⟩ (c_X1_empty l D Y s.heap.size tx P pp) (cwV 0 hts gX3_wipe_X1_empty rfl rfl rfl (by decide +kernel) ⟨Nat.le_of_ble_eq_true rfl, Nat.le_of_ble_eq_true rfl⟩) (pst_V hK hP hD [1, 2] rfl (by decide) (q0 := 0) rfl rfl) rfl rfl hl.1 rfl (lv_room (Nat.le_of_ble_eq_true rfl)) dX3_wipe_4 ⟨Nat.zero_le _, Nat.zero_le _⟩) hP hD hS hA [1, 2] [0] [0, 1, 2] rfl rfl (by decide) (by decide) rfl (by decide) (fun H locs hP hD hS => ?_)
  obtain ⟨S_1, eS_1⟩ : ∃ z9, (D_X1_empty P).2 = z9 := ⟨_, rfl⟩
  rw [eS_1] at hP hD
  subst eS_1
  have e9 : D_X3_wipe P = ((D_X1_empty P).1, ((D_X1_empty P).2)) := by rw [D_X3_wipe]
  exact ret_i hx hb hr hlk hP hD hS dX3_wipe_7 ⟨Nat.zero_le _, Nat.zero_le _⟩ ⟨by rw [e9], by rw [e9]⟩

set_option maxHeartbeats 4000000 in
set_option maxRecDepth 100000 in
theorem c_L_isStep_4 (l : Launch) (D : va_G) (Y : YY) (sz : Nat) (r : Nat) (tr : Nat) (pp : Nat) (h : Nat) (sl : Nat) (q : Nat → Nat) (tx : Nat) (sa : Nat) (r2 : Nat) (tr2 : Nat) (pp2 : Nat) (h2 : Nat) (sl2 : Nat) (q2 : Nat → Nat) (tx2 : Nat) (sa2 : Nat) (S : Nat → Nat → Int32) (P : Nat → Nat → Int32) (u : HS) (T : Nat → Nat → Int32) (P2 : Nat → Nat → Int32) (uw : HS) (n : Nat) (wt : va_W) (x : Nat) (y : Nat) (aa : Int32) (bb : Int32) (hB : Both n S T) (hH : HB n u uw) (hn : n ≤ 60) (hp2 : P2 1 0 = 0) (hup : D_L_up aa 15 = 4) : Met l yL_isStep wsL_isStep ({ frames := 7, cells := 22, slots := 626, locals := 227 } : Room) (va_Pc [.ref x, .ref y, .int aa, .int bb] (Pst D Y sz (wX x r tr pp h sl ++ (wR Y r q S ++ (wP Y pp tx P ++ (wHi Y h sa u ++ (wX y r2 tr2 pp2 h2 sl2 ++ (wR Y r2 q2 T ++ (wP Y pp2 tx2 P2 ++ (wHi Y h2 sa2 uw ++ wt)))))))))) ((fun A : Nat → Prop => Qsi D (fun r9 w9 => r9 = 1 ∧ ∃ (S9 T9 : Nat → Nat → Int32) (u9 v9 : HS) (P9 : Nat → Nat → Int32), Both (n + 1) S9 T9 ∧ HB (n + 1) u9 v9 ∧ P9 1 0 = 0 ∧ w9 = wX x r tr pp h sl ++ (wR Y r q S9 ++ (wP Y pp tx P ++ (wHi Y h sa u9 ++ (wX y r2 tr2 pp2 h2 sl2 ++ (wR Y r2 q2 T9 ++ (wP Y pp2 tx2 P9 ++ (wHi Y h2 sa2 v9 ++ wt)))))))) A) (va_A (wX x r tr pp h sl ++ (wR Y r q S ++ (wP Y pp tx P ++ (wHi Y h sa u ++ (wX y r2 tr2 pp2 h2 sl2 ++ (wR Y r2 q2 T ++ (wP Y pp2 tx2 P2 ++ (wHi Y h2 sa2 uw ++ wt)))))))) sz)) 22 626 (va_A (wX x r tr pp h sl ++ (wR Y r q S ++ (wP Y pp tx P ++ (wHi Y h sa u ++ (wX y r2 tr2 pp2 h2 sl2 ++ (wR Y r2 q2 T ++ (wP Y pp2 tx2 P2 ++ (wHi Y h2 sa2 uw ++ wt)))))))) sz) := by
  refine ct_in (cc := cL_isStep) (maxL := 9) (ret := (some .boolean)) (Qc := fun A : Nat → Prop => Qsi D (fun r9 w9 => r9 = 1 ∧ ∃ (S9 T9 : Nat → Nat → Int32) (u9 v9 : HS) (P9 : Nat → Nat → Int32), Both (n + 1) S9 T9 ∧ HB (n + 1) u9 v9 ∧ P9 1 0 = 0 ∧ w9 = wX x r tr pp h sl ++ (wR Y r q S9 ++ (wP Y pp tx P ++ (wHi Y h sa u9 ++ (wX y r2 tr2 pp2 h2 sl2 ++ (wR Y r2 q2 T9 ++ (wP Y pp2 tx2 P9 ++ (wHi Y h2 sa2 v9 ++ wt)))))))) A) (by decide +kernel) rfl (Nat.le_of_ble_eq_true rfl) ?_
  intro p e s m below meth c A ls hx hb hr hts hown hml hlk hin hsz hA hP hD hK hS hl
  have hown : s.vm.findClass RL = some m.cls := hown
  have hl : lv_has ls 9 [(0, .ref x), (1, .ref y), (2, .int aa), (3, .int bb)] := hl
  show W p l e ({ frames := 7, cells := 22, slots := 626, locals := 227 } : Room) s m ([.ref x, .ref y, .int aa, .int bb] : List Value).toArray below meth c s.heap [] 0 0 (MQ below (Qsi D (fun r9 w9 => r9 = 1 ∧ ∃ (S9 T9 : Nat → Nat → Int32) (u9 v9 : HS) (P9 : Nat → Nat → Int32), Both (n + 1) S9 T9 ∧ HB (n + 1) u9 v9 ∧ P9 1 0 = 0 ∧ w9 = wX x r tr pp h sl ++ (wR Y r q S9 ++ (wP Y pp tx P ++ (wHi Y h sa u9 ++ (wX y r2 tr2 pp2 h2 sl2 ++ (wR Y r2 q2 T9 ++ (wP Y pp2 tx2 P9 ++ (wHi Y h2 sa2 v9 ++ wt)))))))) A) ([.ref x, .ref y, .int aa, .int bb] : List Value).toArray s 22 626 A) (F0 m 0 ls [])
  refine lv_iload_n hx hb dL_isStep_0 rfl (lv_at hl 2 rfl) ?_
  refine lv_iconst (v := 4) hx hb dL_isStep_1 (by decide) ?_
  refine lv_ishr hx hb dL_isStep_2 ?_
  refine lv_istore (lv' := [(4, .int (aa >>> (4 &&& 31))), (0, .ref x), (1, .ref y), (2, .int aa), (3, .int bb)]) hx hb dL_isStep_3 hl (by decide) rfl (fun ls hl => ?_)
  refine lv_iload_n hx hb dL_isStep_5 rfl (lv_at hl 3 rfl) ?_
  refine lv_bipush (v := 15) hx hb dL_isStep_6 (by decide) ?_
  refine cb_iD (wr := wX x r tr pp h sl ++ (wR Y r q S ++ (wP Y pp tx P ++ (wHi Y h sa u ++ (wX y r2 tr2 pp2 h2 sl2 ++ (wR Y r2 q2 T ++ (wP Y pp2 tx2 P2 ++ (wHi Y h2 sa2 uw ++ wt)))))))) (ws' := wX x r tr pp h sl ++ (wR Y r q S ++ (wP Y pp tx P ++ (wHi Y h sa u ++ (wX y r2 tr2 pp2 h2 sl2 ++ (wR Y r2 q2 T ++ (wP Y pp2 tx2 P2 ++ (wHi Y h2 sa2 uw ++ wt)))))))) (va_runS (As := [.int aa, .int 15]) (rest := []) ⟨hx, hb, hml, hown, hts⟩ (c_L_up l D Y s.heap.size aa 15 (by decide)) (va_cwS 2 hts gL_isStep_L_up rfl rfl rfl (by decide +kernel) ⟨Nat.le_of_ble_eq_true rfl, Nat.le_of_ble_eq_true rfl⟩) (psb_S (wr := wX x r tr pp h sl ++ (wR Y r q S ++ (wP Y pp tx P ++ (wHi Y h sa u ++ (wX y r2 tr2 pp2 h2 sl2 ++ (wR Y r2 q2 T ++ (wP Y pp2 tx2 P2 ++ (wHi Y h2 sa2 uw ++ wt)))))))) hK hP hD (List.Perm.refl _)) rfl rfl hl.1 rfl (lv_room (Nat.le_of_ble_eq_true rfl)) dL_isStep_8 ⟨Nat.le_of_ble_eq_true rfl, Nat.le_of_ble_eq_true rfl⟩) hP hD hS hA (List.Perm.refl _) (List.Perm.refl _) (fun H locs hP hD hS => ?_)
  refine W.widen (k := 0) (n := 0) (Nat.le_of_ble_eq_true rfl) (Nat.le_of_ble_eq_true rfl) ?_
  refine lv_topi (fun y9 e9 => ?_)
  obtain rfl : y9 = 4 := e9.trans (hup)
  refine lv_tableIn (off := 350) (tgt := 361) hx hb dL_isStep_11 (by decide) (by decide) (by rfl) (by decide) ?_
  refine lv_iload hx hb dL_isStep_361 (lv_at hl 0 rfl) ?_
  refine lv_bipush (v := 9) hx hb dL_isStep_363 (by decide) ?_
  refine cb_iD (wr := wX x r tr pp h sl ++ (wR Y r q S ++ (wP Y pp tx P ++ (wHi Y h sa u ++ (wX y r2 tr2 pp2 h2 sl2 ++ (wR Y r2 q2 T ++ (wP Y pp2 tx2 P2 ++ (wHi Y h2 sa2 uw ++ wt)))))))) (ws' := wX x r tr pp h sl ++ (wR Y r q S ++ (wP Y pp tx P ++ (wHi Y h sa u ++ (wX y r2 tr2 pp2 h2 sl2 ++ (wR Y r2 q2 T ++ (wP Y pp2 tx2 P2 ++ (wHi Y h2 sa2 uw ++ wt)))))))) (va_runS (As := [.int (aa >>> (4 &&& 31)), .int 9]) (rest := []) ⟨hx, hb, hml, hown, hts⟩ (c_L_up l D Y H.size (aa >>> (4 &&& 31)) 9 (by decide)) (va_cwS 2 hts gL_isStep_L_up rfl rfl rfl (by decide +kernel) ⟨Nat.le_of_ble_eq_true rfl, Nat.le_of_ble_eq_true rfl⟩) (psb_S (wr := wX x r tr pp h sl ++ (wR Y r q S ++ (wP Y pp tx P ++ (wHi Y h sa u ++ (wX y r2 tr2 pp2 h2 sl2 ++ (wR Y r2 q2 T ++ (wP Y pp2 tx2 P2 ++ (wHi Y h2 sa2 uw ++ wt)))))))) hK hP hD (List.Perm.refl _)) rfl rfl hl.1 rfl (lv_room (Nat.le_of_ble_eq_true rfl)) dL_isStep_365 ⟨Nat.le_of_ble_eq_true rfl, Nat.le_of_ble_eq_true rfl⟩) hP hD hS hA (List.Perm.refl _) (List.Perm.refl _) (fun H locs hP hD hS => ?_)
  refine W.widen (k := 0) (n := 0) (Nat.le_of_ble_eq_true rfl) (Nat.le_of_ble_eq_true rfl) ?_
  obtain ⟨j_365, hj_365, ej_365⟩ := up_eq (aa >>> (4 &&& 31)) (n := 9) (by decide) (by decide)
  refine lv_topi (fun y9 e9 => ?_)
  obtain rfl : y9 = nI j_365 := e9.trans (ej_365)
  refine lv_istore (lv' := [(5, .int (nI j_365)), (4, .int (aa >>> (4 &&& 31))), (0, .ref x), (1, .ref y), (2, .int aa), (3, .int bb)]) hx hb dL_isStep_368 hl (by decide) rfl (fun ls hl => ?_)
  refine lv_aload_n hx hb dL_isStep_370 rfl (lv_at hl 2 rfl) ?_
  refine lv_iload hx hb dL_isStep_371 (lv_at hl 0 rfl) ?_
  refine lv_iconst (v := 1) hx hb dL_isStep_373 (by decide) ?_
  refine cb_iD (wr := wP Y pp tx P ++ (wHi Y h sa u ++ (wX y r2 tr2 pp2 h2 sl2 ++ (wR Y r2 q2 T ++ (wP Y pp2 tx2 P2 ++ (wHi Y h2 sa2 uw ++ wt)))))) (ws' := wX x r tr pp h sl ++ (wR Y r q S ++ (wP Y pp tx P ++ (wHi Y h sa u ++ (wX y r2 tr2 pp2 h2 sl2 ++ (wR Y r2 q2 T ++ (wP Y pp2 tx2 P2 ++ (wHi Y h2 sa2 uw ++ wt)))))))) (va_runV (As := [.int (nI j_365), .int 1]) (rest := []) ⟨hx, hb, hml, hown, hts⟩ (c_X3_villager l D Y H.size r tr pp h sl q S x (nI j_365) 1) (cwV 2 hts gL_isStep_X3_villager rfl rfl rfl (by decide +kernel) ⟨Nat.le_of_ble_eq_true rfl, Nat.le_of_ble_eq_true rfl⟩) (psb_V (wr := wP Y pp tx P ++ (wHi Y h sa u ++ (wX y r2 tr2 pp2 h2 sl2 ++ (wR Y r2 q2 T ++ (wP Y pp2 tx2 P2 ++ (wHi Y h2 sa2 uw ++ wt)))))) hK hP hD (pl_cons (List.Perm.refl _) (List.Perm.refl _)) (q0 := 0) rfl rfl) rfl rfl hl.1 rfl (lv_room (Nat.le_of_ble_eq_true rfl)) dL_isStep_374 ⟨Nat.le_of_ble_eq_true rfl, Nat.le_of_ble_eq_true rfl⟩) hP hD hS hA (pl_cons (List.Perm.refl _) (List.Perm.refl _)) (pl_cons (List.Perm.refl _) (List.Perm.refl _)) (fun H locs hP hD hS => ?_)
  refine W.widen (k := 0) (n := 0) (Nat.le_of_ble_eq_true rfl) (Nat.le_of_ble_eq_true rfl) ?_
  refine lv_topi (fun y9 e9 => ?_)
  obtain rfl : y9 = S 1 j_365 := e9.trans (vi_1 S hj_365)
  refine lv_istore (lv' := [(6, .int (S 1 j_365)), (5, .int (nI j_365)), (4, .int (aa >>> (4 &&& 31))), (0, .ref x), (1, .ref y), (2, .int aa), (3, .int bb)]) hx hb dL_isStep_377 hl (by decide) rfl (fun ls hl => ?_)
  refine lv_iload_n hx hb dL_isStep_379 rfl (lv_at hl 6 rfl) ?_
  refine lv_bipush (v := 21) hx hb dL_isStep_380 (by decide) ?_
  refine cb_iD (wr := wX x r tr pp h sl ++ (wR Y r q S ++ (wP Y pp tx P ++ (wHi Y h sa u ++ (wX y r2 tr2 pp2 h2 sl2 ++ (wR Y r2 q2 T ++ (wP Y pp2 tx2 P2 ++ (wHi Y h2 sa2 uw ++ wt)))))))) (ws' := wX x r tr pp h sl ++ (wR Y r q S ++ (wP Y pp tx P ++ (wHi Y h sa u ++ (wX y r2 tr2 pp2 h2 sl2 ++ (wR Y r2 q2 T ++ (wP Y pp2 tx2 P2 ++ (wHi Y h2 sa2 uw ++ wt)))))))) (va_runS (As := [.int bb, .int 21]) (rest := []) ⟨hx, hb, hml, hown, hts⟩ (c_L_up l D Y H.size bb 21 (by decide)) (va_cwS 2 hts gL_isStep_L_up rfl rfl rfl (by decide +kernel) ⟨Nat.le_of_ble_eq_true rfl, Nat.le_of_ble_eq_true rfl⟩) (psb_S (wr := wX x r tr pp h sl ++ (wR Y r q S ++ (wP Y pp tx P ++ (wHi Y h sa u ++ (wX y r2 tr2 pp2 h2 sl2 ++ (wR Y r2 q2 T ++ (wP Y pp2 tx2 P2 ++ (wHi Y h2 sa2 uw ++ wt)))))))) hK hP hD (List.Perm.refl _)) rfl rfl hl.1 rfl (lv_room (Nat.le_of_ble_eq_true rfl)) dL_isStep_382 ⟨Nat.le_of_ble_eq_true rfl, Nat.le_of_ble_eq_true rfl⟩) hP hD hS hA (List.Perm.refl _) (List.Perm.refl _) (fun H locs hP hD hS => ?_)
  refine W.widen (k := 0) (n := 0) (Nat.le_of_ble_eq_true rfl) (Nat.le_of_ble_eq_true rfl) ?_
  obtain ⟨j_382, hj_382, ej_382⟩ := up_eq bb (n := 21) (by decide) (by decide)
  refine lv_topi (fun y9 e9 => ?_)
  obtain rfl : y9 = nI j_382 := e9.trans (ej_382)
  refine lv_istore (lv' := [(7, .int (nI j_382)), (6, .int (S 1 j_365)), (5, .int (nI j_365)), (4, .int (aa >>> (4 &&& 31))), (0, .ref x), (1, .ref y), (2, .int aa), (3, .int bb)]) hx hb dL_isStep_385 hl (by decide) rfl (fun ls hl => ?_)
  refine lv_aload_n hx hb dL_isStep_387 rfl (lv_at hl 4 rfl) ?_
  refine lv_iload hx hb dL_isStep_388 (lv_at hl 2 rfl) ?_
  refine lv_iload hx hb dL_isStep_390 (lv_at hl 0 rfl) ?_
  refine cb_iD (wr := wP Y pp tx P ++ (wX y r2 tr2 pp2 h2 sl2 ++ (wR Y r2 q2 T ++ (wP Y pp2 tx2 P2 ++ (wHi Y h2 sa2 uw ++ wt))))) (ws' := wX x r tr pp h sl ++ (wR Y r q ((D_X3_feed u S (nI j_365) (nI j_382)).2.2) ++ (wP Y pp tx P ++ (wHi Y h sa ((D_X3_feed u S (nI j_365) (nI j_382)).2.1) ++ (wX y r2 tr2 pp2 h2 sl2 ++ (wR Y r2 q2 T ++ (wP Y pp2 tx2 P2 ++ (wHi Y h2 sa2 uw ++ wt)))))))) (va_runV (As := [.int (nI j_365), .int (nI j_382)]) (rest := []) ⟨hx, hb, hml, hown, hts⟩ (c_X3_feed l D Y H.size r tr pp h sl sa q u S x (nI j_365) (nI j_382) hH.2.1) (cwV 2 hts gL_isStep_X3_feed rfl rfl rfl (by decide +kernel) ⟨Nat.le_of_ble_eq_true rfl, Nat.le_of_ble_eq_true rfl⟩) (psb_V (wr := wP Y pp tx P ++ (wX y r2 tr2 pp2 h2 sl2 ++ (wR Y r2 q2 T ++ (wP Y pp2 tx2 P2 ++ (wHi Y h2 sa2 uw ++ wt))))) hK hP hD (pl_cons (List.Perm.refl _) (pl_cons (pl_up (pl_up (List.Perm.refl _))) (List.Perm.refl _))) (q0 := 0) rfl rfl) rfl rfl hl.1 rfl (lv_room (Nat.le_of_ble_eq_true rfl)) dL_isStep_392 ⟨Nat.le_of_ble_eq_true rfl, Nat.le_of_ble_eq_true rfl⟩) hP hD hS hA (pl_cons (List.Perm.refl _) (pl_cons (pl_up (pl_up (List.Perm.refl _))) (List.Perm.refl _))) (pl_cons (List.Perm.refl _) (pl_cons (pl_up (pl_up (List.Perm.refl _))) (List.Perm.refl _))) (fun H locs hP hD hS => ?_)
  refine W.widen (k := 0) (n := 0) (Nat.le_of_ble_eq_true rfl) (Nat.le_of_ble_eq_true rfl) ?_
  have e7 : (D_X3_feed u S (nI j_365) (nI j_382)).2.1 = D_X0_remember u S := by rw [feed_eq _ _ hj_365 (m21 hj_382)]
  rw [e7] at hP hD
  clear e7
  have e7 : (D_X3_feed u S (nI j_365) (nI j_382)).2.2 = s2 S 1 j_365 (nI j_382) := by rw [feed_eq _ _ hj_365 (m21 hj_382)]
  rw [e7] at hP hD
  clear e7
  refine lv_topi (fun y9 e9 => ?_)
  obtain rfl : y9 = S 1 j_365 := e9.trans (by rw [feed_eq _ _ hj_365 (m21 hj_382)])
  refine lv_iload hx hb dL_isStep_395 (lv_at hl 1 rfl) ?_
  refine lv_icmp_ne (tgt := 432) hx hb dL_isStep_397 (by decide) (fun c_1 => ?_) (fun c_1 => ?_)
  · exact absurd c_1 (fun q => q (rfl))
  · refine lv_aload_n hx hb dL_isStep_400 rfl (lv_at hl 5 rfl) ?_
    refine lv_iload hx hb dL_isStep_401 (lv_at hl 2 rfl) ?_
    refine cb_iD (wr := wX x r tr pp h sl ++ (wR Y r q (s2 S 1 j_365 (nI j_382)) ++ (wP Y pp tx P ++ (wHi Y h sa (D_X0_remember u S) ++ (wX y r2 tr2 pp2 h2 sl2 ++ (wR Y r2 q2 T ++ (wP Y pp2 tx2 P2 ++ (wHi Y h2 sa2 uw ++ wt)))))))) (ws' := wX x r tr pp h sl ++ (wR Y r q (s2 S 1 j_365 (nI j_382)) ++ (wP Y pp tx P ++ (wHi Y h sa (D_X0_remember u S) ++ (wX y r2 tr2 pp2 h2 sl2 ++ (wR Y r2 q2 T ++ (wP Y pp2 tx2 P2 ++ (wHi Y h2 sa2 uw ++ wt)))))))) (va_runS (As := [.int (nI j_365)]) (rest := [.ref y]) ⟨hx, hb, hml, hown, hts⟩ (c_L_there l D Y H.size (nI j_365)) (va_cwS 1 hts gL_isStep_L_there rfl rfl rfl (by decide +kernel) ⟨Nat.le_of_ble_eq_true rfl, Nat.le_of_ble_eq_true rfl⟩) (psb_S (wr := wX x r tr pp h sl ++ (wR Y r q (s2 S 1 j_365 (nI j_382)) ++ (wP Y pp tx P ++ (wHi Y h sa (D_X0_remember u S) ++ (wX y r2 tr2 pp2 h2 sl2 ++ (wR Y r2 q2 T ++ (wP Y pp2 tx2 P2 ++ (wHi Y h2 sa2 uw ++ wt)))))))) hK hP hD (List.Perm.refl _)) rfl rfl hl.1 rfl (lv_room (Nat.le_of_ble_eq_true rfl)) dL_isStep_403 ⟨Nat.le_of_ble_eq_true rfl, Nat.le_of_ble_eq_true rfl⟩) hP hD hS hA (List.Perm.refl _) (List.Perm.refl _) (fun H locs hP hD hS => ?_)
    refine W.widen (k := 0) (n := 0) (Nat.le_of_ble_eq_true rfl) (Nat.le_of_ble_eq_true rfl) ?_
    refine lv_topi (fun y9 e9 => ?_)
    obtain rfl : y9 = nI (dbl j_365) := e9.trans (there_eq _ hj_365)
    refine lv_iload hx hb dL_isStep_406 (lv_at hl 0 rfl) ?_
    refine cb_iD (wr := wX x r tr pp h sl ++ (wR Y r q (s2 S 1 j_365 (nI j_382)) ++ (wP Y pp tx P ++ (wHi Y h sa (D_X0_remember u S) ++ (wP Y pp2 tx2 P2 ++ wt))))) (ws' := wX x r tr pp h sl ++ (wR Y r q (s2 S 1 j_365 (nI j_382)) ++ (wP Y pp tx P ++ (wHi Y h sa (D_X0_remember u S) ++ (wX y r2 tr2 pp2 h2 sl2 ++ (wR Y r2 q2 ((D_X3_feed uw T (nI (dbl j_365)) (nI j_382)).2.2) ++ (wP Y pp2 tx2 P2 ++ (wHi Y h2 sa2 ((D_X3_feed uw T (nI (dbl j_365)) (nI j_382)).2.1) ++ wt)))))))) (va_runV (As := [.int (nI (dbl j_365)), .int (nI j_382)]) (rest := []) ⟨hx, hb, hml, hown, hts⟩ (c_X3_feed l D Y H.size r2 tr2 pp2 h2 sl2 sa2 q2 uw T y (nI (dbl j_365)) (nI j_382) hH.2.2.1) (cwV 2 hts gL_isStep_X3_feed rfl rfl rfl (by decide +kernel) ⟨Nat.le_of_ble_eq_true rfl, Nat.le_of_ble_eq_true rfl⟩) (psb_V (wr := wX x r tr pp h sl ++ (wR Y r q (s2 S 1 j_365 (nI j_382)) ++ (wP Y pp tx P ++ (wHi Y h sa (D_X0_remember u S) ++ (wP Y pp2 tx2 P2 ++ wt))))) hK hP hD (pl_cons (pl_up (pl_up (pl_up (pl_up (List.Perm.refl _))))) (pl_cons (pl_up (pl_up (pl_up (pl_up (pl_up (pl_up (List.Perm.refl _))))))) (pl_up (pl_up (pl_up (pl_up (List.Perm.refl _))))))) (q0 := 0) rfl rfl) rfl rfl hl.1 rfl (lv_room (Nat.le_of_ble_eq_true rfl)) dL_isStep_408 ⟨Nat.le_of_ble_eq_true rfl, Nat.le_of_ble_eq_true rfl⟩) hP hD hS hA (pl_cons (pl_up (pl_up (pl_up (pl_up (List.Perm.refl _))))) (pl_cons (pl_up (pl_up (pl_up (pl_up (pl_up (pl_up (List.Perm.refl _))))))) (pl_up (pl_up (pl_up (pl_up (List.Perm.refl _))))))) (pl_cons (pl_up (pl_up (pl_up (pl_up (List.Perm.refl _))))) (pl_cons (pl_up (pl_up (pl_up (pl_up (pl_up (pl_up (List.Perm.refl _))))))) (pl_up (pl_up (pl_up (pl_up (List.Perm.refl _))))))) (fun H locs hP hD hS => ?_)
    refine W.widen (k := 0) (n := 0) (Nat.le_of_ble_eq_true rfl) (Nat.le_of_ble_eq_true rfl) ?_
    have e7 : (D_X3_feed uw T (nI (dbl j_365)) (nI j_382)).2.1 = D_X0_remember uw T := by rw [feed_eq _ _ (dbl_lt _) (m21 hj_382)]
    rw [e7] at hP hD
    clear e7
    have e7 : (D_X3_feed uw T (nI (dbl j_365)) (nI j_382)).2.2 = s2 T 1 (dbl j_365) (nI j_382) := by rw [feed_eq _ _ (dbl_lt _) (m21 hj_382)]
    rw [e7] at hP hD
    clear e7
    refine lv_topi (fun y9 e9 => ?_)
    obtain rfl : y9 = S 1 j_365 := e9.trans (by rw [feed_eq _ _ (dbl_lt _) (m21 hj_382)]; exact hB.2.2.2.2.2.1 1 (by decide) (by decide) _ hj_365)
    refine lv_iload hx hb dL_isStep_411 (lv_at hl 1 rfl) ?_
    refine lv_icmp_ne (tgt := 432) hx hb dL_isStep_413 (by decide) (fun c_2 => ?_) (fun c_2 => ?_)
    · exact absurd c_2 (fun q => q (c_1))
    · refine lv_aload_n hx hb dL_isStep_416 rfl (lv_at hl 4 rfl) ?_
      refine lv_iload hx hb dL_isStep_417 (lv_at hl 2 rfl) ?_
      refine lv_iconst (v := 1) hx hb dL_isStep_419 (by decide) ?_
      refine cb_iD (wr := wP Y pp tx P ++ (wHi Y h sa (D_X0_remember u S) ++ (wX y r2 tr2 pp2 h2 sl2 ++ (wR Y r2 q2 (s2 T 1 (dbl j_365) (nI j_382)) ++ (wP Y pp2 tx2 P2 ++ (wHi Y h2 sa2 (D_X0_remember uw T) ++ wt)))))) (ws' := wX x r tr pp h sl ++ (wR Y r q (s2 S 1 j_365 (nI j_382)) ++ (wP Y pp tx P ++ (wHi Y h sa (D_X0_remember u S) ++ (wX y r2 tr2 pp2 h2 sl2 ++ (wR Y r2 q2 (s2 T 1 (dbl j_365) (nI j_382)) ++ (wP Y pp2 tx2 P2 ++ (wHi Y h2 sa2 (D_X0_remember uw T) ++ wt)))))))) (va_runV (As := [.int (nI j_365), .int 1]) (rest := []) ⟨hx, hb, hml, hown, hts⟩ (c_X3_villager l D Y H.size r tr pp h sl q (s2 S 1 j_365 (nI j_382)) x (nI j_365) 1) (cwV 2 hts gL_isStep_X3_villager rfl rfl rfl (by decide +kernel) ⟨Nat.le_of_ble_eq_true rfl, Nat.le_of_ble_eq_true rfl⟩) (psb_V (wr := wP Y pp tx P ++ (wHi Y h sa (D_X0_remember u S) ++ (wX y r2 tr2 pp2 h2 sl2 ++ (wR Y r2 q2 (s2 T 1 (dbl j_365) (nI j_382)) ++ (wP Y pp2 tx2 P2 ++ (wHi Y h2 sa2 (D_X0_remember uw T) ++ wt)))))) hK hP hD (pl_cons (List.Perm.refl _) (List.Perm.refl _)) (q0 := 0) rfl rfl) rfl rfl hl.1 rfl (lv_room (Nat.le_of_ble_eq_true rfl)) dL_isStep_420 ⟨Nat.le_of_ble_eq_true rfl, Nat.le_of_ble_eq_true rfl⟩) hP hD hS hA (pl_cons (List.Perm.refl _) (List.Perm.refl _)) (pl_cons (List.Perm.refl _) (List.Perm.refl _)) (fun H locs hP hD hS => ?_)
      refine W.widen (k := 0) (n := 0) (Nat.le_of_ble_eq_true rfl) (Nat.le_of_ble_eq_true rfl) ?_
      refine lv_topi (fun y9 e9 => ?_)
      obtain rfl : y9 = nI j_382 := e9.trans ((vi_1 _ hj_365).trans s2_at)
      refine lv_iload hx hb dL_isStep_423 (lv_at hl 0 rfl) ?_
      refine lv_icmp_ne (tgt := 432) hx hb dL_isStep_425 (by decide) (fun c_3 => ?_) (fun c_3 => ?_)
      · exact absurd c_3 (fun q => q (rfl))
      · refine lv_iconst (v := 1) hx hb dL_isStep_428 (by decide) ?_
        refine lv_goto (tgt := 433) hx hb dL_isStep_429 (by decide) ?_
        exact ret_z hx hb hr rfl hlk hP hD hS dL_isStep_433 ⟨Nat.le_of_ble_eq_true rfl, Nat.le_of_ble_eq_true rfl⟩ ⟨rfl, (s2 S 1 j_365 (nI j_382)), (s2 T 1 (dbl j_365) (nI j_382)), (D_X0_remember u S), (D_X0_remember uw T), P2, hB.feed hj_365 (m21 hj_382), (hH.remember hB).up (Nat.le_succ n), hp2, rfl⟩

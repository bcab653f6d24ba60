set_option maxHeartbeats 4000000 in
set_option maxRecDepth 100000 in
theorem c_L_isStep_3 (l : Launch) (D : va_G) (Y : YY) (sz : Nat) (r : Nat) (tr : Nat) (pp : Nat) (h : Nat) (sl : Nat) (q : Nat → Nat) (tx : Nat) (sa : Nat) (r2 : Nat) (tr2 : Nat) (pp2 : Nat) (h2 : Nat) (sl2 : Nat) (q2 : Nat → Nat) (tx2 : Nat) (sa2 : Nat) (S : Nat → Nat → Int32) (P : Nat → Nat → Int32) (u : HS) (T : Nat → Nat → Int32) (P2 : Nat → Nat → Int32) (uw : HS) (n : Nat) (wt : va_W) (x : Nat) (y : Nat) (aa : Int32) (bb : Int32) (hB : Both n S T) (hH : HB n u uw) (hn : n ≤ 60) (hp2 : P2 1 0 = 0) (hup : D_L_up aa 15 = 3) : Met l yL_isStep wsL_isStep ({ frames := 7, cells := 22, slots := 626, locals := 227 } : Room) (va_Pc [.ref x, .ref y, .int aa, .int bb] (Pst D Y sz (wX x r tr pp h sl ++ (wR Y r q S ++ (wP Y pp tx P ++ (wHi Y h sa u ++ (wX y r2 tr2 pp2 h2 sl2 ++ (wR Y r2 q2 T ++ (wP Y pp2 tx2 P2 ++ (wHi Y h2 sa2 uw ++ wt)))))))))) ((fun A : Nat → Prop => Qsi D (fun r9 w9 => r9 = 1 ∧ ∃ (S9 T9 : Nat → Nat → Int32) (u9 v9 : HS) (P9 : Nat → Nat → Int32), Both (n + 1) S9 T9 ∧ HB (n + 1) u9 v9 ∧ P9 1 0 = 0 ∧ w9 = wX x r tr pp h sl ++ (wR Y r q S9 ++ (wP Y pp tx P ++ (wHi Y h sa u9 ++ (wX y r2 tr2 pp2 h2 sl2 ++ (wR Y r2 q2 T9 ++ (wP Y pp2 tx2 P9 ++ (wHi Y h2 sa2 v9 ++ wt)))))))) A) (va_A (wX x r tr pp h sl ++ (wR Y r q S ++ (wP Y pp tx P ++ (wHi Y h sa u ++ (wX y r2 tr2 pp2 h2 sl2 ++ (wR Y r2 q2 T ++ (wP Y pp2 tx2 P2 ++ (wHi Y h2 sa2 uw ++ wt)))))))) sz)) 22 626 (va_A (wX x r tr pp h sl ++ (wR Y r q S ++ (wP Y pp tx P ++ (wHi Y h sa u ++ (wX y r2 tr2 pp2 h2 sl2 ++ (wR Y r2 q2 T ++ (wP Y pp2 tx2 P2 ++ (wHi Y h2 sa2 uw ++ wt)))))))) sz) := by
  refine ct_in (cc := cL_isStep) (maxL := 9) (ret := (some .boolean)) (Qc := fun A : Nat → Prop => Qsi D (fun r9 w9 => r9 = 1 ∧ ∃ (S9 T9 : Nat → Nat → Int32) (u9 v9 : HS) (P9 : Nat → Nat → Int32), Both (n + 1) S9 T9 ∧ HB (n + 1) u9 v9 ∧ P9 1 0 = 0 ∧ w9 = wX x r tr pp h sl ++ (wR Y r q S9 ++ (wP Y pp tx P ++ (wHi Y h sa u9 ++ (wX y r2 tr2 pp2 h2 sl2 ++ (wR Y r2 q2 T9 ++ (wP Y pp2 tx2 P9 ++ (wHi Y h2 sa2 v9 ++ wt)))))))) A) (by decide +kernel) rfl (Nat.le_of_ble_eq_true rfl) ?_
  intro p e s m below meth c A ls hx hb hr hts hown hml hlk hin hsz hA hP hD hK hS hl
  have hown : s.vm.findClass RL = some m.cls := hown
  have hl : lv_has ls 9 [(0, .ref x), (1, .ref y), (2, .int aa), (3, .int bb)] := hl
  show W p l e ({ frames := 7, cells := 22, slots := 626, locals := 227 } : Room) s m ([.ref x, .ref y, .int aa, .int bb] : List Value).toArray below meth c s.heap [] 0 0 (MQ below (Qsi D (fun r9 w9 => r9 = 1 ∧ ∃ (S9 T9 : Nat → Nat → Int32) (u9 v9 : HS) (P9 : Nat → Nat → Int32), Both (n + 1) S9 T9 ∧ HB (n + 1) u9 v9 ∧ P9 1 0 = 0 ∧ w9 = wX x r tr pp h sl ++ (wR Y r q S9 ++ (wP Y pp tx P ++ (wHi Y h sa u9 ++ (wX y r2 tr2 pp2 h2 sl2 ++ (wR Y r2 q2 T9 ++ (wP Y pp2 tx2 P9 ++ (wHi Y h2 sa2 v9 ++ wt)))))))) A) ([.ref x, .ref y, .int aa, .int bb] : List Value).toArray s 22 626 A) (F0 m 0 ls [])
  refine lv_iload_n hx hb dL_isStep_0 rfl (lv_at hl 2 rfl) ?_
  refine lv_iconst (v := 4) hx hb dL_isStep_1 (by decide) ?_
  refine lv_ishr hx hb dL_isStep_2 ?_
  refine lv_istore (lv' := [(4, .int (aa >>> (4 &&& 31))), (0, .ref x), (1, .ref y), (2, .int aa), (3, .int bb)]) hx hb dL_isStep_3 hl (by decide) rfl (fun ls hl => ?_)
  refine lv_iload_n hx hb dL_isStep_5 rfl (lv_at hl 3 rfl) ?_
  refine lv_bipush (v := 15) hx hb dL_isStep_6 (by decide) ?_
  refine cb_iD (wr := wX x r tr pp h sl ++ (wR Y r q S ++ (wP Y pp tx P ++ (wHi Y h sa u ++ (wX y r2 tr2 pp2 h2 sl2 ++ (wR Y r2 q2 T ++ (wP Y pp2 tx2 P2 ++ (wHi Y h2 sa2 uw ++ wt)))))))) (ws' := wX x r tr pp h sl ++ (wR Y r q S ++ (wP Y pp tx P ++ (wHi Y h sa u ++ (wX y r2 tr2 pp2 h2 sl2 ++ (wR Y r2 q2 T ++ (wP Y pp2 tx2 P2 ++ (wHi Y h2 sa2 uw ++ wt)))))))) (va_runS (As := [.int aa, .int 15]) (rest := []) ⟨hx, hb, hml, hown, hts⟩ (c_L_up l D Y s.heap.size aa 15 (by decide)) (va_cwS 2 hts gL_isStep_L_up rfl rfl rfl (by decide +kernel) ⟨Nat.le_of_ble_eq_true rfl, Nat.le_of_ble_eq_true rfl⟩) (psb_S (wr := wX x r tr pp h sl ++ (wR Y r q S ++ (wP Y pp tx P ++ (wHi Y h sa u ++ (wX y r2 tr2 pp2 h2 sl2 ++ (wR Y r2 q2 T ++ (wP Y pp2 tx2 P2 ++ (wHi Y h2 sa2 uw ++ wt)))))))) hK hP hD (List.Perm.refl _)) rfl rfl hl.1 rfl (lv_room (Nat.le_of_ble_eq_true rfl)) dL_isStep_8 ⟨Nat.le_of_ble_eq_true rfl, Nat.le_of_ble_eq_true rfl⟩) hP hD hS hA (List.Perm.refl _) (List.Perm.refl _) (fun H locs hP hD hS => ?_)
  refine W.widen (k := 0) (n := 0) (Nat.le_of_ble_eq_true rfl) (Nat.le_of_ble_eq_true rfl) ?_
  obtain ⟨m_0, hm_0, em_0⟩ := hB.1.1
  obtain ⟨m_1, hm_1, em_1⟩ := hB.2.1.1
  refine lv_topi (fun y9 e9 => ?_)
  obtain rfl : y9 = 3 := e9.trans (hup)
  refine lv_tableIn (off := 232) (tgt := 243) hx hb dL_isStep_11 (by decide) (by decide) (by rfl) (by decide) ?_
  refine lv_iload hx hb dL_isStep_243 (lv_at hl 0 rfl) ?_
  refine lv_bipush (v := 9) hx hb dL_isStep_245 (by decide) ?_
  refine cb_iD (wr := wX x r tr pp h sl ++ (wR Y r q S ++ (wP Y pp tx P ++ (wHi Y h sa u ++ (wX y r2 tr2 pp2 h2 sl2 ++ (wR Y r2 q2 T ++ (wP Y pp2 tx2 P2 ++ (wHi Y h2 sa2 uw ++ wt)))))))) (ws' := wX x r tr pp h sl ++ (wR Y r q S ++ (wP Y pp tx P ++ (wHi Y h sa u ++ (wX y r2 tr2 pp2 h2 sl2 ++ (wR Y r2 q2 T ++ (wP Y pp2 tx2 P2 ++ (wHi Y h2 sa2 uw ++ wt)))))))) (va_runS (As := [.int (aa >>> (4 &&& 31)), .int 9]) (rest := []) ⟨hx, hb, hml, hown, hts⟩ (c_L_up l D Y H.size (aa >>> (4 &&& 31)) 9 (by decide)) (va_cwS 2 hts gL_isStep_L_up rfl rfl rfl (by decide +kernel) ⟨Nat.le_of_ble_eq_true rfl, Nat.le_of_ble_eq_true rfl⟩) (psb_S (wr := wX x r tr pp h sl ++ (wR Y r q S ++ (wP Y pp tx P ++ (wHi Y h sa u ++ (wX y r2 tr2 pp2 h2 sl2 ++ (wR Y r2 q2 T ++ (wP Y pp2 tx2 P2 ++ (wHi Y h2 sa2 uw ++ wt)))))))) hK hP hD (List.Perm.refl _)) rfl rfl hl.1 rfl (lv_room (Nat.le_of_ble_eq_true rfl)) dL_isStep_247 ⟨Nat.le_of_ble_eq_true rfl, Nat.le_of_ble_eq_true rfl⟩) hP hD hS hA (List.Perm.refl _) (List.Perm.refl _) (fun H locs hP hD hS => ?_)
  refine W.widen (k := 0) (n := 0) (Nat.le_of_ble_eq_true rfl) (Nat.le_of_ble_eq_true rfl) ?_
  obtain ⟨j_247, hj_247, ej_247⟩ := up_eq (aa >>> (4 &&& 31)) (n := 9) (by decide) (by decide)
  refine lv_topi (fun y9 e9 => ?_)
  obtain rfl : y9 = nI j_247 := e9.trans (ej_247)
  refine lv_istore (lv' := [(5, .int (nI j_247)), (4, .int (aa >>> (4 &&& 31))), (0, .ref x), (1, .ref y), (2, .int aa), (3, .int bb)]) hx hb dL_isStep_250 hl (by decide) rfl (fun ls hl => ?_)
  refine lv_iload_n hx hb dL_isStep_252 rfl (lv_at hl 5 rfl) ?_
  refine lv_iconst (v := 2) hx hb dL_isStep_253 (by decide) ?_
  refine cb_iD (wr := wX x r tr pp h sl ++ (wR Y r q S ++ (wP Y pp tx P ++ (wHi Y h sa u ++ (wX y r2 tr2 pp2 h2 sl2 ++ (wR Y r2 q2 T ++ (wP Y pp2 tx2 P2 ++ (wHi Y h2 sa2 uw ++ wt)))))))) (ws' := wX x r tr pp h sl ++ (wR Y r q S ++ (wP Y pp tx P ++ (wHi Y h sa u ++ (wX y r2 tr2 pp2 h2 sl2 ++ (wR Y r2 q2 T ++ (wP Y pp2 tx2 P2 ++ (wHi Y h2 sa2 uw ++ wt)))))))) (va_runS (As := [.int bb, .int 2]) (rest := []) ⟨hx, hb, hml, hown, hts⟩ (c_L_up l D Y H.size bb 2 (by decide)) (va_cwS 2 hts gL_isStep_L_up rfl rfl rfl (by decide +kernel) ⟨Nat.le_of_ble_eq_true rfl, Nat.le_of_ble_eq_true rfl⟩) (psb_S (wr := wX x r tr pp h sl ++ (wR Y r q S ++ (wP Y pp tx P ++ (wHi Y h sa u ++ (wX y r2 tr2 pp2 h2 sl2 ++ (wR Y r2 q2 T ++ (wP Y pp2 tx2 P2 ++ (wHi Y h2 sa2 uw ++ wt)))))))) hK hP hD (List.Perm.refl _)) rfl rfl hl.1 rfl (lv_room (Nat.le_of_ble_eq_true rfl)) dL_isStep_254 ⟨Nat.le_of_ble_eq_true rfl, Nat.le_of_ble_eq_true rfl⟩) hP hD hS hA (List.Perm.refl _) (List.Perm.refl _) (fun H locs hP hD hS => ?_)
  refine W.widen (k := 0) (n := 0) (Nat.le_of_ble_eq_true rfl) (Nat.le_of_ble_eq_true rfl) ?_
  obtain ⟨j_254, hj_254, ej_254⟩ := up_eq bb (n := 2) (by decide) (by decide)
  refine lv_topi (fun y9 e9 => ?_)
  obtain rfl : y9 = nI j_254 := e9.trans (ej_254)
  refine lv_if_ne (tgt := 264) hx hb dL_isStep_257 (by decide) (fun c_1 => ?_) (fun c_1 => ?_)
  · refine lv_iconst (v := 0) hx hb dL_isStep_264 (by decide) ?_
    refine lv_istore (lv' := [(6, .int 0), (5, .int (nI j_247)), (4, .int (aa >>> (4 &&& 31))), (0, .ref x), (1, .ref y), (2, .int aa), (3, .int bb)]) hx hb dL_isStep_265 hl (by decide) rfl (fun ls hl => ?_)
    refine lv_aload_n hx hb dL_isStep_267 rfl (lv_at hl 3 rfl) ?_
    refine lv_iload hx hb dL_isStep_268 (lv_at hl 1 rfl) ?_
    refine lv_iconst (v := 0) hx hb dL_isStep_270 (by decide) ?_
    refine cb_iD (wr := wP Y pp tx P ++ (wHi Y h sa u ++ (wX y r2 tr2 pp2 h2 sl2 ++ (wR Y r2 q2 T ++ (wP Y pp2 tx2 P2 ++ (wHi Y h2 sa2 uw ++ wt)))))) (ws' := wX x r tr pp h sl ++ (wR Y r q S ++ (wP Y pp tx P ++ (wHi Y h sa u ++ (wX y r2 tr2 pp2 h2 sl2 ++ (wR Y r2 q2 T ++ (wP Y pp2 tx2 P2 ++ (wHi Y h2 sa2 uw ++ wt)))))))) (va_runV (As := [.int (nI j_247), .int 0]) (rest := []) ⟨hx, hb, hml, hown, hts⟩ (c_X3_villager l D Y H.size r tr pp h sl q S x (nI j_247) 0) (cwV 2 hts gL_isStep_X3_villager rfl rfl rfl (by decide +kernel) ⟨Nat.le_of_ble_eq_true rfl, Nat.le_of_ble_eq_true rfl⟩) (psb_V (wr := wP Y pp tx P ++ (wHi Y h sa u ++ (wX y r2 tr2 pp2 h2 sl2 ++ (wR Y r2 q2 T ++ (wP Y pp2 tx2 P2 ++ (wHi Y h2 sa2 uw ++ wt)))))) hK hP hD (pl_cons (List.Perm.refl _) (List.Perm.refl _)) (q0 := 0) rfl rfl) rfl rfl hl.1 rfl (lv_room (Nat.le_of_ble_eq_true rfl)) dL_isStep_271 ⟨Nat.le_of_ble_eq_true rfl, Nat.le_of_ble_eq_true rfl⟩) hP hD hS hA (pl_cons (List.Perm.refl _) (List.Perm.refl _)) (pl_cons (List.Perm.refl _) (List.Perm.refl _)) (fun H locs hP hD hS => ?_)
    refine W.widen (k := 0) (n := 0) (Nat.le_of_ble_eq_true rfl) (Nat.le_of_ble_eq_true rfl) ?_
    refine lv_topi (fun y9 e9 => ?_)
    obtain rfl : y9 = nI (bt m_0 j_247) := e9.trans (vi_b hm_0 em_0 hj_247)
    refine lv_if_ne (tgt := 281) hx hb dL_isStep_274 (by decide) (fun c_2 => ?_) (fun c_2 => ?_)
    · refine lv_iconst (v := 0) hx hb dL_isStep_281 (by decide) ?_
      refine lv_istore (lv' := [(7, .int 0), (6, .int 0), (5, .int (nI j_247)), (4, .int (aa >>> (4 &&& 31))), (0, .ref x), (1, .ref y), (2, .int aa), (3, .int bb)]) hx hb dL_isStep_282 hl (by decide) rfl (fun ls hl => ?_)
      refine lv_aload_n hx hb dL_isStep_284 rfl (lv_at hl 4 rfl) ?_
      refine lv_iload hx hb dL_isStep_285 (lv_at hl 2 rfl) ?_
      refine lv_iload hx hb dL_isStep_287 (lv_at hl 1 rfl) ?_
      refine cb_iD (wr := wP Y pp tx P ++ (wX y r2 tr2 pp2 h2 sl2 ++ (wR Y r2 q2 T ++ (wP Y pp2 tx2 P2 ++ (wHi Y h2 sa2 uw ++ wt))))) (ws' := wX x r tr pp h sl ++ (wR Y r q ((D_X3_away u S (nI j_247) 0).2.2) ++ (wP Y pp tx P ++ (wHi Y h sa ((D_X3_away u S (nI j_247) 0).2.1) ++ (wX y r2 tr2 pp2 h2 sl2 ++ (wR Y r2 q2 T ++ (wP Y pp2 tx2 P2 ++ (wHi Y h2 sa2 uw ++ wt)))))))) (va_runV (As := [.int (nI j_247), .int 0]) (rest := []) ⟨hx, hb, hml, hown, hts⟩ (c_X3_away l D Y H.size r tr pp h sl sa q u S x (nI j_247) 0 hH.2.1) (cwV 2 hts gL_isStep_X3_away rfl rfl rfl (by decide +kernel) ⟨Nat.le_of_ble_eq_true rfl, Nat.le_of_ble_eq_true rfl⟩) (psb_V (wr := wP Y pp tx P ++ (wX y r2 tr2 pp2 h2 sl2 ++ (wR Y r2 q2 T ++ (wP Y pp2 tx2 P2 ++ (wHi Y h2 sa2 uw ++ wt))))) hK hP hD (pl_cons (List.Perm.refl _) (pl_cons (pl_up (pl_up (List.Perm.refl _))) (List.Perm.refl _))) (q0 := 0) rfl rfl) rfl rfl hl.1 rfl (lv_room (Nat.le_of_ble_eq_true rfl)) dL_isStep_289 ⟨Nat.le_of_ble_eq_true rfl, Nat.le_of_ble_eq_true rfl⟩) hP hD hS hA (pl_cons (List.Perm.refl _) (pl_cons (pl_up (pl_up (List.Perm.refl _))) (List.Perm.refl _))) (pl_cons (List.Perm.refl _) (pl_cons (pl_up (pl_up (List.Perm.refl _))) (List.Perm.refl _))) (fun H locs hP hD hS => ?_)
      refine W.widen (k := 0) (n := 0) (Nat.le_of_ble_eq_true rfl) (Nat.le_of_ble_eq_true rfl) ?_
      have e7 : (D_X3_away u S (nI j_247) 0).2.1 = u := congrArg (fun z => z.2.1) (aw_n u S hm_0 em_0 hj_247 (al := 0) (by decide) (by rw [(b_1 c_2)]; decide))
      rw [e7] at hP hD
      clear e7
      have e7 : (D_X3_away u S (nI j_247) 0).2.2 = S := congrArg (fun z => z.2.2) (aw_n u S hm_0 em_0 hj_247 (al := 0) (by decide) (by rw [(b_1 c_2)]; decide))
      rw [e7] at hP hD
      clear e7
      refine lv_topi (fun y9 e9 => ?_)
      obtain rfl : y9 = (-1000005) := e9.trans (congrArg (fun z => z.1) (aw_n u S hm_0 em_0 hj_247 (al := 0) (by decide) (by rw [(b_1 c_2)]; decide)))
      refine lv_istore (lv' := [(8, .int (-1000005)), (7, .int 0), (6, .int 0), (5, .int (nI j_247)), (4, .int (aa >>> (4 &&& 31))), (0, .ref x), (1, .ref y), (2, .int aa), (3, .int bb)]) hx hb dL_isStep_292 hl (by decide) rfl (fun ls hl => ?_)
      refine lv_iload hx hb dL_isStep_294 (lv_at hl 0 rfl) ?_
      refine lv_aload_n hx hb dL_isStep_296 rfl (lv_at hl 6 rfl) ?_
      refine lv_iload hx hb dL_isStep_297 (lv_at hl 3 rfl) ?_
      refine cb_iD (wr := wX x r tr pp h sl ++ (wR Y r q S ++ (wP Y pp tx P ++ (wHi Y h sa u ++ (wX y r2 tr2 pp2 h2 sl2 ++ (wR Y r2 q2 T ++ (wP Y pp2 tx2 P2 ++ (wHi Y h2 sa2 uw ++ wt)))))))) (ws' := wX x r tr pp h sl ++ (wR Y r q S ++ (wP Y pp tx P ++ (wHi Y h sa u ++ (wX y r2 tr2 pp2 h2 sl2 ++ (wR Y r2 q2 T ++ (wP Y pp2 tx2 P2 ++ (wHi Y h2 sa2 uw ++ wt)))))))) (va_runS (As := [.int (nI j_247)]) (rest := [.ref y, .int (-1000005)]) ⟨hx, hb, hml, hown, hts⟩ (c_L_there l D Y H.size (nI j_247)) (va_cwS 1 hts gL_isStep_L_there rfl rfl rfl (by decide +kernel) ⟨Nat.le_of_ble_eq_true rfl, Nat.le_of_ble_eq_true rfl⟩) (psb_S (wr := wX x r tr pp h sl ++ (wR Y r q S ++ (wP Y pp tx P ++ (wHi Y h sa u ++ (wX y r2 tr2 pp2 h2 sl2 ++ (wR Y r2 q2 T ++ (wP Y pp2 tx2 P2 ++ (wHi Y h2 sa2 uw ++ wt)))))))) hK hP hD (List.Perm.refl _)) rfl rfl hl.1 rfl (lv_room (Nat.le_of_ble_eq_true rfl)) dL_isStep_299 ⟨Nat.le_of_ble_eq_true rfl, Nat.le_of_ble_eq_true rfl⟩) hP hD hS hA (List.Perm.refl _) (List.Perm.refl _) (fun H locs hP hD hS => ?_)
      refine W.widen (k := 0) (n := 0) (Nat.le_of_ble_eq_true rfl) (Nat.le_of_ble_eq_true rfl) ?_
      refine lv_topi (fun y9 e9 => ?_)
      obtain rfl : y9 = nI (dbl j_247) := e9.trans (there_eq _ hj_247)
      refine lv_iload hx hb dL_isStep_302 (lv_at hl 2 rfl) ?_
      refine cb_iD (wr := wX x r tr pp h sl ++ (wR Y r q S ++ (wP Y pp tx P ++ (wHi Y h sa u ++ (wP Y pp2 tx2 P2 ++ wt))))) (ws' := wX x r tr pp h sl ++ (wR Y r q S ++ (wP Y pp tx P ++ (wHi Y h sa u ++ (wX y r2 tr2 pp2 h2 sl2 ++ (wR Y r2 q2 ((D_X3_away uw T (nI (dbl j_247)) 0).2.2) ++ (wP Y pp2 tx2 P2 ++ (wHi Y h2 sa2 ((D_X3_away uw T (nI (dbl j_247)) 0).2.1) ++ wt)))))))) (va_runV (As := [.int (nI (dbl j_247)), .int 0]) (rest := [.int (-1000005)]) ⟨hx, hb, hml, hown, hts⟩ (c_X3_away l D Y H.size r2 tr2 pp2 h2 sl2 sa2 q2 uw T y (nI (dbl j_247)) 0 hH.2.2.1) (cwV 2 hts gL_isStep_X3_away rfl rfl rfl (by decide +kernel) ⟨Nat.le_of_ble_eq_true rfl, Nat.le_of_ble_eq_true rfl⟩) (psb_V (wr := wX x r tr pp h sl ++ (wR Y r q S ++ (wP Y pp tx P ++ (wHi Y h sa u ++ (wP Y pp2 tx2 P2 ++ wt))))) hK hP hD (pl_cons (pl_up (pl_up (pl_up (pl_up (List.Perm.refl _))))) (pl_cons (pl_up (pl_up (pl_up (pl_up (pl_up (pl_up (List.Perm.refl _))))))) (pl_up (pl_up (pl_up (pl_up (List.Perm.refl _))))))) (q0 := 0) rfl rfl) rfl rfl hl.1 rfl (lv_room (Nat.le_of_ble_eq_true rfl)) dL_isStep_304 ⟨Nat.le_of_ble_eq_true rfl, Nat.le_of_ble_eq_true rfl⟩) hP hD hS hA (pl_cons (pl_up (pl_up (pl_up (pl_up (List.Perm.refl _))))) (pl_cons (pl_up (pl_up (pl_up (pl_up (pl_up (pl_up (List.Perm.refl _))))))) (pl_up (pl_up (pl_up (pl_up (List.Perm.refl _))))))) (pl_cons (pl_up (pl_up (pl_up (pl_up (List.Perm.refl _))))) (pl_cons (pl_up (pl_up (pl_up (pl_up (pl_up (pl_up (List.Perm.refl _))))))) (pl_up (pl_up (pl_up (pl_up (List.Perm.refl _))))))) (fun H locs hP hD hS => ?_)
      refine W.widen (k := 0) (n := 0) (Nat.le_of_ble_eq_true rfl) (Nat.le_of_ble_eq_true rfl) ?_
      have e7 : (D_X3_away uw T (nI (dbl j_247)) 0).2.1 = uw := congrArg (fun z => z.2.1) (aw_n uw T hm_1 em_1 (dbl_lt j_247) (al := 0) (by decide) (by rw [((bt_rel hB.2.2 hm_0 em_0 hm_1 em_1 hj_247).trans (b_1 c_2))]; decide))
      rw [e7] at hP hD
      clear e7
      have e7 : (D_X3_away uw T (nI (dbl j_247)) 0).2.2 = T := congrArg (fun z => z.2.2) (aw_n uw T hm_1 em_1 (dbl_lt j_247) (al := 0) (by decide) (by rw [((bt_rel hB.2.2 hm_0 em_0 hm_1 em_1 hj_247).trans (b_1 c_2))]; decide))
      rw [e7] at hP hD
      clear e7
      refine lv_topi (fun y9 e9 => ?_)
      obtain rfl : y9 = (-1000005) := e9.trans (congrArg (fun z => z.1) (aw_n uw T hm_1 em_1 (dbl_lt j_247) (al := 0) (by decide) (by rw [((bt_rel hB.2.2 hm_0 em_0 hm_1 em_1 hj_247).trans (b_1 c_2))]; decide)))
      refine lv_icmp_ne (tgt := 359) hx hb dL_isStep_307 (by decide) (fun c_3 => ?_) (fun c_3 => ?_)
      · exact absurd c_3 (by decide)
      · refine lv_iload hx hb dL_isStep_310 (lv_at hl 0 rfl) ?_
        refine lv_iload hx hb dL_isStep_312 (lv_at hl 1 rfl) ?_
        refine lv_iload hx hb dL_isStep_314 (lv_at hl 2 rfl) ?_
        refine lv_icmp_ne (tgt := 324) hx hb dL_isStep_316 (by decide) (fun c_4 => ?_) (fun c_4 => ?_)
        · exact absurd c_4 (by decide)
        · refine lv_ldc (v := (-1000005)) hx hb hown (hts (.constant RL 45 (-1000005)) (by decide +kernel)) dL_isStep_319 ?_
          refine lv_goto (tgt := 332) hx hb dL_isStep_321 (by decide) ?_
          refine lv_icmp_ne (tgt := 359) hx hb dL_isStep_332 (by decide) (fun c_5 => ?_) (fun c_5 => ?_)
          · exact absurd c_5 (by decide)
          · refine lv_aload_n hx hb dL_isStep_335 rfl (lv_at hl 5 rfl) ?_
            refine lv_iload hx hb dL_isStep_336 (lv_at hl 3 rfl) ?_
            refine lv_iconst (v := 0) hx hb dL_isStep_338 (by decide) ?_
            refine cb_iD (wr := wP Y pp tx P ++ (wHi Y h sa u ++ (wX y r2 tr2 pp2 h2 sl2 ++ (wR Y r2 q2 T ++ (wP Y pp2 tx2 P2 ++ (wHi Y h2 sa2 uw ++ wt)))))) (ws' := wX x r tr pp h sl ++ (wR Y r q S ++ (wP Y pp tx P ++ (wHi Y h sa u ++ (wX y r2 tr2 pp2 h2 sl2 ++ (wR Y r2 q2 T ++ (wP Y pp2 tx2 P2 ++ (wHi Y h2 sa2 uw ++ wt)))))))) (va_runV (As := [.int (nI j_247), .int 0]) (rest := []) ⟨hx, hb, hml, hown, hts⟩ (c_X3_villager l D Y H.size r tr pp h sl q S x (nI j_247) 0) (cwV 2 hts gL_isStep_X3_villager rfl rfl rfl (by decide +kernel) ⟨Nat.le_of_ble_eq_true rfl, Nat.le_of_ble_eq_true rfl⟩) (psb_V (wr := wP Y pp tx P ++ (wHi Y h sa u ++ (wX y r2 tr2 pp2 h2 sl2 ++ (wR Y r2 q2 T ++ (wP Y pp2 tx2 P2 ++ (wHi Y h2 sa2 uw ++ wt)))))) hK hP hD (pl_cons (List.Perm.refl _) (List.Perm.refl _)) (q0 := 0) rfl rfl) rfl rfl hl.1 rfl (lv_room (Nat.le_of_ble_eq_true rfl)) dL_isStep_339 ⟨Nat.le_of_ble_eq_true rfl, Nat.le_of_ble_eq_true rfl⟩) hP hD hS hA (pl_cons (List.Perm.refl _) (List.Perm.refl _)) (pl_cons (List.Perm.refl _) (List.Perm.refl _)) (fun H locs hP hD hS => ?_)
            refine W.widen (k := 0) (n := 0) (Nat.le_of_ble_eq_true rfl) (Nat.le_of_ble_eq_true rfl) ?_
            refine lv_topi (fun y9 e9 => ?_)
            obtain rfl : y9 = 1 := e9.trans ((vi_b hm_0 em_0 hj_247).trans (by rw [(b_1 c_2)]; rfl))
            refine lv_if_ne (tgt := 349) hx hb dL_isStep_342 (by decide) (fun c_6 => ?_) (fun c_6 => ?_)
            · refine lv_iconst (v := 0) hx hb dL_isStep_349 (by decide) ?_
              refine lv_iload hx hb dL_isStep_350 (lv_at hl 2 rfl) ?_
              refine lv_icmp_ne (tgt := 359) hx hb dL_isStep_352 (by decide) (fun c_7 => ?_) (fun c_7 => ?_)
              · exact absurd c_7 (by decide)
              · refine lv_iconst (v := 1) hx hb dL_isStep_355 (by decide) ?_
                refine lv_goto (tgt := 360) hx hb dL_isStep_356 (by decide) ?_
                exact ret_z hx hb hr rfl hlk hP hD hS dL_isStep_360 ⟨Nat.le_of_ble_eq_true rfl, Nat.le_of_ble_eq_true rfl⟩ ⟨rfl, S, T, u, uw, P2, hB.up (Nat.le_succ n), hH.up (Nat.le_succ n), hp2, rfl⟩
            · exact absurd c_6 (by decide)
    · refine lv_iconst (v := 1) hx hb dL_isStep_277 (by decide) ?_
      refine lv_goto (tgt := 282) hx hb dL_isStep_278 (by decide) ?_
      refine lv_istore (lv' := [(7, .int 1), (6, .int 0), (5, .int (nI j_247)), (4, .int (aa >>> (4 &&& 31))), (0, .ref x), (1, .ref y), (2, .int aa), (3, .int bb)]) hx hb dL_isStep_282 hl (by decide) rfl (fun ls hl => ?_)
      refine lv_aload_n hx hb dL_isStep_284 rfl (lv_at hl 4 rfl) ?_
      refine lv_iload hx hb dL_isStep_285 (lv_at hl 2 rfl) ?_
      refine lv_iload hx hb dL_isStep_287 (lv_at hl 1 rfl) ?_
      refine cb_iD (wr := wP Y pp tx P ++ (wX y r2 tr2 pp2 h2 sl2 ++ (wR Y r2 q2 T ++ (wP Y pp2 tx2 P2 ++ (wHi Y h2 sa2 uw ++ wt))))) (ws' := wX x r tr pp h sl ++ (wR Y r q ((D_X3_away u S (nI j_247) 0).2.2) ++ (wP Y pp tx P ++ (wHi Y h sa ((D_X3_away u S (nI j_247) 0).2.1) ++ (wX y r2 tr2 pp2 h2 sl2 ++ (wR Y r2 q2 T ++ (wP Y pp2 tx2 P2 ++ (wHi Y h2 sa2 uw ++ wt)))))))) (va_runV (As := [.int (nI j_247), .int 0]) (rest := []) ⟨hx, hb, hml, hown, hts⟩ (c_X3_away l D Y H.size r tr pp h sl sa q u S x (nI j_247) 0 hH.2.1) (cwV 2 hts gL_isStep_X3_away rfl rfl rfl (by decide +kernel) ⟨Nat.le_of_ble_eq_true rfl, Nat.le_of_ble_eq_true rfl⟩) (psb_V (wr := wP Y pp tx P ++ (wX y r2 tr2 pp2 h2 sl2 ++ (wR Y r2 q2 T ++ (wP Y pp2 tx2 P2 ++ (wHi Y h2 sa2 uw ++ wt))))) hK hP hD (pl_cons (List.Perm.refl _) (pl_cons (pl_up (pl_up (List.Perm.refl _))) (List.Perm.refl _))) (q0 := 0) rfl rfl) rfl rfl hl.1 rfl (lv_room (Nat.le_of_ble_eq_true rfl)) dL_isStep_289 ⟨Nat.le_of_ble_eq_true rfl, Nat.le_of_ble_eq_true rfl⟩) hP hD hS hA (pl_cons (List.Perm.refl _) (pl_cons (pl_up (pl_up (List.Perm.refl _))) (List.Perm.refl _))) (pl_cons (List.Perm.refl _) (pl_cons (pl_up (pl_up (List.Perm.refl _))) (List.Perm.refl _))) (fun H locs hP hD hS => ?_)
      refine W.widen (k := 0) (n := 0) (Nat.le_of_ble_eq_true rfl) (Nat.le_of_ble_eq_true rfl) ?_
      have e7 : (D_X3_away u S (nI j_247) 0).2.1 = D_X0_remember u S := congrArg (fun z => z.2.1) (aw_y u S hm_0 em_0 hj_247 (al := 0) (by decide) (b_0 c_2))
      rw [e7] at hP hD
      clear e7
      have e7 : (D_X3_away u S (nI j_247) 0).2.2 = s2 S 10 0 (nI (m_0 ^^^ 2 ^ j_247)) := congrArg (fun z => z.2.2) (aw_y u S hm_0 em_0 hj_247 (al := 0) (by decide) (b_0 c_2))
      rw [e7] at hP hD
      clear e7
      refine lv_topi (fun y9 e9 => ?_)
      obtain rfl : y9 = nI (bsum (m_0 ^^^ 2 ^ j_247)) := e9.trans (congrArg (fun z => z.1) (aw_y u S hm_0 em_0 hj_247 (al := 0) (by decide) (b_0 c_2)))
      refine lv_istore (lv' := [(8, .int (nI (bsum (m_0 ^^^ 2 ^ j_247)))), (7, .int 1), (6, .int 0), (5, .int (nI j_247)), (4, .int (aa >>> (4 &&& 31))), (0, .ref x), (1, .ref y), (2, .int aa), (3, .int bb)]) hx hb dL_isStep_292 hl (by decide) rfl (fun ls hl => ?_)
      refine lv_iload hx hb dL_isStep_294 (lv_at hl 0 rfl) ?_
      refine lv_aload_n hx hb dL_isStep_296 rfl (lv_at hl 6 rfl) ?_
      refine lv_iload hx hb dL_isStep_297 (lv_at hl 3 rfl) ?_
      refine cb_iD (wr := wX x r tr pp h sl ++ (wR Y r q (s2 S 10 0 (nI (m_0 ^^^ 2 ^ j_247))) ++ (wP Y pp tx P ++ (wHi Y h sa (D_X0_remember u S) ++ (wX y r2 tr2 pp2 h2 sl2 ++ (wR Y r2 q2 T ++ (wP Y pp2 tx2 P2 ++ (wHi Y h2 sa2 uw ++ wt)))))))) (ws' := wX x r tr pp h sl ++ (wR Y r q (s2 S 10 0 (nI (m_0 ^^^ 2 ^ j_247))) ++ (wP Y pp tx P ++ (wHi Y h sa (D_X0_remember u S) ++ (wX y r2 tr2 pp2 h2 sl2 ++ (wR Y r2 q2 T ++ (wP Y pp2 tx2 P2 ++ (wHi Y h2 sa2 uw ++ wt)))))))) (va_runS (As := [.int (nI j_247)]) (rest := [.ref y, .int (nI (bsum (m_0 ^^^ 2 ^ j_247)))]) ⟨hx, hb, hml, hown, hts⟩ (c_L_there l D Y H.size (nI j_247)) (va_cwS 1 hts gL_isStep_L_there rfl rfl rfl (by decide +kernel) ⟨Nat.le_of_ble_eq_true rfl, Nat.le_of_ble_eq_true rfl⟩) (psb_S (wr := wX x r tr pp h sl ++ (wR Y r q (s2 S 10 0 (nI (m_0 ^^^ 2 ^ j_247))) ++ (wP Y pp tx P ++ (wHi Y h sa (D_X0_remember u S) ++ (wX y r2 tr2 pp2 h2 sl2 ++ (wR Y r2 q2 T ++ (wP Y pp2 tx2 P2 ++ (wHi Y h2 sa2 uw ++ wt)))))))) hK hP hD (List.Perm.refl _)) rfl rfl hl.1 rfl (lv_room (Nat.le_of_ble_eq_true rfl)) dL_isStep_299 ⟨Nat.le_of_ble_eq_true rfl, Nat.le_of_ble_eq_true rfl⟩) hP hD hS hA (List.Perm.refl _) (List.Perm.refl _) (fun H locs hP hD hS => ?_)
      refine W.widen (k := 0) (n := 0) (Nat.le_of_ble_eq_true rfl) (Nat.le_of_ble_eq_true rfl) ?_
      refine lv_topi (fun y9 e9 => ?_)
      obtain rfl : y9 = nI (dbl j_247) := e9.trans (there_eq _ hj_247)
      refine lv_iload hx hb dL_isStep_302 (lv_at hl 2 rfl) ?_
      refine cb_iD (wr := wX x r tr pp h sl ++ (wR Y r q (s2 S 10 0 (nI (m_0 ^^^ 2 ^ j_247))) ++ (wP Y pp tx P ++ (wHi Y h sa (D_X0_remember u S) ++ (wP Y pp2 tx2 P2 ++ wt))))) (ws' := wX x r tr pp h sl ++ (wR Y r q (s2 S 10 0 (nI (m_0 ^^^ 2 ^ j_247))) ++ (wP Y pp tx P ++ (wHi Y h sa (D_X0_remember u S) ++ (wX y r2 tr2 pp2 h2 sl2 ++ (wR Y r2 q2 ((D_X3_away uw T (nI (dbl j_247)) 0).2.2) ++ (wP Y pp2 tx2 P2 ++ (wHi Y h2 sa2 ((D_X3_away uw T (nI (dbl j_247)) 0).2.1) ++ wt)))))))) (va_runV (As := [.int (nI (dbl j_247)), .int 0]) (rest := [.int (nI (bsum (m_0 ^^^ 2 ^ j_247)))]) ⟨hx, hb, hml, hown, hts⟩ (c_X3_away l D Y H.size r2 tr2 pp2 h2 sl2 sa2 q2 uw T y (nI (dbl j_247)) 0 hH.2.2.1) (cwV 2 hts gL_isStep_X3_away rfl rfl rfl (by decide +kernel) ⟨Nat.le_of_ble_eq_true rfl, Nat.le_of_ble_eq_true rfl⟩) (psb_V (wr := wX x r tr pp h sl ++ (wR Y r q (s2 S 10 0 (nI (m_0 ^^^ 2 ^ j_247))) ++ (wP Y pp tx P ++ (wHi Y h sa (D_X0_remember u S) ++ (wP Y pp2 tx2 P2 ++ wt))))) hK hP hD (pl_cons (pl_up (pl_up (pl_up (pl_up (List.Perm.refl _))))) (pl_cons (pl_up (pl_up (pl_up (pl_up (pl_up (pl_up (List.Perm.refl _))))))) (pl_up (pl_up (pl_up (pl_up (List.Perm.refl _))))))) (q0 := 0) rfl rfl) rfl rfl hl.1 rfl (lv_room (Nat.le_of_ble_eq_true rfl)) dL_isStep_304 ⟨Nat.le_of_ble_eq_true rfl, Nat.le_of_ble_eq_true rfl⟩) hP hD hS hA (pl_cons (pl_up (pl_up (pl_up (pl_up (List.Perm.refl _))))) (pl_cons (pl_up (pl_up (pl_up (pl_up (pl_up (pl_up (List.Perm.refl _))))))) (pl_up (pl_up (pl_up (pl_up (List.Perm.refl _))))))) (pl_cons (pl_up (pl_up (pl_up (pl_up (List.Perm.refl _))))) (pl_cons (pl_up (pl_up (pl_up (pl_up (pl_up (pl_up (List.Perm.refl _))))))) (pl_up (pl_up (pl_up (pl_up (List.Perm.refl _))))))) (fun H locs hP hD hS => ?_)
      refine W.widen (k := 0) (n := 0) (Nat.le_of_ble_eq_true rfl) (Nat.le_of_ble_eq_true rfl) ?_
      have e7 : (D_X3_away uw T (nI (dbl j_247)) 0).2.1 = D_X0_remember uw T := congrArg (fun z => z.2.1) (aw_y uw T hm_1 em_1 (dbl_lt j_247) (al := 0) (by decide) ((bt_rel hB.2.2 hm_0 em_0 hm_1 em_1 hj_247).trans (b_0 c_2)))
      rw [e7] at hP hD
      clear e7
      have e7 : (D_X3_away uw T (nI (dbl j_247)) 0).2.2 = s2 T 10 0 (nI (m_1 ^^^ 2 ^ dbl j_247)) := congrArg (fun z => z.2.2) (aw_y uw T hm_1 em_1 (dbl_lt j_247) (al := 0) (by decide) ((bt_rel hB.2.2 hm_0 em_0 hm_1 em_1 hj_247).trans (b_0 c_2)))
      rw [e7] at hP hD
      clear e7
      refine lv_topi (fun y9 e9 => ?_)
      obtain rfl : y9 = nI (bsum (m_0 ^^^ 2 ^ j_247)) := e9.trans ((congrArg (fun z => z.1) (aw_y uw T hm_1 em_1 (dbl_lt j_247) (al := 0) (by decide) ((bt_rel hB.2.2 hm_0 em_0 hm_1 em_1 hj_247).trans (b_0 c_2)))).trans (congrArg nI (aw_b hj_247 (fun k hk => bt_rel hB.2.2 hm_0 em_0 hm_1 em_1 hk))))
      refine lv_icmp_ne (tgt := 359) hx hb dL_isStep_307 (by decide) (fun c_8 => ?_) (fun c_8 => ?_)
      · exact absurd c_8 (fun q => q (rfl))
      · refine lv_iload hx hb dL_isStep_310 (lv_at hl 0 rfl) ?_
        refine lv_iload hx hb dL_isStep_312 (lv_at hl 1 rfl) ?_
        refine lv_iload hx hb dL_isStep_314 (lv_at hl 2 rfl) ?_
        refine lv_icmp_ne (tgt := 324) hx hb dL_isStep_316 (by decide) (fun c_9 => ?_) (fun c_9 => ?_)
        · refine lv_aload_n hx hb dL_isStep_324 rfl (lv_at hl 5 rfl) ?_
          refine lv_iconst (v := 4) hx hb dL_isStep_325 (by decide) ?_
          refine cb_iD (wr := wX y r2 tr2 pp2 h2 sl2 ++ (wR Y r2 q2 (s2 T 10 0 (nI (m_1 ^^^ 2 ^ dbl j_247))) ++ (wP Y pp2 tx2 P2 ++ (wHi Y h2 sa2 (D_X0_remember uw T) ++ wt)))) (ws' := wX x r tr pp h sl ++ (wR Y r q (s2 S 10 0 (nI (m_0 ^^^ 2 ^ j_247))) ++ (wP Y pp tx P ++ (wHi Y h sa (D_X0_remember u S) ++ (wX y r2 tr2 pp2 h2 sl2 ++ (wR Y r2 q2 (s2 T 10 0 (nI (m_1 ^^^ 2 ^ dbl j_247))) ++ (wP Y pp2 tx2 P2 ++ (wHi Y h2 sa2 (D_X0_remember uw T) ++ wt)))))))) (va_runV (As := [.int 4]) (rest := [.int (nI (bsum (m_0 ^^^ 2 ^ j_247)))]) ⟨hx, hb, hml, hown, hts⟩ (c_X3_count l D Y H.size r tr pp h sl q tx sa (s2 S 10 0 (nI (m_0 ^^^ 2 ^ j_247))) P (D_X0_remember u S) x 4) (cwV 1 hts gL_isStep_X3_count rfl rfl rfl (by decide +kernel) ⟨Nat.le_of_ble_eq_true rfl, Nat.le_of_ble_eq_true rfl⟩) (psb_V (wr := wX y r2 tr2 pp2 h2 sl2 ++ (wR Y r2 q2 (s2 T 10 0 (nI (m_1 ^^^ 2 ^ dbl j_247))) ++ (wP Y pp2 tx2 P2 ++ (wHi Y h2 sa2 (D_X0_remember uw T) ++ wt)))) hK hP hD (pl_cons (List.Perm.refl _) (pl_cons (List.Perm.refl _) (pl_cons (List.Perm.refl _) (List.Perm.refl _)))) (q0 := 0) rfl rfl) rfl rfl hl.1 rfl (lv_room (Nat.le_of_ble_eq_true rfl)) dL_isStep_326 ⟨Nat.le_of_ble_eq_true rfl, Nat.le_of_ble_eq_true rfl⟩) hP hD hS hA (pl_cons (List.Perm.refl _) (pl_cons (List.Perm.refl _) (pl_cons (List.Perm.refl _) (List.Perm.refl _)))) (pl_cons (List.Perm.refl _) (pl_cons (List.Perm.refl _) (pl_cons (List.Perm.refl _) (List.Perm.refl _)))) (fun H locs hP hD hS => ?_)
          refine W.widen (k := 0) (n := 0) (Nat.le_of_ble_eq_true rfl) (Nat.le_of_ble_eq_true rfl) ?_
          refine lv_topi (fun y9 e9 => ?_)
          obtain rfl : y9 = nI (m_0 ^^^ 2 ^ j_247) := e9.trans ((ct_4 _ _ _).trans s2_at)
          refine cb_iD (wr := wX x r tr pp h sl ++ (wR Y r q (s2 S 10 0 (nI (m_0 ^^^ 2 ^ j_247))) ++ (wP Y pp tx P ++ (wHi Y h sa (D_X0_remember u S) ++ (wX y r2 tr2 pp2 h2 sl2 ++ (wR Y r2 q2 (s2 T 10 0 (nI (m_1 ^^^ 2 ^ dbl j_247))) ++ (wP Y pp2 tx2 P2 ++ (wHi Y h2 sa2 (D_X0_remember uw T) ++ wt)))))))) (ws' := wX x r tr pp h sl ++ (wR Y r q (s2 S 10 0 (nI (m_0 ^^^ 2 ^ j_247))) ++ (wP Y pp tx P ++ (wHi Y h sa (D_X0_remember u S) ++ (wX y r2 tr2 pp2 h2 sl2 ++ (wR Y r2 q2 (s2 T 10 0 (nI (m_1 ^^^ 2 ^ dbl j_247))) ++ (wP Y pp2 tx2 P2 ++ (wHi Y h2 sa2 (D_X0_remember uw T) ++ wt)))))))) (va_runS (As := [.int (nI (m_0 ^^^ 2 ^ j_247))]) (rest := [.int (nI (bsum (m_0 ^^^ 2 ^ j_247)))]) ⟨hx, hb, hml, hown, hts⟩ (c_L_bits l D Y H.size (nI (m_0 ^^^ 2 ^ j_247))) (va_cwS 1 hts gL_isStep_L_bits rfl rfl rfl (by decide +kernel) ⟨Nat.le_of_ble_eq_true rfl, Nat.le_of_ble_eq_true rfl⟩) (psb_S (wr := wX x r tr pp h sl ++ (wR Y r q (s2 S 10 0 (nI (m_0 ^^^ 2 ^ j_247))) ++ (wP Y pp tx P ++ (wHi Y h sa (D_X0_remember u S) ++ (wX y r2 tr2 pp2 h2 sl2 ++ (wR Y r2 q2 (s2 T 10 0 (nI (m_1 ^^^ 2 ^ dbl j_247))) ++ (wP Y pp2 tx2 P2 ++ (wHi Y h2 sa2 (D_X0_remember uw T) ++ wt)))))))) hK hP hD (List.Perm.refl _)) rfl rfl hl.1 rfl (lv_room (Nat.le_of_ble_eq_true rfl)) dL_isStep_329 ⟨Nat.le_of_ble_eq_true rfl, Nat.le_of_ble_eq_true rfl⟩) hP hD hS hA (List.Perm.refl _) (List.Perm.refl _) (fun H locs hP hD hS => ?_)
          refine W.widen (k := 0) (n := 0) (Nat.le_of_ble_eq_true rfl) (Nat.le_of_ble_eq_true rfl) ?_
          refine lv_topi (fun y9 e9 => ?_)
          obtain rfl : y9 = nI (bsum (m_0 ^^^ 2 ^ j_247)) := e9.trans (bits_eq _ (xor_lt _ hm_0 _ hj_247))
          refine lv_icmp_ne (tgt := 359) hx hb dL_isStep_332 (by decide) (fun c_10 => ?_) (fun c_10 => ?_)
          · exact absurd c_10 (fun q => q (c_8))
          · refine lv_aload_n hx hb dL_isStep_335 rfl (lv_at hl 5 rfl) ?_
            refine lv_iload hx hb dL_isStep_336 (lv_at hl 3 rfl) ?_
            refine lv_iconst (v := 0) hx hb dL_isStep_338 (by decide) ?_
            refine cb_iD (wr := wP Y pp tx P ++ (wHi Y h sa (D_X0_remember u S) ++ (wX y r2 tr2 pp2 h2 sl2 ++ (wR Y r2 q2 (s2 T 10 0 (nI (m_1 ^^^ 2 ^ dbl j_247))) ++ (wP Y pp2 tx2 P2 ++ (wHi Y h2 sa2 (D_X0_remember uw T) ++ wt)))))) (ws' := wX x r tr pp h sl ++ (wR Y r q (s2 S 10 0 (nI (m_0 ^^^ 2 ^ j_247))) ++ (wP Y pp tx P ++ (wHi Y h sa (D_X0_remember u S) ++ (wX y r2 tr2 pp2 h2 sl2 ++ (wR Y r2 q2 (s2 T 10 0 (nI (m_1 ^^^ 2 ^ dbl j_247))) ++ (wP Y pp2 tx2 P2 ++ (wHi Y h2 sa2 (D_X0_remember uw T) ++ wt)))))))) (va_runV (As := [.int (nI j_247), .int 0]) (rest := []) ⟨hx, hb, hml, hown, hts⟩ (c_X3_villager l D Y H.size r tr pp h sl q (s2 S 10 0 (nI (m_0 ^^^ 2 ^ j_247))) x (nI j_247) 0) (cwV 2 hts gL_isStep_X3_villager rfl rfl rfl (by decide +kernel) ⟨Nat.le_of_ble_eq_true rfl, Nat.le_of_ble_eq_true rfl⟩) (psb_V (wr := wP Y pp tx P ++ (wHi Y h sa (D_X0_remember u S) ++ (wX y r2 tr2 pp2 h2 sl2 ++ (wR Y r2 q2 (s2 T 10 0 (nI (m_1 ^^^ 2 ^ dbl j_247))) ++ (wP Y pp2 tx2 P2 ++ (wHi Y h2 sa2 (D_X0_remember uw T) ++ wt)))))) hK hP hD (pl_cons (List.Perm.refl _) (List.Perm.refl _)) (q0 := 0) rfl rfl) rfl rfl hl.1 rfl (lv_room (Nat.le_of_ble_eq_true rfl)) dL_isStep_339 ⟨Nat.le_of_ble_eq_true rfl, Nat.le_of_ble_eq_true rfl⟩) hP hD hS hA (pl_cons (List.Perm.refl _) (List.Perm.refl _)) (pl_cons (List.Perm.refl _) (List.Perm.refl _)) (fun H locs hP hD hS => ?_)
            refine W.widen (k := 0) (n := 0) (Nat.le_of_ble_eq_true rfl) (Nat.le_of_ble_eq_true rfl) ?_
            refine lv_topi (fun y9 e9 => ?_)
            obtain rfl : y9 = 1 := e9.trans ((aw_v hm_0 hj_247).trans (by rw [(b_0 c_2)]; rfl))
            refine lv_if_ne (tgt := 349) hx hb dL_isStep_342 (by decide) (fun c_11 => ?_) (fun c_11 => ?_)
            · refine lv_iconst (v := 0) hx hb dL_isStep_349 (by decide) ?_
              refine lv_iload hx hb dL_isStep_350 (lv_at hl 2 rfl) ?_
              refine lv_icmp_ne (tgt := 359) hx hb dL_isStep_352 (by decide) (fun c_12 => ?_) (fun c_12 => ?_)
              · exact absurd c_12 (by decide)
              · refine lv_iconst (v := 1) hx hb dL_isStep_355 (by decide) ?_
                refine lv_goto (tgt := 360) hx hb dL_isStep_356 (by decide) ?_
                exact ret_z hx hb hr rfl hlk hP hD hS dL_isStep_360 ⟨Nat.le_of_ble_eq_true rfl, Nat.le_of_ble_eq_true rfl⟩ ⟨rfl, (s2 S 10 0 (nI (m_0 ^^^ 2 ^ j_247))), (s2 T 10 0 (nI (m_1 ^^^ 2 ^ dbl j_247))), (D_X0_remember u S), (D_X0_remember uw T), P2, hB.away hj_247 hm_0 hm_1 em_0 em_1, (hH.remember hB).up (Nat.le_succ n), hp2, rfl⟩
            · exact absurd c_11 (by decide)
        · exact absurd c_9 (by decide)
  · refine lv_iconst (v := 1) hx hb dL_isStep_260 (by decide) ?_
    refine lv_goto (tgt := 265) hx hb dL_isStep_261 (by decide) ?_
    refine lv_istore (lv' := [(6, .int 1), (5, .int (nI j_247)), (4, .int (aa >>> (4 &&& 31))), (0, .ref x), (1, .ref y), (2, .int aa), (3, .int bb)]) hx hb dL_isStep_265 hl (by decide) rfl (fun ls hl => ?_)
    refine lv_aload_n hx hb dL_isStep_267 rfl (lv_at hl 3 rfl) ?_
    refine lv_iload hx hb dL_isStep_268 (lv_at hl 1 rfl) ?_
    refine lv_iconst (v := 0) hx hb dL_isStep_270 (by decide) ?_
    refine cb_iD (wr := wP Y pp tx P ++ (wHi Y h sa u ++ (wX y r2 tr2 pp2 h2 sl2 ++ (wR Y r2 q2 T ++ (wP Y pp2 tx2 P2 ++ (wHi Y h2 sa2 uw ++ wt)))))) (ws' := wX x r tr pp h sl ++ (wR Y r q S ++ (wP Y pp tx P ++ (wHi Y h sa u ++ (wX y r2 tr2 pp2 h2 sl2 ++ (wR Y r2 q2 T ++ (wP Y pp2 tx2 P2 ++ (wHi Y h2 sa2 uw ++ wt)))))))) (va_runV (As := [.int (nI j_247), .int 0]) (rest := []) ⟨hx, hb, hml, hown, hts⟩ (c_X3_villager l D Y H.size r tr pp h sl q S x (nI j_247) 0) (cwV 2 hts gL_isStep_X3_villager rfl rfl rfl (by decide +kernel) ⟨Nat.le_of_ble_eq_true rfl, Nat.le_of_ble_eq_true rfl⟩) (psb_V (wr := wP Y pp tx P ++ (wHi Y h sa u ++ (wX y r2 tr2 pp2 h2 sl2 ++ (wR Y r2 q2 T ++ (wP Y pp2 tx2 P2 ++ (wHi Y h2 sa2 uw ++ wt)))))) hK hP hD (pl_cons (List.Perm.refl _) (List.Perm.refl _)) (q0 := 0) rfl rfl) rfl rfl hl.1 rfl (lv_room (Nat.le_of_ble_eq_true rfl)) dL_isStep_271 ⟨Nat.le_of_ble_eq_true rfl, Nat.le_of_ble_eq_true rfl⟩) hP hD hS hA (pl_cons (List.Perm.refl _) (List.Perm.refl _)) (pl_cons (List.Perm.refl _) (List.Perm.refl _)) (fun H locs hP hD hS => ?_)
    refine W.widen (k := 0) (n := 0) (Nat.le_of_ble_eq_true rfl) (Nat.le_of_ble_eq_true rfl) ?_
    refine lv_topi (fun y9 e9 => ?_)
    obtain rfl : y9 = nI (bt m_0 j_247) := e9.trans (vi_b hm_0 em_0 hj_247)
    refine lv_if_ne (tgt := 281) hx hb dL_isStep_274 (by decide) (fun c_13 => ?_) (fun c_13 => ?_)
    · refine lv_iconst (v := 0) hx hb dL_isStep_281 (by decide) ?_
      refine lv_istore (lv' := [(7, .int 0), (6, .int 1), (5, .int (nI j_247)), (4, .int (aa >>> (4 &&& 31))), (0, .ref x), (1, .ref y), (2, .int aa), (3, .int bb)]) hx hb dL_isStep_282 hl (by decide) rfl (fun ls hl => ?_)
      refine lv_aload_n hx hb dL_isStep_284 rfl (lv_at hl 4 rfl) ?_
      refine lv_iload hx hb dL_isStep_285 (lv_at hl 2 rfl) ?_
      refine lv_iload hx hb dL_isStep_287 (lv_at hl 1 rfl) ?_
      refine cb_iD (wr := wP Y pp tx P ++ (wX y r2 tr2 pp2 h2 sl2 ++ (wR Y r2 q2 T ++ (wP Y pp2 tx2 P2 ++ (wHi Y h2 sa2 uw ++ wt))))) (ws' := wX x r tr pp h sl ++ (wR Y r q ((D_X3_away u S (nI j_247) 1).2.2) ++ (wP Y pp tx P ++ (wHi Y h sa ((D_X3_away u S (nI j_247) 1).2.1) ++ (wX y r2 tr2 pp2 h2 sl2 ++ (wR Y r2 q2 T ++ (wP Y pp2 tx2 P2 ++ (wHi Y h2 sa2 uw ++ wt)))))))) (va_runV (As := [.int (nI j_247), .int 1]) (rest := []) ⟨hx, hb, hml, hown, hts⟩ (c_X3_away l D Y H.size r tr pp h sl sa q u S x (nI j_247) 1 hH.2.1) (cwV 2 hts gL_isStep_X3_away rfl rfl rfl (by decide +kernel) ⟨Nat.le_of_ble_eq_true rfl, Nat.le_of_ble_eq_true rfl⟩) (psb_V (wr := wP Y pp tx P ++ (wX y r2 tr2 pp2 h2 sl2 ++ (wR Y r2 q2 T ++ (wP Y pp2 tx2 P2 ++ (wHi Y h2 sa2 uw ++ wt))))) hK hP hD (pl_cons (List.Perm.refl _) (pl_cons (pl_up (pl_up (List.Perm.refl _))) (List.Perm.refl _))) (q0 := 0) rfl rfl) rfl rfl hl.1 rfl (lv_room (Nat.le_of_ble_eq_true rfl)) dL_isStep_289 ⟨Nat.le_of_ble_eq_true rfl, Nat.le_of_ble_eq_true rfl⟩) hP hD hS hA (pl_cons (List.Perm.refl _) (pl_cons (pl_up (pl_up (List.Perm.refl _))) (List.Perm.refl _))) (pl_cons (List.Perm.refl _) (pl_cons (pl_up (pl_up (List.Perm.refl _))) (List.Perm.refl _))) (fun H locs hP hD hS => ?_)
      refine W.widen (k := 0) (n := 0) (Nat.le_of_ble_eq_true rfl) (Nat.le_of_ble_eq_true rfl) ?_
      have e7 : (D_X3_away u S (nI j_247) 1).2.1 = D_X0_remember u S := congrArg (fun z => z.2.1) (aw_y u S hm_0 em_0 hj_247 (al := 1) (by decide) (b_1 c_13))
      rw [e7] at hP hD
      clear e7
      have e7 : (D_X3_away u S (nI j_247) 1).2.2 = s2 S 10 0 (nI (m_0 ^^^ 2 ^ j_247)) := congrArg (fun z => z.2.2) (aw_y u S hm_0 em_0 hj_247 (al := 1) (by decide) (b_1 c_13))
      rw [e7] at hP hD
      clear e7
      refine lv_topi (fun y9 e9 => ?_)
      obtain rfl : y9 = nI (bsum (m_0 ^^^ 2 ^ j_247)) := e9.trans (congrArg (fun z => z.1) (aw_y u S hm_0 em_0 hj_247 (al := 1) (by decide) (b_1 c_13)))
      refine lv_istore (lv' := [(8, .int (nI (bsum (m_0 ^^^ 2 ^ j_247)))), (7, .int 0), (6, .int 1), (5, .int (nI j_247)), (4, .int (aa >>> (4 &&& 31))), (0, .ref x), (1, .ref y), (2, .int aa), (3, .int bb)]) hx hb dL_isStep_292 hl (by decide) rfl (fun ls hl => ?_)
      refine lv_iload hx hb dL_isStep_294 (lv_at hl 0 rfl) ?_
      refine lv_aload_n hx hb dL_isStep_296 rfl (lv_at hl 6 rfl) ?_
      refine lv_iload hx hb dL_isStep_297 (lv_at hl 3 rfl) ?_
      refine cb_iD (wr := wX x r tr pp h sl ++ (wR Y r q (s2 S 10 0 (nI (m_0 ^^^ 2 ^ j_247))) ++ (wP Y pp tx P ++ (wHi Y h sa (D_X0_remember u S) ++ (wX y r2 tr2 pp2 h2 sl2 ++ (wR Y r2 q2 T ++ (wP Y pp2 tx2 P2 ++ (wHi Y h2 sa2 uw ++ wt)))))))) (ws' := wX x r tr pp h sl ++ (wR Y r q (s2 S 10 0 (nI (m_0 ^^^ 2 ^ j_247))) ++ (wP Y pp tx P ++ (wHi Y h sa (D_X0_remember u S) ++ (wX y r2 tr2 pp2 h2 sl2 ++ (wR Y r2 q2 T ++ (wP Y pp2 tx2 P2 ++ (wHi Y h2 sa2 uw ++ wt)))))))) (va_runS (As := [.int (nI j_247)]) (rest := [.ref y, .int (nI (bsum (m_0 ^^^ 2 ^ j_247)))]) ⟨hx, hb, hml, hown, hts⟩ (c_L_there l D Y H.size (nI j_247)) (va_cwS 1 hts gL_isStep_L_there rfl rfl rfl (by decide +kernel) ⟨Nat.le_of_ble_eq_true rfl, Nat.le_of_ble_eq_true rfl⟩) (psb_S (wr := wX x r tr pp h sl ++ (wR Y r q (s2 S 10 0 (nI (m_0 ^^^ 2 ^ j_247))) ++ (wP Y pp tx P ++ (wHi Y h sa (D_X0_remember u S) ++ (wX y r2 tr2 pp2 h2 sl2 ++ (wR Y r2 q2 T ++ (wP Y pp2 tx2 P2 ++ (wHi Y h2 sa2 uw ++ wt)))))))) hK hP hD (List.Perm.refl _)) rfl rfl hl.1 rfl (lv_room (Nat.le_of_ble_eq_true rfl)) dL_isStep_299 ⟨Nat.le_of_ble_eq_true rfl, Nat.le_of_ble_eq_true rfl⟩) hP hD hS hA (List.Perm.refl _) (List.Perm.refl _) (fun H locs hP hD hS => ?_)
      refine W.widen (k := 0) (n := 0) (Nat.le_of_ble_eq_true rfl) (Nat.le_of_ble_eq_true rfl) ?_
      refine lv_topi (fun y9 e9 => ?_)
      obtain rfl : y9 = nI (dbl j_247) := e9.trans (there_eq _ hj_247)
      refine lv_iload hx hb dL_isStep_302 (lv_at hl 2 rfl) ?_
      refine cb_iD (wr := wX x r tr pp h sl ++ (wR Y r q (s2 S 10 0 (nI (m_0 ^^^ 2 ^ j_247))) ++ (wP Y pp tx P ++ (wHi Y h sa (D_X0_remember u S) ++ (wP Y pp2 tx2 P2 ++ wt))))) (ws' := wX x r tr pp h sl ++ (wR Y r q (s2 S 10 0 (nI (m_0 ^^^ 2 ^ j_247))) ++ (wP Y pp tx P ++ (wHi Y h sa (D_X0_remember u S) ++ (wX y r2 tr2 pp2 h2 sl2 ++ (wR Y r2 q2 ((D_X3_away uw T (nI (dbl j_247)) 1).2.2) ++ (wP Y pp2 tx2 P2 ++ (wHi Y h2 sa2 ((D_X3_away uw T (nI (dbl j_247)) 1).2.1) ++ wt)))))))) (va_runV (As := [.int (nI (dbl j_247)), .int 1]) (rest := [.int (nI (bsum (m_0 ^^^ 2 ^ j_247)))]) ⟨hx, hb, hml, hown, hts⟩ (c_X3_away l D Y H.size r2 tr2 pp2 h2 sl2 sa2 q2 uw T y (nI (dbl j_247)) 1 hH.2.2.1) (cwV 2 hts gL_isStep_X3_away rfl rfl rfl (by decide +kernel) ⟨Nat.le_of_ble_eq_true rfl, Nat.le_of_ble_eq_true rfl⟩) (psb_V (wr := wX x r tr pp h sl ++ (wR Y r q (s2 S 10 0 (nI (m_0 ^^^ 2 ^ j_247))) ++ (wP Y pp tx P ++ (wHi Y h sa (D_X0_remember u S) ++ (wP Y pp2 tx2 P2 ++ wt))))) hK hP hD (pl_cons (pl_up (pl_up (pl_up (pl_up (List.Perm.refl _))))) (pl_cons (pl_up (pl_up (pl_up (pl_up (pl_up (pl_up (List.Perm.refl _))))))) (pl_up (pl_up (pl_up (pl_up (List.Perm.refl _))))))) (q0 := 0) rfl rfl) rfl rfl hl.1 rfl (lv_room (Nat.le_of_ble_eq_true rfl)) dL_isStep_304 ⟨Nat.le_of_ble_eq_true rfl, Nat.le_of_ble_eq_true rfl⟩) hP hD hS hA (pl_cons (pl_up (pl_up (pl_up (pl_up (List.Perm.refl _))))) (pl_cons (pl_up (pl_up (pl_up (pl_up (pl_up (pl_up (List.Perm.refl _))))))) (pl_up (pl_up (pl_up (pl_up (List.Perm.refl _))))))) (pl_cons (pl_up (pl_up (pl_up (pl_up (List.Perm.refl _))))) (pl_cons (pl_up (pl_up (pl_up (pl_up (pl_up (pl_up (List.Perm.refl _))))))) (pl_up (pl_up (pl_up (pl_up (List.Perm.refl _))))))) (fun H locs hP hD hS => ?_)
      refine W.widen (k := 0) (n := 0) (Nat.le_of_ble_eq_true rfl) (Nat.le_of_ble_eq_true rfl) ?_
      have e7 : (D_X3_away uw T (nI (dbl j_247)) 1).2.1 = D_X0_remember uw T := congrArg (fun z => z.2.1) (aw_y uw T hm_1 em_1 (dbl_lt j_247) (al := 1) (by decide) ((bt_rel hB.2.2 hm_0 em_0 hm_1 em_1 hj_247).trans (b_1 c_13)))
      rw [e7] at hP hD
      clear e7
      have e7 : (D_X3_away uw T (nI (dbl j_247)) 1).2.2 = s2 T 10 0 (nI (m_1 ^^^ 2 ^ dbl j_247)) := congrArg (fun z => z.2.2) (aw_y uw T hm_1 em_1 (dbl_lt j_247) (al := 1) (by decide) ((bt_rel hB.2.2 hm_0 em_0 hm_1 em_1 hj_247).trans (b_1 c_13)))
      rw [e7] at hP hD
      clear e7
      refine lv_topi (fun y9 e9 => ?_)
      obtain rfl : y9 = nI (bsum (m_0 ^^^ 2 ^ j_247)) := e9.trans ((congrArg (fun z => z.1) (aw_y uw T hm_1 em_1 (dbl_lt j_247) (al := 1) (by decide) ((bt_rel hB.2.2 hm_0 em_0 hm_1 em_1 hj_247).trans (b_1 c_13)))).trans (congrArg nI (aw_b hj_247 (fun k hk => bt_rel hB.2.2 hm_0 em_0 hm_1 em_1 hk))))
      refine lv_icmp_ne (tgt := 359) hx hb dL_isStep_307 (by decide) (fun c_14 => ?_) (fun c_14 => ?_)
      · exact absurd c_14 (fun q => q (rfl))
      · refine lv_iload hx hb dL_isStep_310 (lv_at hl 0 rfl) ?_
        refine lv_iload hx hb dL_isStep_312 (lv_at hl 1 rfl) ?_
        refine lv_iload hx hb dL_isStep_314 (lv_at hl 2 rfl) ?_
        refine lv_icmp_ne (tgt := 324) hx hb dL_isStep_316 (by decide) (fun c_15 => ?_) (fun c_15 => ?_)
        · refine lv_aload_n hx hb dL_isStep_324 rfl (lv_at hl 5 rfl) ?_
          refine lv_iconst (v := 4) hx hb dL_isStep_325 (by decide) ?_
          refine cb_iD (wr := wX y r2 tr2 pp2 h2 sl2 ++ (wR Y r2 q2 (s2 T 10 0 (nI (m_1 ^^^ 2 ^ dbl j_247))) ++ (wP Y pp2 tx2 P2 ++ (wHi Y h2 sa2 (D_X0_remember uw T) ++ wt)))) (ws' := wX x r tr pp h sl ++ (wR Y r q (s2 S 10 0 (nI (m_0 ^^^ 2 ^ j_247))) ++ (wP Y pp tx P ++ (wHi Y h sa (D_X0_remember u S) ++ (wX y r2 tr2 pp2 h2 sl2 ++ (wR Y r2 q2 (s2 T 10 0 (nI (m_1 ^^^ 2 ^ dbl j_247))) ++ (wP Y pp2 tx2 P2 ++ (wHi Y h2 sa2 (D_X0_remember uw T) ++ wt)))))))) (va_runV (As := [.int 4]) (rest := [.int (nI (bsum (m_0 ^^^ 2 ^ j_247)))]) ⟨hx, hb, hml, hown, hts⟩ (c_X3_count l D Y H.size r tr pp h sl q tx sa (s2 S 10 0 (nI (m_0 ^^^ 2 ^ j_247))) P (D_X0_remember u S) x 4) (cwV 1 hts gL_isStep_X3_count rfl rfl rfl (by decide +kernel) ⟨Nat.le_of_ble_eq_true rfl, Nat.le_of_ble_eq_true rfl⟩) (psb_V (wr := wX y r2 tr2 pp2 h2 sl2 ++ (wR Y r2 q2 (s2 T 10 0 (nI (m_1 ^^^ 2 ^ dbl j_247))) ++ (wP Y pp2 tx2 P2 ++ (wHi Y h2 sa2 (D_X0_remember uw T) ++ wt)))) hK hP hD (pl_cons (List.Perm.refl _) (pl_cons (List.Perm.refl _) (pl_cons (List.Perm.refl _) (List.Perm.refl _)))) (q0 := 0) rfl rfl) rfl rfl hl.1 rfl (lv_room (Nat.le_of_ble_eq_true rfl)) dL_isStep_326 ⟨Nat.le_of_ble_eq_true rfl, Nat.le_of_ble_eq_true rfl⟩) hP hD hS hA (pl_cons (List.Perm.refl _) (pl_cons (List.Perm.refl _) (pl_cons (List.Perm.refl _) (List.Perm.refl _)))) (pl_cons (List.Perm.refl _) (pl_cons (List.Perm.refl _) (pl_cons (List.Perm.refl _) (List.Perm.refl _)))) (fun H locs hP hD hS => ?_)
          refine W.widen (k := 0) (n := 0) (Nat.le_of_ble_eq_true rfl) (Nat.le_of_ble_eq_true rfl) ?_
          refine lv_topi (fun y9 e9 => ?_)
          obtain rfl : y9 = nI (m_0 ^^^ 2 ^ j_247) := e9.trans ((ct_4 _ _ _).trans s2_at)
          refine cb_iD (wr := wX x r tr pp h sl ++ (wR Y r q (s2 S 10 0 (nI (m_0 ^^^ 2 ^ j_247))) ++ (wP Y pp tx P ++ (wHi Y h sa (D_X0_remember u S) ++ (wX y r2 tr2 pp2 h2 sl2 ++ (wR Y r2 q2 (s2 T 10 0 (nI (m_1 ^^^ 2 ^ dbl j_247))) ++ (wP Y pp2 tx2 P2 ++ (wHi Y h2 sa2 (D_X0_remember uw T) ++ wt)))))))) (ws' := wX x r tr pp h sl ++ (wR Y r q (s2 S 10 0 (nI (m_0 ^^^ 2 ^ j_247))) ++ (wP Y pp tx P ++ (wHi Y h sa (D_X0_remember u S) ++ (wX y r2 tr2 pp2 h2 sl2 ++ (wR Y r2 q2 (s2 T 10 0 (nI (m_1 ^^^ 2 ^ dbl j_247))) ++ (wP Y pp2 tx2 P2 ++ (wHi Y h2 sa2 (D_X0_remember uw T) ++ wt)))))))) (va_runS (As := [.int (nI (m_0 ^^^ 2 ^ j_247))]) (rest := [.int (nI (bsum (m_0 ^^^ 2 ^ j_247)))]) ⟨hx, hb, hml, hown, hts⟩ (c_L_bits l D Y H.size (nI (m_0 ^^^ 2 ^ j_247))) (va_cwS 1 hts gL_isStep_L_bits rfl rfl rfl (by decide +kernel) ⟨Nat.le_of_ble_eq_true rfl, Nat.le_of_ble_eq_true rfl⟩) (psb_S (wr := wX x r tr pp h sl ++ (wR Y r q (s2 S 10 0 (nI (m_0 ^^^ 2 ^ j_247))) ++ (wP Y pp tx P ++ (wHi Y h sa (D_X0_remember u S) ++ (wX y r2 tr2 pp2 h2 sl2 ++ (wR Y r2 q2 (s2 T 10 0 (nI (m_1 ^^^ 2 ^ dbl j_247))) ++ (wP Y pp2 tx2 P2 ++ (wHi Y h2 sa2 (D_X0_remember uw T) ++ wt)))))))) hK hP hD (List.Perm.refl _)) rfl rfl hl.1 rfl (lv_room (Nat.le_of_ble_eq_true rfl)) dL_isStep_329 ⟨Nat.le_of_ble_eq_true rfl, Nat.le_of_ble_eq_true rfl⟩) hP hD hS hA (List.Perm.refl _) (List.Perm.refl _) (fun H locs hP hD hS => ?_)
          refine W.widen (k := 0) (n := 0) (Nat.le_of_ble_eq_true rfl) (Nat.le_of_ble_eq_true rfl) ?_
          refine lv_topi (fun y9 e9 => ?_)
          obtain rfl : y9 = nI (bsum (m_0 ^^^ 2 ^ j_247)) := e9.trans (bits_eq _ (xor_lt _ hm_0 _ hj_247))
          refine lv_icmp_ne (tgt := 359) hx hb dL_isStep_332 (by decide) (fun c_16 => ?_) (fun c_16 => ?_)
          · exact absurd c_16 (fun q => q (c_14))
          · refine lv_aload_n hx hb dL_isStep_335 rfl (lv_at hl 5 rfl) ?_
            refine lv_iload hx hb dL_isStep_336 (lv_at hl 3 rfl) ?_
            refine lv_iconst (v := 0) hx hb dL_isStep_338 (by decide) ?_
            refine cb_iD (wr := wP Y pp tx P ++ (wHi Y h sa (D_X0_remember u S) ++ (wX y r2 tr2 pp2 h2 sl2 ++ (wR Y r2 q2 (s2 T 10 0 (nI (m_1 ^^^ 2 ^ dbl j_247))) ++ (wP Y pp2 tx2 P2 ++ (wHi Y h2 sa2 (D_X0_remember uw T) ++ wt)))))) (ws' := wX x r tr pp h sl ++ (wR Y r q (s2 S 10 0 (nI (m_0 ^^^ 2 ^ j_247))) ++ (wP Y pp tx P ++ (wHi Y h sa (D_X0_remember u S) ++ (wX y r2 tr2 pp2 h2 sl2 ++ (wR Y r2 q2 (s2 T 10 0 (nI (m_1 ^^^ 2 ^ dbl j_247))) ++ (wP Y pp2 tx2 P2 ++ (wHi Y h2 sa2 (D_X0_remember uw T) ++ wt)))))))) (va_runV (As := [.int (nI j_247), .int 0]) (rest := []) ⟨hx, hb, hml, hown, hts⟩ (c_X3_villager l D Y H.size r tr pp h sl q (s2 S 10 0 (nI (m_0 ^^^ 2 ^ j_247))) x (nI j_247) 0) (cwV 2 hts gL_isStep_X3_villager rfl rfl rfl (by decide +kernel) ⟨Nat.le_of_ble_eq_true rfl, Nat.le_of_ble_eq_true rfl⟩) (psb_V (wr := wP Y pp tx P ++ (wHi Y h sa (D_X0_remember u S) ++ (wX y r2 tr2 pp2 h2 sl2 ++ (wR Y r2 q2 (s2 T 10 0 (nI (m_1 ^^^ 2 ^ dbl j_247))) ++ (wP Y pp2 tx2 P2 ++ (wHi Y h2 sa2 (D_X0_remember uw T) ++ wt)))))) hK hP hD (pl_cons (List.Perm.refl _) (List.Perm.refl _)) (q0 := 0) rfl rfl) rfl rfl hl.1 rfl (lv_room (Nat.le_of_ble_eq_true rfl)) dL_isStep_339 ⟨Nat.le_of_ble_eq_true rfl, Nat.le_of_ble_eq_true rfl⟩) hP hD hS hA (pl_cons (List.Perm.refl _) (List.Perm.refl _)) (pl_cons (List.Perm.refl _) (List.Perm.refl _)) (fun H locs hP hD hS => ?_)
            refine W.widen (k := 0) (n := 0) (Nat.le_of_ble_eq_true rfl) (Nat.le_of_ble_eq_true rfl) ?_
            refine lv_topi (fun y9 e9 => ?_)
            obtain rfl : y9 = 0 := e9.trans ((aw_v hm_0 hj_247).trans (by rw [(b_1 c_13)]; rfl))
            refine lv_if_ne (tgt := 349) hx hb dL_isStep_342 (by decide) (fun c_17 => ?_) (fun c_17 => ?_)
            · exact absurd c_17 (by decide)
            · refine lv_iconst (v := 1) hx hb dL_isStep_345 (by decide) ?_
              refine lv_goto (tgt := 350) hx hb dL_isStep_346 (by decide) ?_
              refine lv_iload hx hb dL_isStep_350 (lv_at hl 2 rfl) ?_
              refine lv_icmp_ne (tgt := 359) hx hb dL_isStep_352 (by decide) (fun c_18 => ?_) (fun c_18 => ?_)
              · exact absurd c_18 (by decide)
              · refine lv_iconst (v := 1) hx hb dL_isStep_355 (by decide) ?_
                refine lv_goto (tgt := 360) hx hb dL_isStep_356 (by decide) ?_
                exact ret_z hx hb hr rfl hlk hP hD hS dL_isStep_360 ⟨Nat.le_of_ble_eq_true rfl, Nat.le_of_ble_eq_true rfl⟩ ⟨rfl, (s2 S 10 0 (nI (m_0 ^^^ 2 ^ j_247))), (s2 T 10 0 (nI (m_1 ^^^ 2 ^ dbl j_247))), (D_X0_remember u S), (D_X0_remember uw T), P2, hB.away hj_247 hm_0 hm_1 em_0 em_1, (hH.remember hB).up (Nat.le_succ n), hp2, rfl⟩
        · exact absurd c_15 (by decide)
    · refine lv_iconst (v := 1) hx hb dL_isStep_277 (by decide) ?_
      refine lv_goto (tgt := 282) hx hb dL_isStep_278 (by decide) ?_
      refine lv_istore (lv' := [(7, .int 1), (6, .int 1), (5, .int (nI j_247)), (4, .int (aa >>> (4 &&& 31))), (0, .ref x), (1, .ref y), (2, .int aa), (3, .int bb)]) hx hb dL_isStep_282 hl (by decide) rfl (fun ls hl => ?_)
      refine lv_aload_n hx hb dL_isStep_284 rfl (lv_at hl 4 rfl) ?_
      refine lv_iload hx hb dL_isStep_285 (lv_at hl 2 rfl) ?_
      refine lv_iload hx hb dL_isStep_287 (lv_at hl 1 rfl) ?_
      refine cb_iD (wr := wP Y pp tx P ++ (wX y r2 tr2 pp2 h2 sl2 ++ (wR Y r2 q2 T ++ (wP Y pp2 tx2 P2 ++ (wHi Y h2 sa2 uw ++ wt))))) (ws' := wX x r tr pp h sl ++ (wR Y r q ((D_X3_away u S (nI j_247) 1).2.2) ++ (wP Y pp tx P ++ (wHi Y h sa ((D_X3_away u S (nI j_247) 1).2.1) ++ (wX y r2 tr2 pp2 h2 sl2 ++ (wR Y r2 q2 T ++ (wP Y pp2 tx2 P2 ++ (wHi Y h2 sa2 uw ++ wt)))))))) (va_runV (As := [.int (nI j_247), .int 1]) (rest := []) ⟨hx, hb, hml, hown, hts⟩ (c_X3_away l D Y H.size r tr pp h sl sa q u S x (nI j_247) 1 hH.2.1) (cwV 2 hts gL_isStep_X3_away rfl rfl rfl (by decide +kernel) ⟨Nat.le_of_ble_eq_true rfl, Nat.le_of_ble_eq_true rfl⟩) (psb_V (wr := wP Y pp tx P ++ (wX y r2 tr2 pp2 h2 sl2 ++ (wR Y r2 q2 T ++ (wP Y pp2 tx2 P2 ++ (wHi Y h2 sa2 uw ++ wt))))) hK hP hD (pl_cons (List.Perm.refl _) (pl_cons (pl_up (pl_up (List.Perm.refl _))) (List.Perm.refl _))) (q0 := 0) rfl rfl) rfl rfl hl.1 rfl (lv_room (Nat.le_of_ble_eq_true rfl)) dL_isStep_289 ⟨Nat.le_of_ble_eq_true rfl, Nat.le_of_ble_eq_true rfl⟩) hP hD hS hA (pl_cons (List.Perm.refl _) (pl_cons (pl_up (pl_up (List.Perm.refl _))) (List.Perm.refl _))) (pl_cons (List.Perm.refl _) (pl_cons (pl_up (pl_up (List.Perm.refl _))) (List.Perm.refl _))) (fun H locs hP hD hS => ?_)
      refine W.widen (k := 0) (n := 0) (Nat.le_of_ble_eq_true rfl) (Nat.le_of_ble_eq_true rfl) ?_
      have e7 : (D_X3_away u S (nI j_247) 1).2.1 = u := congrArg (fun z => z.2.1) (aw_n u S hm_0 em_0 hj_247 (al := 1) (by decide) (by rw [(b_0 c_13)]; decide))
      rw [e7] at hP hD
      clear e7
      have e7 : (D_X3_away u S (nI j_247) 1).2.2 = S := congrArg (fun z => z.2.2) (aw_n u S hm_0 em_0 hj_247 (al := 1) (by decide) (by rw [(b_0 c_13)]; decide))
      rw [e7] at hP hD
      clear e7
      refine lv_topi (fun y9 e9 => ?_)
      obtain rfl : y9 = (-1000005) := e9.trans (congrArg (fun z => z.1) (aw_n u S hm_0 em_0 hj_247 (al := 1) (by decide) (by rw [(b_0 c_13)]; decide)))
      refine lv_istore (lv' := [(8, .int (-1000005)), (7, .int 1), (6, .int 1), (5, .int (nI j_247)), (4, .int (aa >>> (4 &&& 31))), (0, .ref x), (1, .ref y), (2, .int aa), (3, .int bb)]) hx hb dL_isStep_292 hl (by decide) rfl (fun ls hl => ?_)
      refine lv_iload hx hb dL_isStep_294 (lv_at hl 0 rfl) ?_
      refine lv_aload_n hx hb dL_isStep_296 rfl (lv_at hl 6 rfl) ?_
      refine lv_iload hx hb dL_isStep_297 (lv_at hl 3 rfl) ?_
      refine cb_iD (wr := wX x r tr pp h sl ++ (wR Y r q S ++ (wP Y pp tx P ++ (wHi Y h sa u ++ (wX y r2 tr2 pp2 h2 sl2 ++ (wR Y r2 q2 T ++ (wP Y pp2 tx2 P2 ++ (wHi Y h2 sa2 uw ++ wt)))))))) (ws' := wX x r tr pp h sl ++ (wR Y r q S ++ (wP Y pp tx P ++ (wHi Y h sa u ++ (wX y r2 tr2 pp2 h2 sl2 ++ (wR Y r2 q2 T ++ (wP Y pp2 tx2 P2 ++ (wHi Y h2 sa2 uw ++ wt)))))))) (va_runS (As := [.int (nI j_247)]) (rest := [.ref y, .int (-1000005)]) ⟨hx, hb, hml, hown, hts⟩ (c_L_there l D Y H.size (nI j_247)) (va_cwS 1 hts gL_isStep_L_there rfl rfl rfl (by decide +kernel) ⟨Nat.le_of_ble_eq_true rfl, Nat.le_of_ble_eq_true rfl⟩) (psb_S (wr := wX x r tr pp h sl ++ (wR Y r q S ++ (wP Y pp tx P ++ (wHi Y h sa u ++ (wX y r2 tr2 pp2 h2 sl2 ++ (wR Y r2 q2 T ++ (wP Y pp2 tx2 P2 ++ (wHi Y h2 sa2 uw ++ wt)))))))) hK hP hD (List.Perm.refl _)) rfl rfl hl.1 rfl (lv_room (Nat.le_of_ble_eq_true rfl)) dL_isStep_299 ⟨Nat.le_of_ble_eq_true rfl, Nat.le_of_ble_eq_true rfl⟩) hP hD hS hA (List.Perm.refl _) (List.Perm.refl _) (fun H locs hP hD hS => ?_)
      refine W.widen (k := 0) (n := 0) (Nat.le_of_ble_eq_true rfl) (Nat.le_of_ble_eq_true rfl) ?_
      refine lv_topi (fun y9 e9 => ?_)
      obtain rfl : y9 = nI (dbl j_247) := e9.trans (there_eq _ hj_247)
      refine lv_iload hx hb dL_isStep_302 (lv_at hl 2 rfl) ?_
      refine cb_iD (wr := wX x r tr pp h sl ++ (wR Y r q S ++ (wP Y pp tx P ++ (wHi Y h sa u ++ (wP Y pp2 tx2 P2 ++ wt))))) (ws' := wX x r tr pp h sl ++ (wR Y r q S ++ (wP Y pp tx P ++ (wHi Y h sa u ++ (wX y r2 tr2 pp2 h2 sl2 ++ (wR Y r2 q2 ((D_X3_away uw T (nI (dbl j_247)) 1).2.2) ++ (wP Y pp2 tx2 P2 ++ (wHi Y h2 sa2 ((D_X3_away uw T (nI (dbl j_247)) 1).2.1) ++ wt)))))))) (va_runV (As := [.int (nI (dbl j_247)), .int 1]) (rest := [.int (-1000005)]) ⟨hx, hb, hml, hown, hts⟩ (c_X3_away l D Y H.size r2 tr2 pp2 h2 sl2 sa2 q2 uw T y (nI (dbl j_247)) 1 hH.2.2.1) (cwV 2 hts gL_isStep_X3_away rfl rfl rfl (by decide +kernel) ⟨Nat.le_of_ble_eq_true rfl, Nat.le_of_ble_eq_true rfl⟩) (psb_V (wr := wX x r tr pp h sl ++ (wR Y r q S ++ (wP Y pp tx P ++ (wHi Y h sa u ++ (wP Y pp2 tx2 P2 ++ wt))))) hK hP hD (pl_cons (pl_up (pl_up (pl_up (pl_up (List.Perm.refl _))))) (pl_cons (pl_up (pl_up (pl_up (pl_up (pl_up (pl_up (List.Perm.refl _))))))) (pl_up (pl_up (pl_up (pl_up (List.Perm.refl _))))))) (q0 := 0) rfl rfl) rfl rfl hl.1 rfl (lv_room (Nat.le_of_ble_eq_true rfl)) dL_isStep_304 ⟨Nat.le_of_ble_eq_true rfl, Nat.le_of_ble_eq_true rfl⟩) hP hD hS hA (pl_cons (pl_up (pl_up (pl_up (pl_up (List.Perm.refl _))))) (pl_cons (pl_up (pl_up (pl_up (pl_up (pl_up (pl_up (List.Perm.refl _))))))) (pl_up (pl_up (pl_up (pl_up (List.Perm.refl _))))))) (pl_cons (pl_up (pl_up (pl_up (pl_up (List.Perm.refl _))))) (pl_cons (pl_up (pl_up (pl_up (pl_up (pl_up (pl_up (List.Perm.refl _))))))) (pl_up (pl_up (pl_up (pl_up (List.Perm.refl _))))))) (fun H locs hP hD hS => ?_)
      refine W.widen (k := 0) (n := 0) (Nat.le_of_ble_eq_true rfl) (Nat.le_of_ble_eq_true rfl) ?_
      have e7 : (D_X3_away uw T (nI (dbl j_247)) 1).2.1 = uw := congrArg (fun z => z.2.1) (aw_n uw T hm_1 em_1 (dbl_lt j_247) (al := 1) (by decide) (by rw [((bt_rel hB.2.2 hm_0 em_0 hm_1 em_1 hj_247).trans (b_0 c_13))]; decide))
      rw [e7] at hP hD
      clear e7
      have e7 : (D_X3_away uw T (nI (dbl j_247)) 1).2.2 = T := congrArg (fun z => z.2.2) (aw_n uw T hm_1 em_1 (dbl_lt j_247) (al := 1) (by decide) (by rw [((bt_rel hB.2.2 hm_0 em_0 hm_1 em_1 hj_247).trans (b_0 c_13))]; decide))
      rw [e7] at hP hD
      clear e7
      refine lv_topi (fun y9 e9 => ?_)
      obtain rfl : y9 = (-1000005) := e9.trans (congrArg (fun z => z.1) (aw_n uw T hm_1 em_1 (dbl_lt j_247) (al := 1) (by decide) (by rw [((bt_rel hB.2.2 hm_0 em_0 hm_1 em_1 hj_247).trans (b_0 c_13))]; decide)))
      refine lv_icmp_ne (tgt := 359) hx hb dL_isStep_307 (by decide) (fun c_19 => ?_) (fun c_19 => ?_)
      · exact absurd c_19 (by decide)
      · refine lv_iload hx hb dL_isStep_310 (lv_at hl 0 rfl) ?_
        refine lv_iload hx hb dL_isStep_312 (lv_at hl 1 rfl) ?_
        refine lv_iload hx hb dL_isStep_314 (lv_at hl 2 rfl) ?_
        refine lv_icmp_ne (tgt := 324) hx hb dL_isStep_316 (by decide) (fun c_20 => ?_) (fun c_20 => ?_)
        · exact absurd c_20 (by decide)
        · refine lv_ldc (v := (-1000005)) hx hb hown (hts (.constant RL 45 (-1000005)) (by decide +kernel)) dL_isStep_319 ?_
          refine lv_goto (tgt := 332) hx hb dL_isStep_321 (by decide) ?_
          refine lv_icmp_ne (tgt := 359) hx hb dL_isStep_332 (by decide) (fun c_21 => ?_) (fun c_21 => ?_)
          · exact absurd c_21 (by decide)
          · refine lv_aload_n hx hb dL_isStep_335 rfl (lv_at hl 5 rfl) ?_
            refine lv_iload hx hb dL_isStep_336 (lv_at hl 3 rfl) ?_
            refine lv_iconst (v := 0) hx hb dL_isStep_338 (by decide) ?_
            refine cb_iD (wr := wP Y pp tx P ++ (wHi Y h sa u ++ (wX y r2 tr2 pp2 h2 sl2 ++ (wR Y r2 q2 T ++ (wP Y pp2 tx2 P2 ++ (wHi Y h2 sa2 uw ++ wt)))))) (ws' := wX x r tr pp h sl ++ (wR Y r q S ++ (wP Y pp tx P ++ (wHi Y h sa u ++ (wX y r2 tr2 pp2 h2 sl2 ++ (wR Y r2 q2 T ++ (wP Y pp2 tx2 P2 ++ (wHi Y h2 sa2 uw ++ wt)))))))) (va_runV (As := [.int (nI j_247), .int 0]) (rest := []) ⟨hx, hb, hml, hown, hts⟩ (c_X3_villager l D Y H.size r tr pp h sl q S x (nI j_247) 0) (cwV 2 hts gL_isStep_X3_villager rfl rfl rfl (by decide +kernel) ⟨Nat.le_of_ble_eq_true rfl, Nat.le_of_ble_eq_true rfl⟩) (psb_V (wr := wP Y pp tx P ++ (wHi Y h sa u ++ (wX y r2 tr2 pp2 h2 sl2 ++ (wR Y r2 q2 T ++ (wP Y pp2 tx2 P2 ++ (wHi Y h2 sa2 uw ++ wt)))))) hK hP hD (pl_cons (List.Perm.refl _) (List.Perm.refl _)) (q0 := 0) rfl rfl) rfl rfl hl.1 rfl (lv_room (Nat.le_of_ble_eq_true rfl)) dL_isStep_339 ⟨Nat.le_of_ble_eq_true rfl, Nat.le_of_ble_eq_true rfl⟩) hP hD hS hA (pl_cons (List.Perm.refl _) (List.Perm.refl _)) (pl_cons (List.Perm.refl _) (List.Perm.refl _)) (fun H locs hP hD hS => ?_)
            refine W.widen (k := 0) (n := 0) (Nat.le_of_ble_eq_true rfl) (Nat.le_of_ble_eq_true rfl) ?_
            refine lv_topi (fun y9 e9 => ?_)
            obtain rfl : y9 = 0 := e9.trans ((vi_b hm_0 em_0 hj_247).trans (by rw [(b_0 c_13)]; rfl))
            refine lv_if_ne (tgt := 349) hx hb dL_isStep_342 (by decide) (fun c_22 => ?_) (fun c_22 => ?_)
            · exact absurd c_22 (by decide)
            · refine lv_iconst (v := 1) hx hb dL_isStep_345 (by decide) ?_
              refine lv_goto (tgt := 350) hx hb dL_isStep_346 (by decide) ?_
              refine lv_iload hx hb dL_isStep_350 (lv_at hl 2 rfl) ?_
              refine lv_icmp_ne (tgt := 359) hx hb dL_isStep_352 (by decide) (fun c_23 => ?_) (fun c_23 => ?_)
              · exact absurd c_23 (by decide)
              · refine lv_iconst (v := 1) hx hb dL_isStep_355 (by decide) ?_
                refine lv_goto (tgt := 360) hx hb dL_isStep_356 (by decide) ?_
                exact ret_z hx hb hr rfl hlk hP hD hS dL_isStep_360 ⟨Nat.le_of_ble_eq_true rfl, Nat.le_of_ble_eq_true rfl⟩ ⟨rfl, S, T, u, uw, P2, hB.up (Nat.le_succ n), hH.up (Nat.le_succ n), hp2, rfl⟩

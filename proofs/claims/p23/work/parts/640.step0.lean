set_option maxHeartbeats 4000000 in
set_option maxRecDepth 100000 in
theorem c_L_isStep_0 (l : Launch) (D : va_G) (Y : YY) (sz : Nat) (r : Nat) (tr : Nat) (pp : Nat) (h : Nat) (sl : Nat) (q : Nat → Nat) (tx : Nat) (sa : Nat) (r2 : Nat) (tr2 : Nat) (pp2 : Nat) (h2 : Nat) (sl2 : Nat) (q2 : Nat → Nat) (tx2 : Nat) (sa2 : Nat) (S : Nat → Nat → Int32) (P : Nat → Nat → Int32) (u : HS) (T : Nat → Nat → Int32) (P2 : Nat → Nat → Int32) (uw : HS) (n : Nat) (wt : va_W) (x : Nat) (y : Nat) (aa : Int32) (bb : Int32) (hB : Both n S T) (hH : HB n u uw) (hn : n ≤ 60) (hp2 : P2 1 0 = 0) (hup : D_L_up aa 15 = 0) : Met l yL_isStep wsL_isStep ({ frames := 7, cells := 22, slots := 626, locals := 227 } : Room) (va_Pc [.ref x, .ref y, .int aa, .int bb] (Pst D Y sz (wX x r tr pp h sl ++ (wR Y r q S ++ (wP Y pp tx P ++ (wHi Y h sa u ++ (wX y r2 tr2 pp2 h2 sl2 ++ (wR Y r2 q2 T ++ (wP Y pp2 tx2 P2 ++ (wHi Y h2 sa2 uw ++ wt)))))))))) ((fun A : Nat → Prop => Qsi D (fun r9 w9 => r9 = 1 ∧ ∃ (S9 T9 : Nat → Nat → Int32) (u9 v9 : HS) (P9 : Nat → Nat → Int32), Both (n + 1) S9 T9 ∧ HB (n + 1) u9 v9 ∧ P9 1 0 = 0 ∧ w9 = wX x r tr pp h sl ++ (wR Y r q S9 ++ (wP Y pp tx P ++ (wHi Y h sa u9 ++ (wX y r2 tr2 pp2 h2 sl2 ++ (wR Y r2 q2 T9 ++ (wP Y pp2 tx2 P9 ++ (wHi Y h2 sa2 v9 ++ wt)))))))) A) (va_A (wX x r tr pp h sl ++ (wR Y r q S ++ (wP Y pp tx P ++ (wHi Y h sa u ++ (wX y r2 tr2 pp2 h2 sl2 ++ (wR Y r2 q2 T ++ (wP Y pp2 tx2 P2 ++ (wHi Y h2 sa2 uw ++ wt)))))))) sz)) 22 626 (va_A (wX x r tr pp h sl ++ (wR Y r q S ++ (wP Y pp tx P ++ (wHi Y h sa u ++ (wX y r2 tr2 pp2 h2 sl2 ++ (wR Y r2 q2 T ++ (wP Y pp2 tx2 P2 ++ (wHi Y h2 sa2 uw ++ wt)))))))) sz) := by
  refine ct_in (cc := cL_isStep) (maxL := 9) (ret := (some .boolean)) (Qc := fun A : Nat → Prop => Qsi D (fun r9 w9 => r9 = 1 ∧ ∃ (S9 T9 : Nat → Nat → Int32) (u9 v9 : HS) (P9 : Nat → Nat → Int32), Both (n + 1) S9 T9 ∧ HB (n + 1) u9 v9 ∧ P9 1 0 = 0 ∧ w9 = wX x r tr pp h sl ++ (wR Y r q S9 ++ (wP Y pp tx P ++ (wHi Y h sa u9 ++ (wX y r2 tr2 pp2 h2 sl2 ++ (wR Y r2 q2 T9 ++ (wP Y pp2 tx2 P9 ++ (wHi Y h2 sa2 v9 ++ wt)))))))) A) (by decide +kernel) rfl (Nat.le_of_ble_eq_true rfl) ?_
  intro p e s m below meth c A ls hx hb hr hts hown hml hlk hin hsz hA hP hD hK hS hl
  have hown : s.vm.findClass RL = some m.cls := hown
  have hl : lv_has ls 9 [(0, .ref x), (1, .ref y), (2, .int aa), (3, .int bb)] := hl
  show W p l e ({ frames := 7, cells := 22, slots := 626, locals := 227 } : Room) s m ([.ref x, .ref y, .int aa, .int bb] : List Value).toArray below meth c s.heap [] 0 0 (MQ below (Qsi D (fun r9 w9 => r9 = 1 ∧ ∃ (S9 T9 : Nat → Nat → Int32) (u9 v9 : HS) (P9 : Nat → Nat → Int32), Both (n + 1) S9 T9 ∧ HB (n + 1) u9 v9 ∧ P9 1 0 = 0 ∧ w9 = wX x r tr pp h sl ++ (wR Y r q S9 ++ (wP Y pp tx P ++ (wHi Y h sa u9 ++ (wX y r2 tr2 pp2 h2 sl2 ++ (wR Y r2 q2 T9 ++ (wP Y pp2 tx2 P9 ++ (wHi Y h2 sa2 v9 ++ wt)))))))) A) ([.ref x, .ref y, .int aa, .int bb] : List Value).toArray s 22 626 A) (F0 m 0 ls [])
  refine lv_iload_n hx hb dL_isStep_0 rfl (lv_at hl 2 rfl) ?_
  refine lv_iconst (v := 4) hx hb dL_isStep_1 (by decide) ?_
  refine lv_ishr hx hb dL_isStep_2 ?_
  refine lv_istore (lv' := [(4, .int (aa >>> (4 &&& 31))), (0, .ref x), (1, .ref y), (2, .int aa), (3, .int bb)]) hx hb dL_isStep_3 hl (by decide) rfl (fun ls hl => ?_)
  refine lv_iload_n hx hb dL_isStep_5 rfl (lv_at hl 3 rfl) ?_
  refine lv_bipush (v := 15) hx hb dL_isStep_6 (by decide) ?_
  refine cb_iD (wr := wX x r tr pp h sl ++ (wR Y r q S ++ (wP Y pp tx P ++ (wHi Y h sa u ++ (wX y r2 tr2 pp2 h2 sl2 ++ (wR Y r2 q2 T ++ (wP Y pp2 tx2 P2 ++ (wHi Y h2 sa2 uw ++ wt)))))))) (ws' := wX x r tr pp h sl ++ (wR Y r q S ++ (wP Y pp tx P ++ (wHi Y h sa u ++ (wX y r2 tr2 pp2 h2 sl2 ++ (wR Y r2 q2 T ++ (wP Y pp2 tx2 P2 ++ (wHi Y h2 sa2 uw ++ wt)))))))) (va_runS (As := [.int aa, .int 15]) (rest := []) ⟨hx, hb, hml, hown, hts⟩ (c_L_up l D Y s.heap.size aa 15 (by decide)) (va_cwS 2 hts gL_isStep_L_up rfl rfl rfl (by decide +kernel) ⟨Nat.le_of_ble_eq_true rfl, Nat.le_of_ble_eq_true rfl⟩) (psb_S (wr := wX x r tr pp h sl ++ (wR Y r q S ++ (wP Y pp tx P ++ (wHi Y h sa u ++ (wX y r2 tr2 pp2 h2 sl2 ++ (wR Y r2 q2 T ++ (wP Y pp2 tx2 P2 ++ (wHi Y h2 sa2 uw ++ wt)))))))) hK hP hD (List.Perm.refl _)) rfl rfl hl.1 rfl (lv_room (Nat.le_of_ble_eq_true rfl)) dL_isStep_8 ⟨Nat.le_of_ble_eq_true rfl, Nat.le_of_ble_eq_true rfl⟩) hP hD hS hA (List.Perm.refl _) (List.Perm.refl _) (fun H locs hP hD hS => ?_)
  refine W.widen (k := 0) (n := 0) (Nat.le_of_ble_eq_true rfl) (Nat.le_of_ble_eq_true rfl) ?_
  refine lv_topi (fun y9 e9 => ?_)
  obtain rfl : y9 = 0 := e9.trans (hup)
  refine lv_tableIn (off := 41) (tgt := 52) hx hb dL_isStep_11 (by decide) (by decide) (by rfl) (by decide) ?_
  refine lv_iload hx hb dL_isStep_52 (lv_at hl 0 rfl) ?_
  refine lv_iconst (v := 3) hx hb dL_isStep_54 (by decide) ?_
  refine cb_iD (wr := wX x r tr pp h sl ++ (wR Y r q S ++ (wP Y pp tx P ++ (wHi Y h sa u ++ (wX y r2 tr2 pp2 h2 sl2 ++ (wR Y r2 q2 T ++ (wP Y pp2 tx2 P2 ++ (wHi Y h2 sa2 uw ++ wt)))))))) (ws' := wX x r tr pp h sl ++ (wR Y r q S ++ (wP Y pp tx P ++ (wHi Y h sa u ++ (wX y r2 tr2 pp2 h2 sl2 ++ (wR Y r2 q2 T ++ (wP Y pp2 tx2 P2 ++ (wHi Y h2 sa2 uw ++ wt)))))))) (va_runS (As := [.int (aa >>> (4 &&& 31)), .int 3]) (rest := []) ⟨hx, hb, hml, hown, hts⟩ (c_L_up l D Y H.size (aa >>> (4 &&& 31)) 3 (by decide)) (va_cwS 2 hts gL_isStep_L_up rfl rfl rfl (by decide +kernel) ⟨Nat.le_of_ble_eq_true rfl, Nat.le_of_ble_eq_true rfl⟩) (psb_S (wr := wX x r tr pp h sl ++ (wR Y r q S ++ (wP Y pp tx P ++ (wHi Y h sa u ++ (wX y r2 tr2 pp2 h2 sl2 ++ (wR Y r2 q2 T ++ (wP Y pp2 tx2 P2 ++ (wHi Y h2 sa2 uw ++ wt)))))))) hK hP hD (List.Perm.refl _)) rfl rfl hl.1 rfl (lv_room (Nat.le_of_ble_eq_true rfl)) dL_isStep_55 ⟨Nat.le_of_ble_eq_true rfl, Nat.le_of_ble_eq_true rfl⟩) hP hD hS hA (List.Perm.refl _) (List.Perm.refl _) (fun H locs hP hD hS => ?_)
  refine W.widen (k := 0) (n := 0) (Nat.le_of_ble_eq_true rfl) (Nat.le_of_ble_eq_true rfl) ?_
  obtain ⟨j_55, hj_55, ej_55⟩ := up_eq (aa >>> (4 &&& 31)) (n := 3) (by decide) (by decide)
  refine lv_topi (fun y9 e9 => ?_)
  obtain rfl : y9 = nI j_55 := e9.trans (ej_55)
  refine lv_istore (lv' := [(5, .int (nI j_55)), (4, .int (aa >>> (4 &&& 31))), (0, .ref x), (1, .ref y), (2, .int aa), (3, .int bb)]) hx hb dL_isStep_58 hl (by decide) rfl (fun ls hl => ?_)
  refine lv_iload hx hb dL_isStep_60 (lv_at hl 0 rfl) ?_
  refine lv_iconst (v := 2) hx hb dL_isStep_62 (by decide) ?_
  refine lv_icmp_ne (tgt := 78) hx hb dL_isStep_63 (by decide) (fun c_1 => ?_) (fun c_1 => ?_)
  · refine lv_iload_n hx hb dL_isStep_78 rfl (lv_at hl 5 rfl) ?_
    refine lv_bipush (v := 10) hx hb dL_isStep_79 (by decide) ?_
    refine cb_iD (wr := wX x r tr pp h sl ++ (wR Y r q S ++ (wP Y pp tx P ++ (wHi Y h sa u ++ (wX y r2 tr2 pp2 h2 sl2 ++ (wR Y r2 q2 T ++ (wP Y pp2 tx2 P2 ++ (wHi Y h2 sa2 uw ++ wt)))))))) (ws' := wX x r tr pp h sl ++ (wR Y r q S ++ (wP Y pp tx P ++ (wHi Y h sa u ++ (wX y r2 tr2 pp2 h2 sl2 ++ (wR Y r2 q2 T ++ (wP Y pp2 tx2 P2 ++ (wHi Y h2 sa2 uw ++ wt)))))))) (va_runS (As := [.int bb, .int 10]) (rest := []) ⟨hx, hb, hml, hown, hts⟩ (c_L_up l D Y H.size bb 10 (by decide)) (va_cwS 2 hts gL_isStep_L_up rfl rfl rfl (by decide +kernel) ⟨Nat.le_of_ble_eq_true rfl, Nat.le_of_ble_eq_true rfl⟩) (psb_S (wr := wX x r tr pp h sl ++ (wR Y r q S ++ (wP Y pp tx P ++ (wHi Y h sa u ++ (wX y r2 tr2 pp2 h2 sl2 ++ (wR Y r2 q2 T ++ (wP Y pp2 tx2 P2 ++ (wHi Y h2 sa2 uw ++ wt)))))))) hK hP hD (List.Perm.refl _)) rfl rfl hl.1 rfl (lv_room (Nat.le_of_ble_eq_true rfl)) dL_isStep_81 ⟨Nat.le_of_ble_eq_true rfl, Nat.le_of_ble_eq_true rfl⟩) hP hD hS hA (List.Perm.refl _) (List.Perm.refl _) (fun H locs hP hD hS => ?_)
    refine W.widen (k := 0) (n := 0) (Nat.le_of_ble_eq_true rfl) (Nat.le_of_ble_eq_true rfl) ?_
    obtain ⟨j_81, hj_81, ej_81⟩ := up_eq bb (n := 10) (by decide) (by decide)
    refine lv_topi (fun y9 e9 => ?_)
    obtain rfl : y9 = nI j_81 := e9.trans (ej_81)
    refine lv_istore (lv' := [(6, .int (nI j_81)), (5, .int (nI j_55)), (4, .int (aa >>> (4 &&& 31))), (0, .ref x), (1, .ref y), (2, .int aa), (3, .int bb)]) hx hb dL_isStep_84 hl (by decide) rfl (fun ls hl => ?_)
    refine lv_aload_n hx hb dL_isStep_86 rfl (lv_at hl 3 rfl) ?_
    refine lv_iload hx hb dL_isStep_87 (lv_at hl 1 rfl) ?_
    refine cb_iD (wr := wX y r2 tr2 pp2 h2 sl2 ++ (wR Y r2 q2 T ++ (wP Y pp2 tx2 P2 ++ (wHi Y h2 sa2 uw ++ wt)))) (ws' := wX x r tr pp h sl ++ (wR Y r q S ++ (wP Y pp tx P ++ (wHi Y h sa u ++ (wX y r2 tr2 pp2 h2 sl2 ++ (wR Y r2 q2 T ++ (wP Y pp2 tx2 P2 ++ (wHi Y h2 sa2 uw ++ wt)))))))) (va_runV (As := [.int (nI j_55)]) (rest := []) ⟨hx, hb, hml, hown, hts⟩ (c_X3_count l D Y H.size r tr pp h sl q tx sa S P u x (nI j_55)) (cwV 1 hts gL_isStep_X3_count rfl rfl rfl (by decide +kernel) ⟨Nat.le_of_ble_eq_true rfl, Nat.le_of_ble_eq_true rfl⟩) (psb_V (wr := wX y r2 tr2 pp2 h2 sl2 ++ (wR Y r2 q2 T ++ (wP Y pp2 tx2 P2 ++ (wHi Y h2 sa2 uw ++ wt)))) hK hP hD (pl_cons (List.Perm.refl _) (pl_cons (List.Perm.refl _) (pl_cons (List.Perm.refl _) (List.Perm.refl _)))) (q0 := 0) rfl rfl) rfl rfl hl.1 rfl (lv_room (Nat.le_of_ble_eq_true rfl)) dL_isStep_89 ⟨Nat.le_of_ble_eq_true rfl, Nat.le_of_ble_eq_true rfl⟩) hP hD hS hA (pl_cons (List.Perm.refl _) (pl_cons (List.Perm.refl _) (pl_cons (List.Perm.refl _) (List.Perm.refl _)))) (pl_cons (List.Perm.refl _) (pl_cons (List.Perm.refl _) (pl_cons (List.Perm.refl _) (List.Perm.refl _)))) (fun H locs hP hD hS => ?_)
    refine W.widen (k := 0) (n := 0) (Nat.le_of_ble_eq_true rfl) (Nat.le_of_ble_eq_true rfl) ?_
    refine lv_topi (fun y9 e9 => ?_)
    obtain rfl : y9 = S 0 j_55 := e9.trans (ct_g _ _ _ hj_55)
    refine lv_istore (lv' := [(7, .int (S 0 j_55)), (6, .int (nI j_81)), (5, .int (nI j_55)), (4, .int (aa >>> (4 &&& 31))), (0, .ref x), (1, .ref y), (2, .int aa), (3, .int bb)]) hx hb dL_isStep_92 hl (by decide) rfl (fun ls hl => ?_)
    refine lv_aload_n hx hb dL_isStep_94 rfl (lv_at hl 4 rfl) ?_
    refine lv_iload hx hb dL_isStep_95 (lv_at hl 2 rfl) ?_
    refine lv_iload hx hb dL_isStep_97 (lv_at hl 1 rfl) ?_
    refine cb_iD (wr := wP Y pp tx P ++ (wX y r2 tr2 pp2 h2 sl2 ++ (wR Y r2 q2 T ++ (wP Y pp2 tx2 P2 ++ (wHi Y h2 sa2 uw ++ wt))))) (ws' := wX x r tr pp h sl ++ (wR Y r q ((D_X3_set u S (nI j_55) (nI j_81)).2.2) ++ (wP Y pp tx P ++ (wHi Y h sa ((D_X3_set u S (nI j_55) (nI j_81)).2.1) ++ (wX y r2 tr2 pp2 h2 sl2 ++ (wR Y r2 q2 T ++ (wP Y pp2 tx2 P2 ++ (wHi Y h2 sa2 uw ++ wt)))))))) (va_runV (As := [.int (nI j_55), .int (nI j_81)]) (rest := []) ⟨hx, hb, hml, hown, hts⟩ (c_X3_set l D Y H.size r tr pp h sl sa q u S x (nI j_55) (nI j_81) hH.2.1) (cwV 2 hts gL_isStep_X3_set rfl rfl rfl (by decide +kernel) ⟨Nat.le_of_ble_eq_true rfl, Nat.le_of_ble_eq_true rfl⟩) (psb_V (wr := wP Y pp tx P ++ (wX y r2 tr2 pp2 h2 sl2 ++ (wR Y r2 q2 T ++ (wP Y pp2 tx2 P2 ++ (wHi Y h2 sa2 uw ++ wt))))) hK hP hD (pl_cons (List.Perm.refl _) (pl_cons (pl_up (pl_up (List.Perm.refl _))) (List.Perm.refl _))) (q0 := 0) rfl rfl) rfl rfl hl.1 rfl (lv_room (Nat.le_of_ble_eq_true rfl)) dL_isStep_99 ⟨Nat.le_of_ble_eq_true rfl, Nat.le_of_ble_eq_true rfl⟩) hP hD hS hA (pl_cons (List.Perm.refl _) (pl_cons (pl_up (pl_up (List.Perm.refl _))) (List.Perm.refl _))) (pl_cons (List.Perm.refl _) (pl_cons (pl_up (pl_up (List.Perm.refl _))) (List.Perm.refl _))) (fun H locs hP hD hS => ?_)
    refine W.widen (k := 0) (n := 0) (Nat.le_of_ble_eq_true rfl) (Nat.le_of_ble_eq_true rfl) ?_
    have e7 : (D_X3_set u S (nI j_55) (nI j_81)).2.1 = D_X0_remember u S := by rw [set_eq _ _ hj_55 (sg_b hj_81) (m10 hj_81)]
    rw [e7] at hP hD
    clear e7
    have e7 : (D_X3_set u S (nI j_55) (nI j_81)).2.2 = s2 S 0 j_55 (nI j_81) := by rw [set_eq _ _ hj_55 (sg_b hj_81) (m10 hj_81)]
    rw [e7] at hP hD
    clear e7
    refine lv_topi (fun y9 e9 => ?_)
    obtain rfl : y9 = S 0 j_55 := e9.trans (by rw [set_eq _ _ hj_55 (sg_b hj_81) (m10 hj_81)])
    refine lv_iload hx hb dL_isStep_102 (lv_at hl 0 rfl) ?_
    refine lv_icmp_ne (tgt := 135) hx hb dL_isStep_104 (by decide) (fun c_2 => ?_) (fun c_2 => ?_)
    · exact absurd c_2 (fun q => q (rfl))
    · refine lv_aload_n hx hb dL_isStep_107 rfl (lv_at hl 5 rfl) ?_
      refine lv_iload hx hb dL_isStep_108 (lv_at hl 2 rfl) ?_
      refine lv_iload hx hb dL_isStep_110 (lv_at hl 1 rfl) ?_
      refine cb_iD (wr := wX x r tr pp h sl ++ (wR Y r q (s2 S 0 j_55 (nI j_81)) ++ (wP Y pp tx P ++ (wHi Y h sa (D_X0_remember u S) ++ (wP Y pp2 tx2 P2 ++ wt))))) (ws' := wX x r tr pp h sl ++ (wR Y r q (s2 S 0 j_55 (nI j_81)) ++ (wP Y pp tx P ++ (wHi Y h sa (D_X0_remember u S) ++ (wX y r2 tr2 pp2 h2 sl2 ++ (wR Y r2 q2 ((D_X3_set uw T (nI j_55) (nI j_81)).2.2) ++ (wP Y pp2 tx2 P2 ++ (wHi Y h2 sa2 ((D_X3_set uw T (nI j_55) (nI j_81)).2.1) ++ wt)))))))) (va_runV (As := [.int (nI j_55), .int (nI j_81)]) (rest := []) ⟨hx, hb, hml, hown, hts⟩ (c_X3_set l D Y H.size r2 tr2 pp2 h2 sl2 sa2 q2 uw T y (nI j_55) (nI j_81) hH.2.2.1) (cwV 2 hts gL_isStep_X3_set rfl rfl rfl (by decide +kernel) ⟨Nat.le_of_ble_eq_true rfl, Nat.le_of_ble_eq_true rfl⟩) (psb_V (wr := wX x r tr pp h sl ++ (wR Y r q (s2 S 0 j_55 (nI j_81)) ++ (wP Y pp tx P ++ (wHi Y h sa (D_X0_remember u S) ++ (wP Y pp2 tx2 P2 ++ wt))))) hK hP hD (pl_cons (pl_up (pl_up (pl_up (pl_up (List.Perm.refl _))))) (pl_cons (pl_up (pl_up (pl_up (pl_up (pl_up (pl_up (List.Perm.refl _))))))) (pl_up (pl_up (pl_up (pl_up (List.Perm.refl _))))))) (q0 := 0) rfl rfl) rfl rfl hl.1 rfl (lv_room (Nat.le_of_ble_eq_true rfl)) dL_isStep_112 ⟨Nat.le_of_ble_eq_true rfl, Nat.le_of_ble_eq_true rfl⟩) hP hD hS hA (pl_cons (pl_up (pl_up (pl_up (pl_up (List.Perm.refl _))))) (pl_cons (pl_up (pl_up (pl_up (pl_up (pl_up (pl_up (List.Perm.refl _))))))) (pl_up (pl_up (pl_up (pl_up (List.Perm.refl _))))))) (pl_cons (pl_up (pl_up (pl_up (pl_up (List.Perm.refl _))))) (pl_cons (pl_up (pl_up (pl_up (pl_up (pl_up (pl_up (List.Perm.refl _))))))) (pl_up (pl_up (pl_up (pl_up (List.Perm.refl _))))))) (fun H locs hP hD hS => ?_)
      refine W.widen (k := 0) (n := 0) (Nat.le_of_ble_eq_true rfl) (Nat.le_of_ble_eq_true rfl) ?_
      have e7 : (D_X3_set uw T (nI j_55) (nI j_81)).2.1 = D_X0_remember uw T := by rw [set_eq _ _ hj_55 (sg_b hj_81) (m10 hj_81)]
      rw [e7] at hP hD
      clear e7
      have e7 : (D_X3_set uw T (nI j_55) (nI j_81)).2.2 = s2 T 0 j_55 (nI j_81) := by rw [set_eq _ _ hj_55 (sg_b hj_81) (m10 hj_81)]
      rw [e7] at hP hD
      clear e7
      refine lv_topi (fun y9 e9 => ?_)
      obtain rfl : y9 = S 0 j_55 := e9.trans (by rw [set_eq _ _ hj_55 (sg_b hj_81) (m10 hj_81)]; exact hB.2.2.1 _ hj_55)
      refine lv_iload hx hb dL_isStep_115 (lv_at hl 0 rfl) ?_
      refine lv_icmp_ne (tgt := 135) hx hb dL_isStep_117 (by decide) (fun c_3 => ?_) (fun c_3 => ?_)
      · exact absurd c_3 (fun q => q (c_2))
      · refine lv_aload_n hx hb dL_isStep_120 rfl (lv_at hl 4 rfl) ?_
        refine lv_iload hx hb dL_isStep_121 (lv_at hl 2 rfl) ?_
        refine cb_iD (wr := wX y r2 tr2 pp2 h2 sl2 ++ (wR Y r2 q2 (s2 T 0 j_55 (nI j_81)) ++ (wP Y pp2 tx2 P2 ++ (wHi Y h2 sa2 (D_X0_remember uw T) ++ wt)))) (ws' := wX x r tr pp h sl ++ (wR Y r q (s2 S 0 j_55 (nI j_81)) ++ (wP Y pp tx P ++ (wHi Y h sa (D_X0_remember u S) ++ (wX y r2 tr2 pp2 h2 sl2 ++ (wR Y r2 q2 (s2 T 0 j_55 (nI j_81)) ++ (wP Y pp2 tx2 P2 ++ (wHi Y h2 sa2 (D_X0_remember uw T) ++ wt)))))))) (va_runV (As := [.int (nI j_55)]) (rest := []) ⟨hx, hb, hml, hown, hts⟩ (c_X3_count l D Y H.size r tr pp h sl q tx sa (s2 S 0 j_55 (nI j_81)) P (D_X0_remember u S) x (nI j_55)) (cwV 1 hts gL_isStep_X3_count rfl rfl rfl (by decide +kernel) ⟨Nat.le_of_ble_eq_true rfl, Nat.le_of_ble_eq_true rfl⟩) (psb_V (wr := wX y r2 tr2 pp2 h2 sl2 ++ (wR Y r2 q2 (s2 T 0 j_55 (nI j_81)) ++ (wP Y pp2 tx2 P2 ++ (wHi Y h2 sa2 (D_X0_remember uw T) ++ wt)))) hK hP hD (pl_cons (List.Perm.refl _) (pl_cons (List.Perm.refl _) (pl_cons (List.Perm.refl _) (List.Perm.refl _)))) (q0 := 0) rfl rfl) rfl rfl hl.1 rfl (lv_room (Nat.le_of_ble_eq_true rfl)) dL_isStep_123 ⟨Nat.le_of_ble_eq_true rfl, Nat.le_of_ble_eq_true rfl⟩) hP hD hS hA (pl_cons (List.Perm.refl _) (pl_cons (List.Perm.refl _) (pl_cons (List.Perm.refl _) (List.Perm.refl _)))) (pl_cons (List.Perm.refl _) (pl_cons (List.Perm.refl _) (pl_cons (List.Perm.refl _) (List.Perm.refl _)))) (fun H locs hP hD hS => ?_)
        refine W.widen (k := 0) (n := 0) (Nat.le_of_ble_eq_true rfl) (Nat.le_of_ble_eq_true rfl) ?_
        refine lv_topi (fun y9 e9 => ?_)
        obtain rfl : y9 = nI j_81 := e9.trans ((ct_g _ _ _ hj_55).trans s2_at)
        refine lv_iload hx hb dL_isStep_126 (lv_at hl 1 rfl) ?_
        refine lv_icmp_ne (tgt := 135) hx hb dL_isStep_128 (by decide) (fun c_4 => ?_) (fun c_4 => ?_)
        · exact absurd c_4 (fun q => q (rfl))
        · refine lv_iconst (v := 1) hx hb dL_isStep_131 (by decide) ?_
          refine lv_goto (tgt := 136) hx hb dL_isStep_132 (by decide) ?_
          exact ret_z hx hb hr rfl hlk hP hD hS dL_isStep_136 ⟨Nat.le_of_ble_eq_true rfl, Nat.le_of_ble_eq_true rfl⟩ ⟨rfl, (s2 S 0 j_55 (nI j_81)), (s2 T 0 j_55 (nI j_81)), (D_X0_remember u S), (D_X0_remember uw T), P2, hB.set _ _ (sg_b9 hj_81), (hH.remember hB).up (Nat.le_succ n), hp2, rfl⟩
  · refine lv_iload_n hx hb dL_isStep_66 rfl (lv_at hl 5 rfl) ?_
    refine lv_bipush (v := 19) hx hb dL_isStep_67 (by decide) ?_
    refine cb_iD (wr := wX x r tr pp h sl ++ (wR Y r q S ++ (wP Y pp tx P ++ (wHi Y h sa u ++ (wX y r2 tr2 pp2 h2 sl2 ++ (wR Y r2 q2 T ++ (wP Y pp2 tx2 P2 ++ (wHi Y h2 sa2 uw ++ wt)))))))) (ws' := wX x r tr pp h sl ++ (wR Y r q S ++ (wP Y pp tx P ++ (wHi Y h sa u ++ (wX y r2 tr2 pp2 h2 sl2 ++ (wR Y r2 q2 T ++ (wP Y pp2 tx2 P2 ++ (wHi Y h2 sa2 uw ++ wt)))))))) (va_runS (As := [.int bb, .int 19]) (rest := []) ⟨hx, hb, hml, hown, hts⟩ (c_L_up l D Y H.size bb 19 (by decide)) (va_cwS 2 hts gL_isStep_L_up rfl rfl rfl (by decide +kernel) ⟨Nat.le_of_ble_eq_true rfl, Nat.le_of_ble_eq_true rfl⟩) (psb_S (wr := wX x r tr pp h sl ++ (wR Y r q S ++ (wP Y pp tx P ++ (wHi Y h sa u ++ (wX y r2 tr2 pp2 h2 sl2 ++ (wR Y r2 q2 T ++ (wP Y pp2 tx2 P2 ++ (wHi Y h2 sa2 uw ++ wt)))))))) hK hP hD (List.Perm.refl _)) rfl rfl hl.1 rfl (lv_room (Nat.le_of_ble_eq_true rfl)) dL_isStep_69 ⟨Nat.le_of_ble_eq_true rfl, Nat.le_of_ble_eq_true rfl⟩) hP hD hS hA (List.Perm.refl _) (List.Perm.refl _) (fun H locs hP hD hS => ?_)
    refine W.widen (k := 0) (n := 0) (Nat.le_of_ble_eq_true rfl) (Nat.le_of_ble_eq_true rfl) ?_
    obtain ⟨j_69, hj_69, ej_69⟩ := up_eq bb (n := 19) (by decide) (by decide)
    refine lv_topi (fun y9 e9 => ?_)
    obtain rfl : y9 = nI j_69 := e9.trans (ej_69)
    refine lv_bipush (v := 9) hx hb dL_isStep_72 (by decide) ?_
    refine lv_isub hx hb dL_isStep_74 ?_
    refine lv_goto (tgt := 84) hx hb dL_isStep_75 (by decide) ?_
    refine lv_istore (lv' := [(6, .int ((nI j_69) - 9)), (5, .int (nI j_55)), (4, .int (aa >>> (4 &&& 31))), (0, .ref x), (1, .ref y), (2, .int aa), (3, .int bb)]) hx hb dL_isStep_84 hl (by decide) rfl (fun ls hl => ?_)
    refine lv_aload_n hx hb dL_isStep_86 rfl (lv_at hl 3 rfl) ?_
    refine lv_iload hx hb dL_isStep_87 (lv_at hl 1 rfl) ?_
    refine cb_iD (wr := wX y r2 tr2 pp2 h2 sl2 ++ (wR Y r2 q2 T ++ (wP Y pp2 tx2 P2 ++ (wHi Y h2 sa2 uw ++ wt)))) (ws' := wX x r tr pp h sl ++ (wR Y r q S ++ (wP Y pp tx P ++ (wHi Y h sa u ++ (wX y r2 tr2 pp2 h2 sl2 ++ (wR Y r2 q2 T ++ (wP Y pp2 tx2 P2 ++ (wHi Y h2 sa2 uw ++ wt)))))))) (va_runV (As := [.int (nI j_55)]) (rest := []) ⟨hx, hb, hml, hown, hts⟩ (c_X3_count l D Y H.size r tr pp h sl q tx sa S P u x (nI j_55)) (cwV 1 hts gL_isStep_X3_count rfl rfl rfl (by decide +kernel) ⟨Nat.le_of_ble_eq_true rfl, Nat.le_of_ble_eq_true rfl⟩) (psb_V (wr := wX y r2 tr2 pp2 h2 sl2 ++ (wR Y r2 q2 T ++ (wP Y pp2 tx2 P2 ++ (wHi Y h2 sa2 uw ++ wt)))) hK hP hD (pl_cons (List.Perm.refl _) (pl_cons (List.Perm.refl _) (pl_cons (List.Perm.refl _) (List.Perm.refl _)))) (q0 := 0) rfl rfl) rfl rfl hl.1 rfl (lv_room (Nat.le_of_ble_eq_true rfl)) dL_isStep_89 ⟨Nat.le_of_ble_eq_true rfl, Nat.le_of_ble_eq_true rfl⟩) hP hD hS hA (pl_cons (List.Perm.refl _) (pl_cons (List.Perm.refl _) (pl_cons (List.Perm.refl _) (List.Perm.refl _)))) (pl_cons (List.Perm.refl _) (pl_cons (List.Perm.refl _) (pl_cons (List.Perm.refl _) (List.Perm.refl _)))) (fun H locs hP hD hS => ?_)
    refine W.widen (k := 0) (n := 0) (Nat.le_of_ble_eq_true rfl) (Nat.le_of_ble_eq_true rfl) ?_
    refine lv_topi (fun y9 e9 => ?_)
    obtain rfl : y9 = S 0 j_55 := e9.trans (ct_g _ _ _ hj_55)
    refine lv_istore (lv' := [(7, .int (S 0 j_55)), (6, .int ((nI j_69) - 9)), (5, .int (nI j_55)), (4, .int (aa >>> (4 &&& 31))), (0, .ref x), (1, .ref y), (2, .int aa), (3, .int bb)]) hx hb dL_isStep_92 hl (by decide) rfl (fun ls hl => ?_)
    refine lv_aload_n hx hb dL_isStep_94 rfl (lv_at hl 4 rfl) ?_
    refine lv_iload hx hb dL_isStep_95 (lv_at hl 2 rfl) ?_
    refine lv_iload hx hb dL_isStep_97 (lv_at hl 1 rfl) ?_
    refine cb_iD (wr := wP Y pp tx P ++ (wX y r2 tr2 pp2 h2 sl2 ++ (wR Y r2 q2 T ++ (wP Y pp2 tx2 P2 ++ (wHi Y h2 sa2 uw ++ wt))))) (ws' := wX x r tr pp h sl ++ (wR Y r q ((D_X3_set u S (nI j_55) ((nI j_69) - 9)).2.2) ++ (wP Y pp tx P ++ (wHi Y h sa ((D_X3_set u S (nI j_55) ((nI j_69) - 9)).2.1) ++ (wX y r2 tr2 pp2 h2 sl2 ++ (wR Y r2 q2 T ++ (wP Y pp2 tx2 P2 ++ (wHi Y h2 sa2 uw ++ wt)))))))) (va_runV (As := [.int (nI j_55), .int ((nI j_69) - 9)]) (rest := []) ⟨hx, hb, hml, hown, hts⟩ (c_X3_set l D Y H.size r tr pp h sl sa q u S x (nI j_55) ((nI j_69) - 9) hH.2.1) (cwV 2 hts gL_isStep_X3_set rfl rfl rfl (by decide +kernel) ⟨Nat.le_of_ble_eq_true rfl, Nat.le_of_ble_eq_true rfl⟩) (psb_V (wr := wP Y pp tx P ++ (wX y r2 tr2 pp2 h2 sl2 ++ (wR Y r2 q2 T ++ (wP Y pp2 tx2 P2 ++ (wHi Y h2 sa2 uw ++ wt))))) hK hP hD (pl_cons (List.Perm.refl _) (pl_cons (pl_up (pl_up (List.Perm.refl _))) (List.Perm.refl _))) (q0 := 0) rfl rfl) rfl rfl hl.1 rfl (lv_room (Nat.le_of_ble_eq_true rfl)) dL_isStep_99 ⟨Nat.le_of_ble_eq_true rfl, Nat.le_of_ble_eq_true rfl⟩) hP hD hS hA (pl_cons (List.Perm.refl _) (pl_cons (pl_up (pl_up (List.Perm.refl _))) (List.Perm.refl _))) (pl_cons (List.Perm.refl _) (pl_cons (pl_up (pl_up (List.Perm.refl _))) (List.Perm.refl _))) (fun H locs hP hD hS => ?_)
    refine W.widen (k := 0) (n := 0) (Nat.le_of_ble_eq_true rfl) (Nat.le_of_ble_eq_true rfl) ?_
    have e7 : (D_X3_set u S (nI j_55) ((nI j_69) - 9)).2.1 = D_X0_remember u S := by rw [set_eq _ _ hj_55 (sg_a hj_55 c_1) (m9 hj_69)]
    rw [e7] at hP hD
    clear e7
    have e7 : (D_X3_set u S (nI j_55) ((nI j_69) - 9)).2.2 = s2 S 0 j_55 ((nI j_69) - 9) := by rw [set_eq _ _ hj_55 (sg_a hj_55 c_1) (m9 hj_69)]
    rw [e7] at hP hD
    clear e7
    refine lv_topi (fun y9 e9 => ?_)
    obtain rfl : y9 = S 0 j_55 := e9.trans (by rw [set_eq _ _ hj_55 (sg_a hj_55 c_1) (m9 hj_69)])
    refine lv_iload hx hb dL_isStep_102 (lv_at hl 0 rfl) ?_
    refine lv_icmp_ne (tgt := 135) hx hb dL_isStep_104 (by decide) (fun c_5 => ?_) (fun c_5 => ?_)
    · exact absurd c_5 (fun q => q (rfl))
    · refine lv_aload_n hx hb dL_isStep_107 rfl (lv_at hl 5 rfl) ?_
      refine lv_iload hx hb dL_isStep_108 (lv_at hl 2 rfl) ?_
      refine lv_iload hx hb dL_isStep_110 (lv_at hl 1 rfl) ?_
      refine cb_iD (wr := wX x r tr pp h sl ++ (wR Y r q (s2 S 0 j_55 ((nI j_69) - 9)) ++ (wP Y pp tx P ++ (wHi Y h sa (D_X0_remember u S) ++ (wP Y pp2 tx2 P2 ++ wt))))) (ws' := wX x r tr pp h sl ++ (wR Y r q (s2 S 0 j_55 ((nI j_69) - 9)) ++ (wP Y pp tx P ++ (wHi Y h sa (D_X0_remember u S) ++ (wX y r2 tr2 pp2 h2 sl2 ++ (wR Y r2 q2 ((D_X3_set uw T (nI j_55) ((nI j_69) - 9)).2.2) ++ (wP Y pp2 tx2 P2 ++ (wHi Y h2 sa2 ((D_X3_set uw T (nI j_55) ((nI j_69) - 9)).2.1) ++ wt)))))))) (va_runV (As := [.int (nI j_55), .int ((nI j_69) - 9)]) (rest := []) ⟨hx, hb, hml, hown, hts⟩ (c_X3_set l D Y H.size r2 tr2 pp2 h2 sl2 sa2 q2 uw T y (nI j_55) ((nI j_69) - 9) hH.2.2.1) (cwV 2 hts gL_isStep_X3_set rfl rfl rfl (by decide +kernel) ⟨Nat.le_of_ble_eq_true rfl, Nat.le_of_ble_eq_true rfl⟩) (psb_V (wr := wX x r tr pp h sl ++ (wR Y r q (s2 S 0 j_55 ((nI j_69) - 9)) ++ (wP Y pp tx P ++ (wHi Y h sa (D_X0_remember u S) ++ (wP Y pp2 tx2 P2 ++ wt))))) hK hP hD (pl_cons (pl_up (pl_up (pl_up (pl_up (List.Perm.refl _))))) (pl_cons (pl_up (pl_up (pl_up (pl_up (pl_up (pl_up (List.Perm.refl _))))))) (pl_up (pl_up (pl_up (pl_up (List.Perm.refl _))))))) (q0 := 0) rfl rfl) rfl rfl hl.1 rfl (lv_room (Nat.le_of_ble_eq_true rfl)) dL_isStep_112 ⟨Nat.le_of_ble_eq_true rfl, Nat.le_of_ble_eq_true rfl⟩) hP hD hS hA (pl_cons (pl_up (pl_up (pl_up (pl_up (List.Perm.refl _))))) (pl_cons (pl_up (pl_up (pl_up (pl_up (pl_up (pl_up (List.Perm.refl _))))))) (pl_up (pl_up (pl_up (pl_up (List.Perm.refl _))))))) (pl_cons (pl_up (pl_up (pl_up (pl_up (List.Perm.refl _))))) (pl_cons (pl_up (pl_up (pl_up (pl_up (pl_up (pl_up (List.Perm.refl _))))))) (pl_up (pl_up (pl_up (pl_up (List.Perm.refl _))))))) (fun H locs hP hD hS => ?_)
      refine W.widen (k := 0) (n := 0) (Nat.le_of_ble_eq_true rfl) (Nat.le_of_ble_eq_true rfl) ?_
      have e7 : (D_X3_set uw T (nI j_55) ((nI j_69) - 9)).2.1 = D_X0_remember uw T := by rw [set_eq _ _ hj_55 (sg_a hj_55 c_1) (m9 hj_69)]
      rw [e7] at hP hD
      clear e7
      have e7 : (D_X3_set uw T (nI j_55) ((nI j_69) - 9)).2.2 = s2 T 0 j_55 ((nI j_69) - 9) := by rw [set_eq _ _ hj_55 (sg_a hj_55 c_1) (m9 hj_69)]
      rw [e7] at hP hD
      clear e7
      refine lv_topi (fun y9 e9 => ?_)
      obtain rfl : y9 = S 0 j_55 := e9.trans (by rw [set_eq _ _ hj_55 (sg_a hj_55 c_1) (m9 hj_69)]; exact hB.2.2.1 _ hj_55)
      refine lv_iload hx hb dL_isStep_115 (lv_at hl 0 rfl) ?_
      refine lv_icmp_ne (tgt := 135) hx hb dL_isStep_117 (by decide) (fun c_6 => ?_) (fun c_6 => ?_)
      · exact absurd c_6 (fun q => q (c_5))
      · refine lv_aload_n hx hb dL_isStep_120 rfl (lv_at hl 4 rfl) ?_
        refine lv_iload hx hb dL_isStep_121 (lv_at hl 2 rfl) ?_
        refine cb_iD (wr := wX y r2 tr2 pp2 h2 sl2 ++ (wR Y r2 q2 (s2 T 0 j_55 ((nI j_69) - 9)) ++ (wP Y pp2 tx2 P2 ++ (wHi Y h2 sa2 (D_X0_remember uw T) ++ wt)))) (ws' := wX x r tr pp h sl ++ (wR Y r q (s2 S 0 j_55 ((nI j_69) - 9)) ++ (wP Y pp tx P ++ (wHi Y h sa (D_X0_remember u S) ++ (wX y r2 tr2 pp2 h2 sl2 ++ (wR Y r2 q2 (s2 T 0 j_55 ((nI j_69) - 9)) ++ (wP Y pp2 tx2 P2 ++ (wHi Y h2 sa2 (D_X0_remember uw T) ++ wt)))))))) (va_runV (As := [.int (nI j_55)]) (rest := []) ⟨hx, hb, hml, hown, hts⟩ (c_X3_count l D Y H.size r tr pp h sl q tx sa (s2 S 0 j_55 ((nI j_69) - 9)) P (D_X0_remember u S) x (nI j_55)) (cwV 1 hts gL_isStep_X3_count rfl rfl rfl (by decide +kernel) ⟨Nat.le_of_ble_eq_true rfl, Nat.le_of_ble_eq_true rfl⟩) (psb_V (wr := wX y r2 tr2 pp2 h2 sl2 ++ (wR Y r2 q2 (s2 T 0 j_55 ((nI j_69) - 9)) ++ (wP Y pp2 tx2 P2 ++ (wHi Y h2 sa2 (D_X0_remember uw T) ++ wt)))) hK hP hD (pl_cons (List.Perm.refl _) (pl_cons (List.Perm.refl _) (pl_cons (List.Perm.refl _) (List.Perm.refl _)))) (q0 := 0) rfl rfl) rfl rfl hl.1 rfl (lv_room (Nat.le_of_ble_eq_true rfl)) dL_isStep_123 ⟨Nat.le_of_ble_eq_true rfl, Nat.le_of_ble_eq_true rfl⟩) hP hD hS hA (pl_cons (List.Perm.refl _) (pl_cons (List.Perm.refl _) (pl_cons (List.Perm.refl _) (List.Perm.refl _)))) (pl_cons (List.Perm.refl _) (pl_cons (List.Perm.refl _) (pl_cons (List.Perm.refl _) (List.Perm.refl _)))) (fun H locs hP hD hS => ?_)
        refine W.widen (k := 0) (n := 0) (Nat.le_of_ble_eq_true rfl) (Nat.le_of_ble_eq_true rfl) ?_
        refine lv_topi (fun y9 e9 => ?_)
        obtain rfl : y9 = (nI j_69) - 9 := e9.trans ((ct_g _ _ _ hj_55).trans s2_at)
        refine lv_iload hx hb dL_isStep_126 (lv_at hl 1 rfl) ?_
        refine lv_icmp_ne (tgt := 135) hx hb dL_isStep_128 (by decide) (fun c_7 => ?_) (fun c_7 => ?_)
        · exact absurd c_7 (fun q => q (rfl))
        · refine lv_iconst (v := 1) hx hb dL_isStep_131 (by decide) ?_
          refine lv_goto (tgt := 136) hx hb dL_isStep_132 (by decide) ?_
          exact ret_z hx hb hr rfl hlk hP hD hS dL_isStep_136 ⟨Nat.le_of_ble_eq_true rfl, Nat.le_of_ble_eq_true rfl⟩ ⟨rfl, (s2 S 0 j_55 ((nI j_69) - 9)), (s2 T 0 j_55 ((nI j_69) - 9)), (D_X0_remember u S), (D_X0_remember uw T), P2, hB.set _ _ (sg_a9 hj_55 c_1), (hH.remember hB).up (Nat.le_succ n), hp2, rfl⟩

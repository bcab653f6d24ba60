set_option maxHeartbeats 4000000 in
set_option maxRecDepth 100000 in
theorem c_L_isStep_5 (l : Launch) (D : va_G) (Y : YY) (sz : Nat) (r : Nat) (tr : Nat) (pp : Nat) (h : Nat) (sl : Nat) (q : Nat → Nat) (tx : Nat) (sa : Nat) (r2 : Nat) (tr2 : Nat) (pp2 : Nat) (h2 : Nat) (sl2 : Nat) (q2 : Nat → Nat) (tx2 : Nat) (sa2 : Nat) (S : Nat → Nat → Int32) (P : Nat → Nat → Int32) (u : HS) (T : Nat → Nat → Int32) (P2 : Nat → Nat → Int32) (uw : HS) (n : Nat) (wt : va_W) (x : Nat) (y : Nat) (aa : Int32) (bb : Int32) (hB : Both n S T) (hH : HB n u uw) (hn : n ≤ 60) (hp2 : P2 1 0 = 0) (hup : D_L_up aa 15 = 5) : Met l yL_isStep wsL_isStep ({ frames := 7, cells := 22, slots := 626, locals := 227 } : Room) (va_Pc [.ref x, .ref y, .int aa, .int bb] (Pst D Y sz (wX x r tr pp h sl ++ (wR Y r q S ++ (wP Y pp tx P ++ (wHi Y h sa u ++ (wX y r2 tr2 pp2 h2 sl2 ++ (wR Y r2 q2 T ++ (wP Y pp2 tx2 P2 ++ (wHi Y h2 sa2 uw ++ wt)))))))))) ((fun A : Nat → Prop => Qsi D (fun r9 w9 => r9 = 1 ∧ ∃ (S9 T9 : Nat → Nat → Int32) (u9 v9 : HS) (P9 : Nat → Nat → Int32), Both (n + 1) S9 T9 ∧ HB (n + 1) u9 v9 ∧ P9 1 0 = 0 ∧ w9 = wX x r tr pp h sl ++ (wR Y r q S9 ++ (wP Y pp tx P ++ (wHi Y h sa u9 ++ (wX y r2 tr2 pp2 h2 sl2 ++ (wR Y r2 q2 T9 ++ (wP Y pp2 tx2 P9 ++ (wHi Y h2 sa2 v9 ++ wt)))))))) A) (va_A (wX x r tr pp h sl ++ (wR Y r q S ++ (wP Y pp tx P ++ (wHi Y h sa u ++ (wX y r2 tr2 pp2 h2 sl2 ++ (wR Y r2 q2 T ++ (wP Y pp2 tx2 P2 ++ (wHi Y h2 sa2 uw ++ wt)))))))) sz)) 22 626 (va_A (wX x r tr pp h sl ++ (wR Y r q S ++ (wP Y pp tx P ++ (wHi Y h sa u ++ (wX y r2 tr2 pp2 h2 sl2 ++ (wR Y r2 q2 T ++ (wP Y pp2 tx2 P2 ++ (wHi Y h2 sa2 uw ++ wt)))))))) sz) := by
  refine ct_in (cc := cL_isStep) (maxL := 9) (ret := (some .boolean)) (Qc := fun A : Nat → Prop => Qsi D (fun r9 w9 => r9 = 1 ∧ ∃ (S9 T9 : Nat → Nat → Int32) (u9 v9 : HS) (P9 : Nat → Nat → Int32), Both (n + 1) S9 T9 ∧ HB (n + 1) u9 v9 ∧ P9 1 0 = 0 ∧ w9 = wX x r tr pp h sl ++ (wR Y r q S9 ++ (wP Y pp tx P ++ (wHi Y h sa u9 ++ (wX y r2 tr2 pp2 h2 sl2 ++ (wR Y r2 q2 T9 ++ (wP Y pp2 tx2 P9 ++ (wHi Y h2 sa2 v9 ++ wt)))))))) A) (by decide +kernel) rfl (Nat.le_of_ble_eq_true rfl) ?_
  intro p e s m below meth c A ls hx hb hr hts hown hml hlk hin hsz hA hP hD hK hS hl
  have hown : s.vm.findClass RL = some m.cls := hown
  have hl : lv_has ls 9 [(0, .ref x), (1, .ref y), (2, .int aa), (3, .int bb)] := hl
  show W p l e ({ frames := 7, cells := 22, slots := 626, locals := 227 } : Room) s m ([.ref x, .ref y, .int aa, .int bb] : List Value).toArray below meth c s.heap [] 0 0 (MQ below (Qsi D (fun r9 w9 => r9 = 1 ∧ ∃ (S9 T9 : Nat → Nat → Int32) (u9 v9 : HS) (P9 : Nat → Nat → Int32), Both (n + 1) S9 T9 ∧ HB (n + 1) u9 v9 ∧ P9 1 0 = 0 ∧ w9 = wX x r tr pp h sl ++ (wR Y r q S9 ++ (wP Y pp tx P ++ (wHi Y h sa u9 ++ (wX y r2 tr2 pp2 h2 sl2 ++ (wR Y r2 q2 T9 ++ (wP Y pp2 tx2 P9 ++ (wHi Y h2 sa2 v9 ++ wt)))))))) A) ([.ref x, .ref y, .int aa, .int bb] : List Value).toArray s 22 626 A) (F0 m 0 ls [])
  refine lv_iload_n hx hb dL_isStep_0 rfl (lv_at hl 2 rfl) ?_
  refine lv_iconst (v := 4) hx hb dL_isStep_1 (by decide) ?_
  refine lv_ishr hx hb dL_isStep_2 ?_
  refine lv_istore (lv' := [(4, .int (aa >>> (4 &&& 31))), (0, .ref x), (1, .ref y), (2, .int aa), (3, .int bb)]) hx hb dL_isStep_3 hl (by decide) rfl (fun ls hl => ?_)
  refine lv_iload_n hx hb dL_isStep_5 rfl (lv_at hl 3 rfl) ?_
  refine lv_bipush (v := 15) hx hb dL_isStep_6 (by decide) ?_
  refine cb_iD (wr := wX x r tr pp h sl ++ (wR Y r q S ++ (wP Y pp tx P ++ (wHi Y h sa u ++ (wX y r2 tr2 pp2 h2 sl2 ++ (wR Y r2 q2 T ++ (wP Y pp2 tx2 P2 ++ (wHi Y h2 sa2 uw ++ wt)))))))) (ws' := wX x r tr pp h sl ++ (wR Y r q S ++ (wP Y pp tx P ++ (wHi Y h sa u ++ (wX y r2 tr2 pp2 h2 sl2 ++ (wR Y r2 q2 T ++ (wP Y pp2 tx2 P2 ++ (wHi Y h2 sa2 uw ++ wt)))))))) (va_runS (As := [.int aa, .int 15]) (rest := []) ⟨hx, hb, hml, hown, hts⟩ (c_L_up l D Y s.heap.size aa 15 (by decide)) (va_cwS 2 hts gL_isStep_L_up rfl rfl rfl (by decide +kernel) ⟨Nat.le_of_ble_eq_true rfl, Nat.le_of_ble_eq_true rfl⟩) (psb_S (wr := wX x r tr pp h sl ++ (wR Y r q S ++ (wP Y pp tx P ++ (wHi Y h sa u ++ (wX y r2 tr2 pp2 h2 sl2 ++ (wR Y r2 q2 T ++ (wP Y pp2 tx2 P2 ++ (wHi Y h2 sa2 uw ++ wt)))))))) hK hP hD (List.Perm.refl _)) rfl rfl hl.1 rfl (lv_room (Nat.le_of_ble_eq_true rfl)) dL_isStep_8 ⟨Nat.le_of_ble_eq_true rfl, Nat.le_of_ble_eq_true rfl⟩) hP hD hS hA (List.Perm.refl _) (List.Perm.refl _) (fun H locs hP hD hS => ?_)
  refine W.widen (k := 0) (n := 0) (Nat.le_of_ble_eq_true rfl) (Nat.le_of_ble_eq_true rfl) ?_
  refine lv_topi (fun y9 e9 => ?_)
  obtain rfl : y9 = 5 := e9.trans (hup)
  refine lv_tableIn (off := 423) (tgt := 434) hx hb dL_isStep_11 (by decide) (by decide) (by rfl) (by decide) ?_
  refine lv_aload_n hx hb dL_isStep_434 rfl (lv_at hl 1 rfl) ?_
  refine lv_bipush (v := 12) hx hb dL_isStep_435 (by decide) ?_
  refine cb_iD (wr := wX y r2 tr2 pp2 h2 sl2 ++ (wR Y r2 q2 T ++ (wP Y pp2 tx2 P2 ++ (wHi Y h2 sa2 uw ++ wt)))) (ws' := wX x r tr pp h sl ++ (wR Y r q S ++ (wP Y pp tx P ++ (wHi Y h sa u ++ (wX y r2 tr2 pp2 h2 sl2 ++ (wR Y r2 q2 T ++ (wP Y pp2 tx2 P2 ++ (wHi Y h2 sa2 uw ++ wt)))))))) (va_runV (As := [.int 12]) (rest := []) ⟨hx, hb, hml, hown, hts⟩ (c_X3_count l D Y H.size r tr pp h sl q tx sa S P u x 12) (cwV 1 hts gL_isStep_X3_count rfl rfl rfl (by decide +kernel) ⟨Nat.le_of_ble_eq_true rfl, Nat.le_of_ble_eq_true rfl⟩) (psb_V (wr := wX y r2 tr2 pp2 h2 sl2 ++ (wR Y r2 q2 T ++ (wP Y pp2 tx2 P2 ++ (wHi Y h2 sa2 uw ++ wt)))) hK hP hD (pl_cons (List.Perm.refl _) (pl_cons (List.Perm.refl _) (pl_cons (List.Perm.refl _) (List.Perm.refl _)))) (q0 := 0) rfl rfl) rfl rfl hl.1 rfl (lv_room (Nat.le_of_ble_eq_true rfl)) dL_isStep_437 ⟨Nat.le_of_ble_eq_true rfl, Nat.le_of_ble_eq_true rfl⟩) hP hD hS hA (pl_cons (List.Perm.refl _) (pl_cons (List.Perm.refl _) (pl_cons (List.Perm.refl _) (List.Perm.refl _)))) (pl_cons (List.Perm.refl _) (pl_cons (List.Perm.refl _) (pl_cons (List.Perm.refl _) (List.Perm.refl _)))) (fun H locs hP hD hS => ?_)
  refine W.widen (k := 0) (n := 0) (Nat.le_of_ble_eq_true rfl) (Nat.le_of_ble_eq_true rfl) ?_
  refine lv_topi (fun y9 e9 => ?_)
  obtain rfl : y9 = nI u.1 := e9.trans (ct_12 _ _ _)
  refine lv_if_eq (tgt := 454) hx hb dL_isStep_440 (by decide) (fun c_1 => ?_) (fun c_1 => ?_)
  · refine lv_iconst (v := 1) hx hb dL_isStep_454 (by decide) ?_
    refine lv_goto (tgt := 459) hx hb dL_isStep_455 (by decide) ?_
    exact ret_z hx hb hr rfl hlk hP hD hS dL_isStep_459 ⟨Nat.le_of_ble_eq_true rfl, Nat.le_of_ble_eq_true rfl⟩ ⟨rfl, S, T, u, uw, P2, hB.up (Nat.le_succ n), hH.up (Nat.le_succ n), hp2, rfl⟩
  · refine lv_aload_n hx hb dL_isStep_443 rfl (lv_at hl 1 rfl) ?_
    refine cb_iD (wr := wP Y pp tx P ++ (wX y r2 tr2 pp2 h2 sl2 ++ (wR Y r2 q2 T ++ (wP Y pp2 tx2 P2 ++ (wHi Y h2 sa2 uw ++ wt))))) (ws' := wX x r tr pp h sl ++ (wR Y r q ((D_X3_undo u S).2.2) ++ (wP Y pp tx P ++ (wHi Y h sa ((D_X3_undo u S).2.1) ++ (wX y r2 tr2 pp2 h2 sl2 ++ (wR Y r2 q2 T ++ (wP Y pp2 tx2 P2 ++ (wHi Y h2 sa2 uw ++ wt)))))))) (va_runV (As := []) (rest := []) ⟨hx, hb, hml, hown, hts⟩ (c_X3_undo l D Y H.size r tr pp h sl sa q u S x hH.2.1) (cwV 0 hts gL_isStep_X3_undo rfl rfl rfl (by decide +kernel) ⟨Nat.le_of_ble_eq_true rfl, Nat.le_of_ble_eq_true rfl⟩) (psb_V (wr := wP Y pp tx P ++ (wX y r2 tr2 pp2 h2 sl2 ++ (wR Y r2 q2 T ++ (wP Y pp2 tx2 P2 ++ (wHi Y h2 sa2 uw ++ wt))))) hK hP hD (pl_cons (List.Perm.refl _) (pl_cons (pl_up (pl_up (List.Perm.refl _))) (List.Perm.refl _))) (q0 := 0) rfl rfl) rfl rfl hl.1 rfl (lv_room (Nat.le_of_ble_eq_true rfl)) dL_isStep_444 ⟨Nat.le_of_ble_eq_true rfl, Nat.le_of_ble_eq_true rfl⟩) hP hD hS hA (pl_cons (List.Perm.refl _) (pl_cons (pl_up (pl_up (List.Perm.refl _))) (List.Perm.refl _))) (pl_cons (List.Perm.refl _) (pl_cons (pl_up (pl_up (List.Perm.refl _))) (List.Perm.refl _))) (fun H locs hP hD hS => ?_)
    refine W.widen (k := 0) (n := 0) (Nat.le_of_ble_eq_true rfl) (Nat.le_of_ble_eq_true rfl) ?_
    have e7 : (D_X3_undo u S).2.1 = (u.1 - 1, u.2) := congrArg (fun z => z.2.1) (un_eq hH.2.1 S c_1)
    rw [e7] at hP hD
    clear e7
    have e7 : (D_X3_undo u S).2.2 = D_X2_copyFrom S (u.2.2.2.2 (u.1 - 1)) := congrArg (fun z => z.2.2) (un_eq hH.2.1 S c_1)
    rw [e7] at hP hD
    clear e7
    refine lv_topi (fun y9 e9 => ?_)
    obtain rfl : y9 = nI (u.1 - 1) := e9.trans (congrArg (fun z => z.1) (un_eq hH.2.1 S c_1))
    refine lv_aload_n hx hb dL_isStep_447 rfl (lv_at hl 2 rfl) ?_
    refine cb_iD (wr := wX x r tr pp h sl ++ (wR Y r q (D_X2_copyFrom S (u.2.2.2.2 (u.1 - 1))) ++ (wP Y pp tx P ++ (wHi Y h sa (u.1 - 1, u.2) ++ (wP Y pp2 tx2 P2 ++ wt))))) (ws' := wX x r tr pp h sl ++ (wR Y r q (D_X2_copyFrom S (u.2.2.2.2 (u.1 - 1))) ++ (wP Y pp tx P ++ (wHi Y h sa (u.1 - 1, u.2) ++ (wX y r2 tr2 pp2 h2 sl2 ++ (wR Y r2 q2 ((D_X3_undo uw T).2.2) ++ (wP Y pp2 tx2 P2 ++ (wHi Y h2 sa2 ((D_X3_undo uw T).2.1) ++ wt)))))))) (va_runV (As := []) (rest := [.int (nI (u.1 - 1))]) ⟨hx, hb, hml, hown, hts⟩ (c_X3_undo l D Y H.size r2 tr2 pp2 h2 sl2 sa2 q2 uw T y hH.2.2.1) (cwV 0 hts gL_isStep_X3_undo rfl rfl rfl (by decide +kernel) ⟨Nat.le_of_ble_eq_true rfl, Nat.le_of_ble_eq_true rfl⟩) (psb_V (wr := wX x r tr pp h sl ++ (wR Y r q (D_X2_copyFrom S (u.2.2.2.2 (u.1 - 1))) ++ (wP Y pp tx P ++ (wHi Y h sa (u.1 - 1, u.2) ++ (wP Y pp2 tx2 P2 ++ wt))))) hK hP hD (pl_cons (pl_up (pl_up (pl_up (pl_up (List.Perm.refl _))))) (pl_cons (pl_up (pl_up (pl_up (pl_up (pl_up (pl_up (List.Perm.refl _))))))) (pl_up (pl_up (pl_up (pl_up (List.Perm.refl _))))))) (q0 := 0) rfl rfl) rfl rfl hl.1 rfl (lv_room (Nat.le_of_ble_eq_true rfl)) dL_isStep_448 ⟨Nat.le_of_ble_eq_true rfl, Nat.le_of_ble_eq_true rfl⟩) hP hD hS hA (pl_cons (pl_up (pl_up (pl_up (pl_up (List.Perm.refl _))))) (pl_cons (pl_up (pl_up (pl_up (pl_up (pl_up (pl_up (List.Perm.refl _))))))) (pl_up (pl_up (pl_up (pl_up (List.Perm.refl _))))))) (pl_cons (pl_up (pl_up (pl_up (pl_up (List.Perm.refl _))))) (pl_cons (pl_up (pl_up (pl_up (pl_up (pl_up (pl_up (List.Perm.refl _))))))) (pl_up (pl_up (pl_up (pl_up (List.Perm.refl _))))))) (fun H locs hP hD hS => ?_)
    refine W.widen (k := 0) (n := 0) (Nat.le_of_ble_eq_true rfl) (Nat.le_of_ble_eq_true rfl) ?_
    have e7 : (D_X3_undo uw T).2.1 = (uw.1 - 1, uw.2) := congrArg (fun z => z.2.1) (un_eq hH.2.2.1 T (hH.wn c_1))
    rw [e7] at hP hD
    clear e7
    have e7 : (D_X3_undo uw T).2.2 = D_X2_copyFrom T (uw.2.2.2.2 (uw.1 - 1)) := congrArg (fun z => z.2.2) (un_eq hH.2.2.1 T (hH.wn c_1))
    rw [e7] at hP hD
    clear e7
    refine lv_topi (fun y9 e9 => ?_)
    obtain rfl : y9 = nI (u.1 - 1) := e9.trans ((congrArg (fun z => z.1) (un_eq hH.2.2.1 T (hH.wn c_1))).trans (by rw [hH.1]))
    refine lv_icmp_ne (tgt := 458) hx hb dL_isStep_451 (by decide) (fun c_2 => ?_) (fun c_2 => ?_)
    · exact absurd c_2 (fun q => q (rfl))
    · refine lv_iconst (v := 1) hx hb dL_isStep_454 (by decide) ?_
      refine lv_goto (tgt := 459) hx hb dL_isStep_455 (by decide) ?_
      exact ret_z hx hb hr rfl hlk hP hD hS dL_isStep_459 ⟨Nat.le_of_ble_eq_true rfl, Nat.le_of_ble_eq_true rfl⟩ ⟨rfl, (D_X2_copyFrom S (u.2.2.2.2 (u.1 - 1))), (D_X2_copyFrom T (uw.2.2.2.2 (uw.1 - 1))), (u.1 - 1, u.2), (uw.1 - 1, uw.2), P2, hH.un c_1, (hH.back (un_pos c_1)).up (Nat.le_succ n), hp2, rfl⟩

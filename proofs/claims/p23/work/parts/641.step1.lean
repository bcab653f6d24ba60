set_option maxHeartbeats 4000000 in
set_option maxRecDepth 100000 in
theorem c_L_isStep_1 (l : Launch) (D : va_G) (Y : YY) (sz : Nat) (r : Nat) (tr : Nat) (pp : Nat) (h : Nat) (sl : Nat) (q : Nat → Nat) (tx : Nat) (sa : Nat) (r2 : Nat) (tr2 : Nat) (pp2 : Nat) (h2 : Nat) (sl2 : Nat) (q2 : Nat → Nat) (tx2 : Nat) (sa2 : Nat) (S : Nat → Nat → Int32) (P : Nat → Nat → Int32) (u : HS) (T : Nat → Nat → Int32) (P2 : Nat → Nat → Int32) (uw : HS) (n : Nat) (wt : va_W) (x : Nat) (y : Nat) (aa : Int32) (bb : Int32) (hB : Both n S T) (hH : HB n u uw) (hn : n ≤ 60) (hp2 : P2 1 0 = 0) (hup : D_L_up aa 15 = 1) : Met l yL_isStep wsL_isStep ({ frames := 7, cells := 22, slots := 626, locals := 227 } : Room) (va_Pc [.ref x, .ref y, .int aa, .int bb] (Pst D Y sz (wX x r tr pp h sl ++ (wR Y r q S ++ (wP Y pp tx P ++ (wHi Y h sa u ++ (wX y r2 tr2 pp2 h2 sl2 ++ (wR Y r2 q2 T ++ (wP Y pp2 tx2 P2 ++ (wHi Y h2 sa2 uw ++ wt)))))))))) ((fun A : Nat → Prop => Qsi D (fun r9 w9 => r9 = 1 ∧ ∃ (S9 T9 : Nat → Nat → Int32) (u9 v9 : HS) (P9 : Nat → Nat → Int32), Both (n + 1) S9 T9 ∧ HB (n + 1) u9 v9 ∧ P9 1 0 = 0 ∧ w9 = wX x r tr pp h sl ++ (wR Y r q S9 ++ (wP Y pp tx P ++ (wHi Y h sa u9 ++ (wX y r2 tr2 pp2 h2 sl2 ++ (wR Y r2 q2 T9 ++ (wP Y pp2 tx2 P9 ++ (wHi Y h2 sa2 v9 ++ wt)))))))) A) (va_A (wX x r tr pp h sl ++ (wR Y r q S ++ (wP Y pp tx P ++ (wHi Y h sa u ++ (wX y r2 tr2 pp2 h2 sl2 ++ (wR Y r2 q2 T ++ (wP Y pp2 tx2 P2 ++ (wHi Y h2 sa2 uw ++ wt)))))))) sz)) 22 626 (va_A (wX x r tr pp h sl ++ (wR Y r q S ++ (wP Y pp tx P ++ (wHi Y h sa u ++ (wX y r2 tr2 pp2 h2 sl2 ++ (wR Y r2 q2 T ++ (wP Y pp2 tx2 P2 ++ (wHi Y h2 sa2 uw ++ wt)))))))) sz) := by
  refine ct_in (cc := cL_isStep) (maxL := 9) (ret := (some .boolean)) (Qc := fun A : Nat → Prop => Qsi D (fun r9 w9 => r9 = 1 ∧ ∃ (S9 T9 : Nat → Nat → Int32) (u9 v9 : HS) (P9 : Nat → Nat → Int32), Both (n + 1) S9 T9 ∧ HB (n + 1) u9 v9 ∧ P9 1 0 = 0 ∧ w9 = wX x r tr pp h sl ++ (wR Y r q S9 ++ (wP Y pp tx P ++ (wHi Y h sa u9 ++ (wX y r2 tr2 pp2 h2 sl2 ++ (wR Y r2 q2 T9 ++ (wP Y pp2 tx2 P9 ++ (wHi Y h2 sa2 v9 ++ wt)))))))) A) (by decide +kernel) rfl (Nat.le_of_ble_eq_true rfl) ?_
  intro p e s m below meth c A ls hx hb hr hts hown hml hlk hin hsz hA hP hD hK hS hl
  have hown : s.vm.findClass RL = some m.cls := hown
  have hl : lv_has ls 9 [(0, .ref x), (1, .ref y), (2, .int aa), (3, .int bb)] := hl
  show W p l e ({ frames := 7, cells := 22, slots := 626, locals := 227 } : Room) s m ([.ref x, .ref y, .int aa, .int bb] : List Value).toArray below meth c s.heap [] 0 0 (MQ below (Qsi D (fun r9 w9 => r9 = 1 ∧ ∃ (S9 T9 : Nat → Nat → Int32) (u9 v9 : HS) (P9 : Nat → Nat → Int32), Both (n + 1) S9 T9 ∧ HB (n + 1) u9 v9 ∧ P9 1 0 = 0 ∧ w9 = wX x r tr pp h sl ++ (wR Y r q S9 ++ (wP Y pp tx P ++ (wHi Y h sa u9 ++ (wX y r2 tr2 pp2 h2 sl2 ++ (wR Y r2 q2 T9 ++ (wP Y pp2 tx2 P9 ++ (wHi Y h2 sa2 v9 ++ wt)))))))) A) ([.ref x, .ref y, .int aa, .int bb] : List Value).toArray s 22 626 A) (F0 m 0 ls [])
  refine lv_iload_n hx hb dL_isStep_0 rfl (lv_at hl 2 rfl) ?_
  refine lv_iconst (v := 4) hx hb dL_isStep_1 (by decide) ?_
  refine lv_ishr hx hb dL_isStep_2 ?_
  refine lv_istore (lv' := [(4, .int (aa >>> (4 &&& 31))), (0, .ref x), (1, .ref y), (2, .int aa), (3, .int bb)]) hx hb dL_isStep_3 hl (by decide) rfl (fun ls hl => ?_)
  refine lv_iload_n hx hb dL_isStep_5 rfl (lv_at hl 3 rfl) ?_
  refine lv_bipush (v := 15) hx hb dL_isStep_6 (by decide) ?_
  refine cb_iD (wr := wX x r tr pp h sl ++ (wR Y r q S ++ (wP Y pp tx P ++ (wHi Y h sa u ++ (wX y r2 tr2 pp2 h2 sl2 ++ (wR Y r2 q2 T ++ (wP Y pp2 tx2 P2 ++ (wHi Y h2 sa2 uw ++ wt)))))))) (ws' := wX x r tr pp h sl ++ (wR Y r q S ++ (wP Y pp tx P ++ (wHi Y h sa u ++ (wX y r2 tr2 pp2 h2 sl2 ++ (wR Y r2 q2 T ++ (wP Y pp2 tx2 P2 ++ (wHi Y h2 sa2 uw ++ wt)))))))) (va_runS (As := [.int aa, .int 15]) (rest := []) ⟨hx, hb, hml, hown, hts⟩ (c_L_up l D Y s.heap.size aa 15 (by decide)) (va_cwS 2 hts gL_isStep_L_up rfl rfl rfl (by decide +kernel) ⟨Nat.le_of_ble_eq_true rfl, Nat.le_of_ble_eq_true rfl⟩) (psb_S (wr := wX x r tr pp h sl ++ (wR Y r q S ++ (wP Y pp tx P ++ (wHi Y h sa u ++ (wX y r2 tr2 pp2 h2 sl2 ++ (wR Y r2 q2 T ++ (wP Y pp2 tx2 P2 ++ (wHi Y h2 sa2 uw ++ wt)))))))) hK hP hD (List.Perm.refl _)) rfl rfl hl.1 rfl (lv_room (Nat.le_of_ble_eq_true rfl)) dL_isStep_8 ⟨Nat.le_of_ble_eq_true rfl, Nat.le_of_ble_eq_true rfl⟩) hP hD hS hA (List.Perm.refl _) (List.Perm.refl _) (fun H locs hP hD hS => ?_)
  refine W.widen (k := 0) (n := 0) (Nat.le_of_ble_eq_true rfl) (Nat.le_of_ble_eq_true rfl) ?_
  refine lv_topi (fun y9 e9 => ?_)
  obtain rfl : y9 = 1 := e9.trans (hup)
  refine lv_tableIn (off := 126) (tgt := 137) hx hb dL_isStep_11 (by decide) (by decide) (by rfl) (by decide) ?_
  refine lv_iload hx hb dL_isStep_137 (lv_at hl 0 rfl) ?_
  refine lv_bipush (v := 9) hx hb dL_isStep_139 (by decide) ?_
  refine cb_iD (wr := wX x r tr pp h sl ++ (wR Y r q S ++ (wP Y pp tx P ++ (wHi Y h sa u ++ (wX y r2 tr2 pp2 h2 sl2 ++ (wR Y r2 q2 T ++ (wP Y pp2 tx2 P2 ++ (wHi Y h2 sa2 uw ++ wt)))))))) (ws' := wX x r tr pp h sl ++ (wR Y r q S ++ (wP Y pp tx P ++ (wHi Y h sa u ++ (wX y r2 tr2 pp2 h2 sl2 ++ (wR Y r2 q2 T ++ (wP Y pp2 tx2 P2 ++ (wHi Y h2 sa2 uw ++ wt)))))))) (va_runS (As := [.int (aa >>> (4 &&& 31)), .int 9]) (rest := []) ⟨hx, hb, hml, hown, hts⟩ (c_L_up l D Y H.size (aa >>> (4 &&& 31)) 9 (by decide)) (va_cwS 2 hts gL_isStep_L_up rfl rfl rfl (by decide +kernel) ⟨Nat.le_of_ble_eq_true rfl, Nat.le_of_ble_eq_true rfl⟩) (psb_S (wr := wX x r tr pp h sl ++ (wR Y r q S ++ (wP Y pp tx P ++ (wHi Y h sa u ++ (wX y r2 tr2 pp2 h2 sl2 ++ (wR Y r2 q2 T ++ (wP Y pp2 tx2 P2 ++ (wHi Y h2 sa2 uw ++ wt)))))))) hK hP hD (List.Perm.refl _)) rfl rfl hl.1 rfl (lv_room (Nat.le_of_ble_eq_true rfl)) dL_isStep_141 ⟨Nat.le_of_ble_eq_true rfl, Nat.le_of_ble_eq_true rfl⟩) hP hD hS hA (List.Perm.refl _) (List.Perm.refl _) (fun H locs hP hD hS => ?_)
  refine W.widen (k := 0) (n := 0) (Nat.le_of_ble_eq_true rfl) (Nat.le_of_ble_eq_true rfl) ?_
  obtain ⟨j_141, hj_141, ej_141⟩ := up_eq (aa >>> (4 &&& 31)) (n := 9) (by decide) (by decide)
  refine lv_topi (fun y9 e9 => ?_)
  obtain rfl : y9 = nI j_141 := e9.trans (ej_141)
  refine lv_istore (lv' := [(5, .int (nI j_141)), (4, .int (aa >>> (4 &&& 31))), (0, .ref x), (1, .ref y), (2, .int aa), (3, .int bb)]) hx hb dL_isStep_144 hl (by decide) rfl (fun ls hl => ?_)
  refine lv_iload hx hb dL_isStep_146 (lv_at hl 0 rfl) ?_
  refine lv_iconst (v := 1) hx hb dL_isStep_148 (by decide) ?_
  refine lv_iadd hx hb dL_isStep_149 ?_
  refine lv_iload hx hb dL_isStep_150 (lv_at hl 1 rfl) ?_
  refine lv_iconst (v := 4) hx hb dL_isStep_152 (by decide) ?_
  refine lv_ishr hx hb dL_isStep_153 ?_
  refine lv_bipush (v := 8) hx hb dL_isStep_154 (by decide) ?_
  refine cb_iD (wr := wX x r tr pp h sl ++ (wR Y r q S ++ (wP Y pp tx P ++ (wHi Y h sa u ++ (wX y r2 tr2 pp2 h2 sl2 ++ (wR Y r2 q2 T ++ (wP Y pp2 tx2 P2 ++ (wHi Y h2 sa2 uw ++ wt)))))))) (ws' := wX x r tr pp h sl ++ (wR Y r q S ++ (wP Y pp tx P ++ (wHi Y h sa u ++ (wX y r2 tr2 pp2 h2 sl2 ++ (wR Y r2 q2 T ++ (wP Y pp2 tx2 P2 ++ (wHi Y h2 sa2 uw ++ wt)))))))) (va_runS (As := [.int ((aa >>> (4 &&& 31)) >>> (4 &&& 31)), .int 8]) (rest := [.int ((nI j_141) + 1)]) ⟨hx, hb, hml, hown, hts⟩ (c_L_up l D Y H.size ((aa >>> (4 &&& 31)) >>> (4 &&& 31)) 8 (by decide)) (va_cwS 2 hts gL_isStep_L_up rfl rfl rfl (by decide +kernel) ⟨Nat.le_of_ble_eq_true rfl, Nat.le_of_ble_eq_true rfl⟩) (psb_S (wr := wX x r tr pp h sl ++ (wR Y r q S ++ (wP Y pp tx P ++ (wHi Y h sa u ++ (wX y r2 tr2 pp2 h2 sl2 ++ (wR Y r2 q2 T ++ (wP Y pp2 tx2 P2 ++ (wHi Y h2 sa2 uw ++ wt)))))))) hK hP hD (List.Perm.refl _)) rfl rfl hl.1 rfl (lv_room (Nat.le_of_ble_eq_true rfl)) dL_isStep_156 ⟨Nat.le_of_ble_eq_true rfl, Nat.le_of_ble_eq_true rfl⟩) hP hD hS hA (List.Perm.refl _) (List.Perm.refl _) (fun H locs hP hD hS => ?_)
  refine W.widen (k := 0) (n := 0) (Nat.le_of_ble_eq_true rfl) (Nat.le_of_ble_eq_true rfl) ?_
  obtain ⟨j_156, hj_156, ej_156⟩ := up_eq ((aa >>> (4 &&& 31)) >>> (4 &&& 31)) (n := 8) (by decide) (by decide)
  refine lv_topi (fun y9 e9 => ?_)
  obtain rfl : y9 = nI j_156 := e9.trans (ej_156)
  refine lv_iadd hx hb dL_isStep_159 ?_
  refine lv_bipush (v := 9) hx hb dL_isStep_160 (by decide) ?_
  refine lv_irem hx hb dL_isStep_162 (by decide) ?_
  obtain ⟨o_162, ho_162, hne_162, eo_162⟩ := other_eq hj_141 hj_156
  refine lv_topi (fun y9 e9 => ?_)
  obtain rfl : y9 = nI o_162 := e9.trans (eo_162)
  refine lv_istore (lv' := [(6, .int (nI o_162)), (5, .int (nI j_141)), (4, .int (aa >>> (4 &&& 31))), (0, .ref x), (1, .ref y), (2, .int aa), (3, .int bb)]) hx hb dL_isStep_163 hl (by decide) rfl (fun ls hl => ?_)
  refine lv_iload_n hx hb dL_isStep_165 rfl (lv_at hl 6 rfl) ?_
  refine lv_bipush (v := 19) hx hb dL_isStep_166 (by decide) ?_
  refine cb_iD (wr := wX x r tr pp h sl ++ (wR Y r q S ++ (wP Y pp tx P ++ (wHi Y h sa u ++ (wX y r2 tr2 pp2 h2 sl2 ++ (wR Y r2 q2 T ++ (wP Y pp2 tx2 P2 ++ (wHi Y h2 sa2 uw ++ wt)))))))) (ws' := wX x r tr pp h sl ++ (wR Y r q S ++ (wP Y pp tx P ++ (wHi Y h sa u ++ (wX y r2 tr2 pp2 h2 sl2 ++ (wR Y r2 q2 T ++ (wP Y pp2 tx2 P2 ++ (wHi Y h2 sa2 uw ++ wt)))))))) (va_runS (As := [.int bb, .int 19]) (rest := []) ⟨hx, hb, hml, hown, hts⟩ (c_L_up l D Y H.size bb 19 (by decide)) (va_cwS 2 hts gL_isStep_L_up rfl rfl rfl (by decide +kernel) ⟨Nat.le_of_ble_eq_true rfl, Nat.le_of_ble_eq_true rfl⟩) (psb_S (wr := wX x r tr pp h sl ++ (wR Y r q S ++ (wP Y pp tx P ++ (wHi Y h sa u ++ (wX y r2 tr2 pp2 h2 sl2 ++ (wR Y r2 q2 T ++ (wP Y pp2 tx2 P2 ++ (wHi Y h2 sa2 uw ++ wt)))))))) hK hP hD (List.Perm.refl _)) rfl rfl hl.1 rfl (lv_room (Nat.le_of_ble_eq_true rfl)) dL_isStep_168 ⟨Nat.le_of_ble_eq_true rfl, Nat.le_of_ble_eq_true rfl⟩) hP hD hS hA (List.Perm.refl _) (List.Perm.refl _) (fun H locs hP hD hS => ?_)
  refine W.widen (k := 0) (n := 0) (Nat.le_of_ble_eq_true rfl) (Nat.le_of_ble_eq_true rfl) ?_
  obtain ⟨j_168, hj_168, ej_168⟩ := up_eq bb (n := 19) (by decide) (by decide)
  refine lv_topi (fun y9 e9 => ?_)
  obtain rfl : y9 = nI j_168 := e9.trans (ej_168)
  refine lv_bipush (v := 9) hx hb dL_isStep_171 (by decide) ?_
  refine lv_isub hx hb dL_isStep_173 ?_
  refine lv_istore (lv' := [(7, .int ((nI j_168) - 9)), (6, .int (nI o_162)), (5, .int (nI j_141)), (4, .int (aa >>> (4 &&& 31))), (0, .ref x), (1, .ref y), (2, .int aa), (3, .int bb)]) hx hb dL_isStep_174 hl (by decide) rfl (fun ls hl => ?_)
  refine lv_aload_n hx hb dL_isStep_176 rfl (lv_at hl 4 rfl) ?_
  refine lv_iload hx hb dL_isStep_177 (lv_at hl 2 rfl) ?_
  refine lv_iload hx hb dL_isStep_179 (lv_at hl 1 rfl) ?_
  refine lv_iconst (v := 0) hx hb dL_isStep_181 (by decide) ?_
  refine cb_iD (wr := wP Y pp tx P ++ (wHi Y h sa u ++ (wX y r2 tr2 pp2 h2 sl2 ++ (wR Y r2 q2 T ++ (wP Y pp2 tx2 P2 ++ (wHi Y h2 sa2 uw ++ wt)))))) (ws' := wX x r tr pp h sl ++ (wR Y r q S ++ (wP Y pp tx P ++ (wHi Y h sa u ++ (wX y r2 tr2 pp2 h2 sl2 ++ (wR Y r2 q2 T ++ (wP Y pp2 tx2 P2 ++ (wHi Y h2 sa2 uw ++ wt)))))))) (va_runV (As := [.int (nI j_141), .int (nI o_162), .int 0]) (rest := []) ⟨hx, hb, hml, hown, hts⟩ (c_X3_pair l D Y H.size r tr pp h sl q S x (nI j_141) (nI o_162) 0) (cwV 3 hts gL_isStep_X3_pair rfl rfl rfl (by decide +kernel) ⟨Nat.le_of_ble_eq_true rfl, Nat.le_of_ble_eq_true rfl⟩) (psb_V (wr := wP Y pp tx P ++ (wHi Y h sa u ++ (wX y r2 tr2 pp2 h2 sl2 ++ (wR Y r2 q2 T ++ (wP Y pp2 tx2 P2 ++ (wHi Y h2 sa2 uw ++ wt)))))) hK hP hD (pl_cons (List.Perm.refl _) (List.Perm.refl _)) (q0 := 0) rfl rfl) rfl rfl hl.1 rfl (lv_room (Nat.le_of_ble_eq_true rfl)) dL_isStep_182 ⟨Nat.le_of_ble_eq_true rfl, Nat.le_of_ble_eq_true rfl⟩) hP hD hS hA (pl_cons (List.Perm.refl _) (List.Perm.refl _)) (pl_cons (List.Perm.refl _) (List.Perm.refl _)) (fun H locs hP hD hS => ?_)
  refine W.widen (k := 0) (n := 0) (Nat.le_of_ble_eq_true rfl) (Nat.le_of_ble_eq_true rfl) ?_
  refine lv_topi (fun y9 e9 => ?_)
  obtain rfl : y9 = S 6 (px j_141 o_162) := e9.trans (pa_0 S hj_141 ho_162 hne_162)
  refine lv_istore (lv' := [(8, .int (S 6 (px j_141 o_162))), (7, .int ((nI j_168) - 9)), (6, .int (nI o_162)), (5, .int (nI j_141)), (4, .int (aa >>> (4 &&& 31))), (0, .ref x), (1, .ref y), (2, .int aa), (3, .int bb)]) hx hb dL_isStep_185 hl (by decide) rfl (fun ls hl => ?_)
  refine lv_aload_n hx hb dL_isStep_187 rfl (lv_at hl 5 rfl) ?_
  refine lv_iload hx hb dL_isStep_188 (lv_at hl 3 rfl) ?_
  refine lv_iload hx hb dL_isStep_190 (lv_at hl 2 rfl) ?_
  refine lv_iload hx hb dL_isStep_192 (lv_at hl 1 rfl) ?_
  refine cb_iD (wr := wP Y pp tx P ++ (wX y r2 tr2 pp2 h2 sl2 ++ (wR Y r2 q2 T ++ (wP Y pp2 tx2 P2 ++ (wHi Y h2 sa2 uw ++ wt))))) (ws' := wX x r tr pp h sl ++ (wR Y r q ((D_X3_like u S (nI j_141) (nI o_162) ((nI j_168) - 9)).2.2) ++ (wP Y pp tx P ++ (wHi Y h sa ((D_X3_like u S (nI j_141) (nI o_162) ((nI j_168) - 9)).2.1) ++ (wX y r2 tr2 pp2 h2 sl2 ++ (wR Y r2 q2 T ++ (wP Y pp2 tx2 P2 ++ (wHi Y h2 sa2 uw ++ wt)))))))) (va_runV (As := [.int (nI j_141), .int (nI o_162), .int ((nI j_168) - 9)]) (rest := []) ⟨hx, hb, hml, hown, hts⟩ (c_X3_like l D Y H.size r tr pp h sl sa q u S x (nI j_141) (nI o_162) ((nI j_168) - 9) hH.2.1) (cwV 3 hts gL_isStep_X3_like rfl rfl rfl (by decide +kernel) ⟨Nat.le_of_ble_eq_true rfl, Nat.le_of_ble_eq_true rfl⟩) (psb_V (wr := wP Y pp tx P ++ (wX y r2 tr2 pp2 h2 sl2 ++ (wR Y r2 q2 T ++ (wP Y pp2 tx2 P2 ++ (wHi Y h2 sa2 uw ++ wt))))) hK hP hD (pl_cons (List.Perm.refl _) (pl_cons (pl_up (pl_up (List.Perm.refl _))) (List.Perm.refl _))) (q0 := 0) rfl rfl) rfl rfl hl.1 rfl (lv_room (Nat.le_of_ble_eq_true rfl)) dL_isStep_194 ⟨Nat.le_of_ble_eq_true rfl, Nat.le_of_ble_eq_true rfl⟩) hP hD hS hA (pl_cons (List.Perm.refl _) (pl_cons (pl_up (pl_up (List.Perm.refl _))) (List.Perm.refl _))) (pl_cons (List.Perm.refl _) (pl_cons (pl_up (pl_up (List.Perm.refl _))) (List.Perm.refl _))) (fun H locs hP hD hS => ?_)
  refine W.widen (k := 0) (n := 0) (Nat.le_of_ble_eq_true rfl) (Nat.le_of_ble_eq_true rfl) ?_
  have e7 : (D_X3_like u S (nI j_141) (nI o_162) ((nI j_168) - 9)).2.1 = D_X0_remember u S := by rw [like_eq _ _ hj_141 ho_162 hne_162 (m9 hj_168)]
  rw [e7] at hP hD
  clear e7
  have e7 : (D_X3_like u S (nI j_141) (nI o_162) ((nI j_168) - 9)).2.2 = s2 S 6 (px j_141 o_162) ((nI j_168) - 9) := by rw [like_eq _ _ hj_141 ho_162 hne_162 (m9 hj_168)]
  rw [e7] at hP hD
  clear e7
  refine lv_topi (fun y9 e9 => ?_)
  obtain rfl : y9 = S 6 (px j_141 o_162) := e9.trans (by rw [like_eq _ _ hj_141 ho_162 hne_162 (m9 hj_168)])
  refine lv_iload hx hb dL_isStep_197 (lv_at hl 0 rfl) ?_
  refine lv_icmp_ne (tgt := 241) hx hb dL_isStep_199 (by decide) (fun c_1 => ?_) (fun c_1 => ?_)
  · exact absurd c_1 (fun q => q (rfl))
  · refine lv_aload_n hx hb dL_isStep_202 rfl (lv_at hl 6 rfl) ?_
    refine lv_iload hx hb dL_isStep_203 (lv_at hl 2 rfl) ?_
    refine cb_iD (wr := wX x r tr pp h sl ++ (wR Y r q (s2 S 6 (px j_141 o_162) ((nI j_168) - 9)) ++ (wP Y pp tx P ++ (wHi Y h sa (D_X0_remember u S) ++ (wX y r2 tr2 pp2 h2 sl2 ++ (wR Y r2 q2 T ++ (wP Y pp2 tx2 P2 ++ (wHi Y h2 sa2 uw ++ wt)))))))) (ws' := wX x r tr pp h sl ++ (wR Y r q (s2 S 6 (px j_141 o_162) ((nI j_168) - 9)) ++ (wP Y pp tx P ++ (wHi Y h sa (D_X0_remember u S) ++ (wX y r2 tr2 pp2 h2 sl2 ++ (wR Y r2 q2 T ++ (wP Y pp2 tx2 P2 ++ (wHi Y h2 sa2 uw ++ wt)))))))) (va_runS (As := [.int (nI o_162)]) (rest := [.ref y]) ⟨hx, hb, hml, hown, hts⟩ (c_L_there l D Y H.size (nI o_162)) (va_cwS 1 hts gL_isStep_L_there rfl rfl rfl (by decide +kernel) ⟨Nat.le_of_ble_eq_true rfl, Nat.le_of_ble_eq_true rfl⟩) (psb_S (wr := wX x r tr pp h sl ++ (wR Y r q (s2 S 6 (px j_141 o_162) ((nI j_168) - 9)) ++ (wP Y pp tx P ++ (wHi Y h sa (D_X0_remember u S) ++ (wX y r2 tr2 pp2 h2 sl2 ++ (wR Y r2 q2 T ++ (wP Y pp2 tx2 P2 ++ (wHi Y h2 sa2 uw ++ wt)))))))) hK hP hD (List.Perm.refl _)) rfl rfl hl.1 rfl (lv_room (Nat.le_of_ble_eq_true rfl)) dL_isStep_205 ⟨Nat.le_of_ble_eq_true rfl, Nat.le_of_ble_eq_true rfl⟩) hP hD hS hA (List.Perm.refl _) (List.Perm.refl _) (fun H locs hP hD hS => ?_)
    refine W.widen (k := 0) (n := 0) (Nat.le_of_ble_eq_true rfl) (Nat.le_of_ble_eq_true rfl) ?_
    refine lv_topi (fun y9 e9 => ?_)
    obtain rfl : y9 = nI (dbl o_162) := e9.trans (there_eq _ ho_162)
    refine lv_iload hx hb dL_isStep_208 (lv_at hl 3 rfl) ?_
    refine cb_iD (wr := wX x r tr pp h sl ++ (wR Y r q (s2 S 6 (px j_141 o_162) ((nI j_168) - 9)) ++ (wP Y pp tx P ++ (wHi Y h sa (D_X0_remember u S) ++ (wX y r2 tr2 pp2 h2 sl2 ++ (wR Y r2 q2 T ++ (wP Y pp2 tx2 P2 ++ (wHi Y h2 sa2 uw ++ wt)))))))) (ws' := wX x r tr pp h sl ++ (wR Y r q (s2 S 6 (px j_141 o_162) ((nI j_168) - 9)) ++ (wP Y pp tx P ++ (wHi Y h sa (D_X0_remember u S) ++ (wX y r2 tr2 pp2 h2 sl2 ++ (wR Y r2 q2 T ++ (wP Y pp2 tx2 P2 ++ (wHi Y h2 sa2 uw ++ wt)))))))) (va_runS (As := [.int (nI j_141)]) (rest := [.int (nI (dbl o_162)), .ref y]) ⟨hx, hb, hml, hown, hts⟩ (c_L_there l D Y H.size (nI j_141)) (va_cwS 1 hts gL_isStep_L_there rfl rfl rfl (by decide +kernel) ⟨Nat.le_of_ble_eq_true rfl, Nat.le_of_ble_eq_true rfl⟩) (psb_S (wr := wX x r tr pp h sl ++ (wR Y r q (s2 S 6 (px j_141 o_162) ((nI j_168) - 9)) ++ (wP Y pp tx P ++ (wHi Y h sa (D_X0_remember u S) ++ (wX y r2 tr2 pp2 h2 sl2 ++ (wR Y r2 q2 T ++ (wP Y pp2 tx2 P2 ++ (wHi Y h2 sa2 uw ++ wt)))))))) hK hP hD (List.Perm.refl _)) rfl rfl hl.1 rfl (lv_room (Nat.le_of_ble_eq_true rfl)) dL_isStep_210 ⟨Nat.le_of_ble_eq_true rfl, Nat.le_of_ble_eq_true rfl⟩) hP hD hS hA (List.Perm.refl _) (List.Perm.refl _) (fun H locs hP hD hS => ?_)
    refine W.widen (k := 0) (n := 0) (Nat.le_of_ble_eq_true rfl) (Nat.le_of_ble_eq_true rfl) ?_
    refine lv_topi (fun y9 e9 => ?_)
    obtain rfl : y9 = nI (dbl j_141) := e9.trans (there_eq _ hj_141)
    refine lv_iload hx hb dL_isStep_213 (lv_at hl 1 rfl) ?_
    refine cb_iD (wr := wX x r tr pp h sl ++ (wR Y r q (s2 S 6 (px j_141 o_162) ((nI j_168) - 9)) ++ (wP Y pp tx P ++ (wHi Y h sa (D_X0_remember u S) ++ (wP Y pp2 tx2 P2 ++ wt))))) (ws' := wX x r tr pp h sl ++ (wR Y r q (s2 S 6 (px j_141 o_162) ((nI j_168) - 9)) ++ (wP Y pp tx P ++ (wHi Y h sa (D_X0_remember u S) ++ (wX y r2 tr2 pp2 h2 sl2 ++ (wR Y r2 q2 ((D_X3_like uw T (nI (dbl o_162)) (nI (dbl j_141)) ((nI j_168) - 9)).2.2) ++ (wP Y pp2 tx2 P2 ++ (wHi Y h2 sa2 ((D_X3_like uw T (nI (dbl o_162)) (nI (dbl j_141)) ((nI j_168) - 9)).2.1) ++ wt)))))))) (va_runV (As := [.int (nI (dbl o_162)), .int (nI (dbl j_141)), .int ((nI j_168) - 9)]) (rest := []) ⟨hx, hb, hml, hown, hts⟩ (c_X3_like l D Y H.size r2 tr2 pp2 h2 sl2 sa2 q2 uw T y (nI (dbl o_162)) (nI (dbl j_141)) ((nI j_168) - 9) hH.2.2.1) (cwV 3 hts gL_isStep_X3_like rfl rfl rfl (by decide +kernel) ⟨Nat.le_of_ble_eq_true rfl, Nat.le_of_ble_eq_true rfl⟩) (psb_V (wr := wX x r tr pp h sl ++ (wR Y r q (s2 S 6 (px j_141 o_162) ((nI j_168) - 9)) ++ (wP Y pp tx P ++ (wHi Y h sa (D_X0_remember u S) ++ (wP Y pp2 tx2 P2 ++ wt))))) hK hP hD (pl_cons (pl_up (pl_up (pl_up (pl_up (List.Perm.refl _))))) (pl_cons (pl_up (pl_up (pl_up (pl_up (pl_up (pl_up (List.Perm.refl _))))))) (pl_up (pl_up (pl_up (pl_up (List.Perm.refl _))))))) (q0 := 0) rfl rfl) rfl rfl hl.1 rfl (lv_room (Nat.le_of_ble_eq_true rfl)) dL_isStep_215 ⟨Nat.le_of_ble_eq_true rfl, Nat.le_of_ble_eq_true rfl⟩) hP hD hS hA (pl_cons (pl_up (pl_up (pl_up (pl_up (List.Perm.refl _))))) (pl_cons (pl_up (pl_up (pl_up (pl_up (pl_up (pl_up (List.Perm.refl _))))))) (pl_up (pl_up (pl_up (pl_up (List.Perm.refl _))))))) (pl_cons (pl_up (pl_up (pl_up (pl_up (List.Perm.refl _))))) (pl_cons (pl_up (pl_up (pl_up (pl_up (pl_up (pl_up (List.Perm.refl _))))))) (pl_up (pl_up (pl_up (pl_up (List.Perm.refl _))))))) (fun H locs hP hD hS => ?_)
    refine W.widen (k := 0) (n := 0) (Nat.le_of_ble_eq_true rfl) (Nat.le_of_ble_eq_true rfl) ?_
    have e7 : (D_X3_like uw T (nI (dbl o_162)) (nI (dbl j_141)) ((nI j_168) - 9)).2.1 = D_X0_remember uw T := by rw [lk_s _ _ hj_141 ho_162 hne_162 (m9 hj_168)]
    rw [e7] at hP hD
    clear e7
    have e7 : (D_X3_like uw T (nI (dbl o_162)) (nI (dbl j_141)) ((nI j_168) - 9)).2.2 = s2 T 6 (px (dbl j_141) (dbl o_162)) ((nI j_168) - 9) := by rw [lk_s _ _ hj_141 ho_162 hne_162 (m9 hj_168)]
    rw [e7] at hP hD
    clear e7
    refine lv_topi (fun y9 e9 => ?_)
    obtain rfl : y9 = S 6 (px j_141 o_162) := e9.trans (by rw [lk_s _ _ hj_141 ho_162 hne_162 (m9 hj_168)]; exact hB.2.2.2.2.2.2.1 6 (by decide) (by decide) _ hj_141 _ ho_162 hne_162)
    refine lv_iload hx hb dL_isStep_218 (lv_at hl 0 rfl) ?_
    refine lv_icmp_ne (tgt := 241) hx hb dL_isStep_220 (by decide) (fun c_2 => ?_) (fun c_2 => ?_)
    · exact absurd c_2 (fun q => q (c_1))
    · refine lv_aload_n hx hb dL_isStep_223 rfl (lv_at hl 5 rfl) ?_
      refine lv_iload hx hb dL_isStep_224 (lv_at hl 2 rfl) ?_
      refine lv_iload hx hb dL_isStep_226 (lv_at hl 3 rfl) ?_
      refine lv_iconst (v := 0) hx hb dL_isStep_228 (by decide) ?_
      refine cb_iD (wr := wP Y pp tx P ++ (wHi Y h sa (D_X0_remember u S) ++ (wX y r2 tr2 pp2 h2 sl2 ++ (wR Y r2 q2 (s2 T 6 (px (dbl j_141) (dbl o_162)) ((nI j_168) - 9)) ++ (wP Y pp2 tx2 P2 ++ (wHi Y h2 sa2 (D_X0_remember uw T) ++ wt)))))) (ws' := wX x r tr pp h sl ++ (wR Y r q (s2 S 6 (px j_141 o_162) ((nI j_168) - 9)) ++ (wP Y pp tx P ++ (wHi Y h sa (D_X0_remember u S) ++ (wX y r2 tr2 pp2 h2 sl2 ++ (wR Y r2 q2 (s2 T 6 (px (dbl j_141) (dbl o_162)) ((nI j_168) - 9)) ++ (wP Y pp2 tx2 P2 ++ (wHi Y h2 sa2 (D_X0_remember uw T) ++ wt)))))))) (va_runV (As := [.int (nI o_162), .int (nI j_141), .int 0]) (rest := []) ⟨hx, hb, hml, hown, hts⟩ (c_X3_pair l D Y H.size r tr pp h sl q (s2 S 6 (px j_141 o_162) ((nI j_168) - 9)) x (nI o_162) (nI j_141) 0) (cwV 3 hts gL_isStep_X3_pair rfl rfl rfl (by decide +kernel) ⟨Nat.le_of_ble_eq_true rfl, Nat.le_of_ble_eq_true rfl⟩) (psb_V (wr := wP Y pp tx P ++ (wHi Y h sa (D_X0_remember u S) ++ (wX y r2 tr2 pp2 h2 sl2 ++ (wR Y r2 q2 (s2 T 6 (px (dbl j_141) (dbl o_162)) ((nI j_168) - 9)) ++ (wP Y pp2 tx2 P2 ++ (wHi Y h2 sa2 (D_X0_remember uw T) ++ wt)))))) hK hP hD (pl_cons (List.Perm.refl _) (List.Perm.refl _)) (q0 := 0) rfl rfl) rfl rfl hl.1 rfl (lv_room (Nat.le_of_ble_eq_true rfl)) dL_isStep_229 ⟨Nat.le_of_ble_eq_true rfl, Nat.le_of_ble_eq_true rfl⟩) hP hD hS hA (pl_cons (List.Perm.refl _) (List.Perm.refl _)) (pl_cons (List.Perm.refl _) (List.Perm.refl _)) (fun H locs hP hD hS => ?_)
      refine W.widen (k := 0) (n := 0) (Nat.le_of_ble_eq_true rfl) (Nat.le_of_ble_eq_true rfl) ?_
      refine lv_topi (fun y9 e9 => ?_)
      obtain rfl : y9 = (nI j_168) - 9 := e9.trans ((pa_0 _ ho_162 hj_141 (Ne.symm hne_162)).trans (by rw [px_sw]; exact s2_at))
      refine lv_iload hx hb dL_isStep_232 (lv_at hl 1 rfl) ?_
      refine lv_icmp_ne (tgt := 241) hx hb dL_isStep_234 (by decide) (fun c_3 => ?_) (fun c_3 => ?_)
      · exact absurd c_3 (fun q => q (rfl))
      · refine lv_iconst (v := 1) hx hb dL_isStep_237 (by decide) ?_
        refine lv_goto (tgt := 242) hx hb dL_isStep_238 (by decide) ?_
        exact ret_z hx hb hr rfl hlk hP hD hS dL_isStep_242 ⟨Nat.le_of_ble_eq_true rfl, Nat.le_of_ble_eq_true rfl⟩ ⟨rfl, (s2 S 6 (px j_141 o_162) ((nI j_168) - 9)), (s2 T 6 (px (dbl j_141) (dbl o_162)) ((nI j_168) - 9)), (D_X0_remember u S), (D_X0_remember uw T), P2, hB.like hj_141 ho_162 _, (hH.remember hB).up (Nat.le_succ n), hp2, rfl⟩

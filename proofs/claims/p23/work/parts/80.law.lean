/-! THE CLAIM OUT OF ONE WALK OF THE LAW'S BODY. Your part is whole_start (and what it stands on); all else here is the same for every law, but numbers. -/
def R_law : String := "NineDancersLaw"
def lw_P (b : Addr) (xs : List Int32) (args : Array Value) (s : State) : Prop := args = #[.ref b] ∧ s.IntsAt b xs ∧ xs.length ≤ 260 ∧ (Jvm.Cond.and given_1 narrow_1).before args s = true
def lw_Q (_ : Array Value) (s : State) (o : Outcome) (t : State) : Prop := o = .returned (some (.int 1)) ∧ Framed s o t [] 600000 7302250
def lw_Z (below : List Frame) (a : Array Value) (s : State) : State → Prop := fun t => ∃ o, t.status = .running ∧ Ended t below o ∧ lw_Q a s o t
/-- the law's own end, with 1 on the stack, nothing written that was there before, its room as the claim has it -/
theorem lw_ret {p : Program} {l : Launch} {e : Env} {s : State} {m : MethodId} {below : List Frame} {meth : Method} {c : Code} {b : Nat} (hx : p.tables.exec = Jvm.exec) (hb : c.code = code) (hr : meth.sig.returnType = ret) (hlocks : meth.locks = false) {pc : Nat} {H : Heap} {ls : Array Slot} (hdg : decode code pc = .ok (.ireturn, 1)) : W p l e room_1 s m #[Value.ref b] below meth c H [] 600000 7302250 (lw_Z below #[Value.ref b] s) (F0 m pc ls [.int 1]) := by
  intro T hT X
  obtain ⟨fs, hret, hrun, hended, hW, hframe⟩ := X.leave (v := some (.int 1)) (hlocks := hlocks) (fun h => by rw [hr] at h; cases h)
  have hmeth' : T.vm.method? m = some meth := X.method'
  refine ⟨T.setFrames fs, ?_, .returned (some (.int 1)), hrun, hended, rfl, ⟨_, rfl⟩, hW, hframe⟩
  jvm_step X.here [X.here.top, hx, hb, hdg, hmeth', hr, ret, narrow_b1]
  (try refine ⟨rfl, ?_⟩); (try refine ⟨rfl, ?_⟩)
  first | (intro acts; rw [hret _ acts rfl rfl rfl]) | rw [hret _ _ rfl rfl rfl]
  exact Steps.refl _
/-- what holds at the law's entry: the machine, the code, the tables' words (any of lw_tbl by 'hts w (by decide +kernel)'), the script of L ints xs at the cell b, what the Statement gives of the start (any of its parts by flat_of_before) -/
def lw_At (p : Program) (s : State) (m : MethodId) (meth : Method) (c : Code) (b L : Nat) (xs : Nat → Int32) : Prop :=
  p.tables.exec = Jvm.exec ∧ c.code = code ∧ meth.sig.returnType = ret ∧ c.maxLocals = 5 ∧ s.vm.findClass R_law = some m.cls ∧ (∀ w ∈ lw_tbl, w.before #[Value.ref b] s = true) ∧ va_X b L xs s s.heap ∧ b < s.heap.size ∧ meth.locks = false ∧ (Jvm.Cond.and given_1 narrow_1).before #[Value.ref b] s = true
set_option maxHeartbeats 40000000 in
set_option maxRecDepth 100000 in
theorem whole_start {p : Program} {e : Env} {s : State} {m : MethodId} {below : List Frame} {meth : Method} {c : Code} (l : Launch) (hflags : l.flags = flags0) {b L : Nat} {xs : Nat → Int32} (hL : L ≤ 260) (C0 : lw_At p s m meth c b L xs) : W p l e room_1 s m #[Value.ref b] below meth c s.heap [] 0 0 (lw_Z below #[Value.ref b] s) (entryFrame m ([Value.ref b] : List Value).toArray 5) := by
  obtain ⟨hx, hb, hr, hml, hown, hts0, hX, hbl, hlocks, hgv⟩ := id C0
  have hts : ∀ w ∈ wsL_law, w.before #[Value.ref b] s = true := fun w h => hts0 w (wsL_law_in w h)
  have hown : s.vm.findClass RL = some m.cls := hown
  have hb : c.code = cL_law := hb
  obtain ⟨D, Y, hK⟩ := law_KK hts0
  generalize hAe : (fun q : Nat => s.heap.size ≤ q) = A
  have hA : ∀ q : Nat, s.heap.size ≤ q → A q := fun _ h => by rw [← hAe]; exact h
  have hAi : ∀ q : Nat, A q → s.heap.size ≤ q := fun _ h => by rw [← hAe] at h; exact h
  have hbA : ¬ A b := fun h => absurd hbl (Nat.not_lt.mpr (hAi b h))
  have hS : va_S A s.heap s.heap [] := va_S.rf
  have hP := nil_P D s.heap
  have hD := nil_D A
  have hl := lv_entry ([.ref b]) (n := 5) (Nat.le_of_ble_eq_true rfl)
  rw [lg_entry_eq]
  generalize (lg_sl ([.ref b]) ++ List.replicate (5 - (lg_sl ([.ref b])).length) Slot.unset).toArray = ls at hl ⊢
  have hl : lv_has ls 5 [(0, .ref b)] := hl
  refine va_new (D := D) (ci := 3) (fs := [.null, .null, .null, .null, .null]) (C := RX3) (T := TX3) (N := 5) hx hb hts inlX3 tyX3 tyX3_ok hown (hts (.classLink RL 10 RX3) (by decide +kernel)) (hts (.instantiable RX3 5) (by decide +kernel)) (hts (.initialized RX3) (by decide +kernel)) hK.1 hP hD hS hA rfl df_X3 (Nat.le_of_ble_eq_true rfl) (Nat.le_of_ble_eq_true rfl) dL_law_0 (fun o_0 H hP hD hS => ?_)
  have hP : va_P D vwCl ((([] : va_W)) ++ [(o_0, .inr (3, [.null, .null, .null, .null, .null]))]) H := hP
  have hD : va_D A ((([] : va_W)) ++ [(o_0, .inr (3, [.null, .null, .null, .null, .null]))]) := hD
  refine W.widen (k := 1) (n := 5) (Nat.le_of_ble_eq_true rfl) (Nat.le_of_ble_eq_true rfl) ?_
  refine lv_dup hx hb dL_law_3 rfl ?_
  refine cb_v (wr := ([] : va_W)) (va_runI (As := []) (rest := [.ref o_0]) ⟨hx, hb, hml, hown, hts⟩ (c_X3_init l D Y H.size o_0) (cwI 0 hts gL_law_X3_init rfl rfl rfl (hts (.initialized RX3) (by decide +kernel)) (hts (.methodLink RL 97 yX3_init) (by decide +kernel)) (hts (.instanceMethod yX3_init) (by decide +kernel)) rfl (by decide +kernel) ⟨Nat.le_of_ble_eq_true rfl, Nat.le_of_ble_eq_true rfl⟩) (psb_S (wr := ([] : va_W)) hK hP hD List.perm_append_comm) rfl rfl hl.1 rfl (lv_room (Nat.le_of_ble_eq_true rfl)) dL_law_4 ⟨Nat.le_of_ble_eq_true rfl, Nat.le_of_ble_eq_true rfl⟩) hP hD hS hA List.perm_append_comm (fun w9 H locs hw9 hP hD hS => ?_)
  obtain ⟨r, q, tr, q1, pp, tx, h, sa, u, sl, hu0, huz, hu, rfl⟩ := hw9
  have hP : va_P D vwCl ((([] : va_W)) ++ (wX o_0 r tr pp h sl ++ (wR Y r q S0_X2 ++ (wR Y tr q1 S0_X2 ++ (wP Y pp tx S0_X1 ++ (wHi Y h sa u ++ wA Y sl 2 (fun _ => none))))))) H := vP_perm List.perm_append_comm hP
  have hD : va_D A ((([] : va_W)) ++ (wX o_0 r tr pp h sl ++ (wR Y r q S0_X2 ++ (wR Y tr q1 S0_X2 ++ (wP Y pp tx S0_X1 ++ (wHi Y h sa u ++ wA Y sl 2 (fun _ => none))))))) := vD_perm List.perm_append_comm hD
  refine W.widen (k := 94) (n := 2581) (Nat.le_of_ble_eq_true rfl) (Nat.le_of_ble_eq_true rfl) ?_
  have hP : va_P D vwCl (wX o_0 r tr pp h sl ++ (wR Y r q S0_X2 ++ (wR Y tr q1 S0_X2 ++ (wP Y pp tx S0_X1 ++ (wHi Y h sa u ++ wA Y sl 2 (fun _ => none)))))) H := hP
  have hD : va_D A (wX o_0 r tr pp h sl ++ (wR Y r q S0_X2 ++ (wR Y tr q1 S0_X2 ++ (wP Y pp tx S0_X1 ++ (wHi Y h sa u ++ wA Y sl 2 (fun _ => none)))))) := hD
  refine lv_astore_n (lv' := [(1, .ref o_0), (0, .ref b)]) hx hb dL_law_7 rfl hl (by decide) rfl (fun ls hl => ?_)
  refine va_new (D := D) (ci := 3) (fs := [.null, .null, .null, .null, .null]) (C := RX3) (T := TX3) (N := 5) hx hb hts inlX3 tyX3 tyX3_ok hown (hts (.classLink RL 10 RX3) (by decide +kernel)) (hts (.instantiable RX3 5) (by decide +kernel)) (hts (.initialized RX3) (by decide +kernel)) hK.1 hP hD hS hA rfl df_X3 (Nat.le_of_ble_eq_true rfl) (Nat.le_of_ble_eq_true rfl) dL_law_8 (fun o_8 H hP hD hS => ?_)
  have hP : va_P D vwCl ((wX o_0 r tr pp h sl ++ (wR Y r q S0_X2 ++ (wR Y tr q1 S0_X2 ++ (wP Y pp tx S0_X1 ++ (wHi Y h sa u ++ wA Y sl 2 (fun _ => none)))))) ++ [(o_8, .inr (3, [.null, .null, .null, .null, .null]))]) H := hP
  have hD : va_D A ((wX o_0 r tr pp h sl ++ (wR Y r q S0_X2 ++ (wR Y tr q1 S0_X2 ++ (wP Y pp tx S0_X1 ++ (wHi Y h sa u ++ wA Y sl 2 (fun _ => none)))))) ++ [(o_8, .inr (3, [.null, .null, .null, .null, .null]))]) := hD
  refine W.widen (k := 95) (n := 2586) (Nat.le_of_ble_eq_true rfl) (Nat.le_of_ble_eq_true rfl) ?_
  refine lv_dup hx hb dL_law_11 rfl ?_
  refine cb_v (wr := wX o_0 r tr pp h sl ++ (wR Y r q S0_X2 ++ (wR Y tr q1 S0_X2 ++ (wP Y pp tx S0_X1 ++ (wHi Y h sa u ++ wA Y sl 2 (fun _ => none)))))) (va_runI (As := []) (rest := [.ref o_8]) ⟨hx, hb, hml, hown, hts⟩ (c_X3_init l D Y H.size o_8) (cwI 0 hts gL_law_X3_init rfl rfl rfl (hts (.initialized RX3) (by decide +kernel)) (hts (.methodLink RL 97 yX3_init) (by decide +kernel)) (hts (.instanceMethod yX3_init) (by decide +kernel)) rfl (by decide +kernel) ⟨Nat.le_of_ble_eq_true rfl, Nat.le_of_ble_eq_true rfl⟩) (psb_S (wr := wX o_0 r tr pp h sl ++ (wR Y r q S0_X2 ++ (wR Y tr q1 S0_X2 ++ (wP Y pp tx S0_X1 ++ (wHi Y h sa u ++ wA Y sl 2 (fun _ => none)))))) hK hP hD List.perm_append_comm) rfl rfl hl.1 rfl (lv_room (Nat.le_of_ble_eq_true rfl)) dL_law_12 ⟨Nat.le_of_ble_eq_true rfl, Nat.le_of_ble_eq_true rfl⟩) hP hD hS hA List.perm_append_comm (fun w9 H locs hw9 hP hD hS => ?_)
  obtain ⟨r2, q2, tr2, q12, pp2, tx2, h2, sa2, u2, sl2, hu02, huz2, hu2, rfl⟩ := hw9
  have hP : va_P D vwCl ((wX o_0 r tr pp h sl ++ (wR Y r q S0_X2 ++ (wR Y tr q1 S0_X2 ++ (wP Y pp tx S0_X1 ++ (wHi Y h sa u ++ wA Y sl 2 (fun _ => none)))))) ++ (wX o_8 r2 tr2 pp2 h2 sl2 ++ (wR Y r2 q2 S0_X2 ++ (wR Y tr2 q12 S0_X2 ++ (wP Y pp2 tx2 S0_X1 ++ (wHi Y h2 sa2 u2 ++ wA Y sl2 2 (fun _ => none))))))) H := vP_perm List.perm_append_comm hP
  have hD : va_D A ((wX o_0 r tr pp h sl ++ (wR Y r q S0_X2 ++ (wR Y tr q1 S0_X2 ++ (wP Y pp tx S0_X1 ++ (wHi Y h sa u ++ wA Y sl 2 (fun _ => none)))))) ++ (wX o_8 r2 tr2 pp2 h2 sl2 ++ (wR Y r2 q2 S0_X2 ++ (wR Y tr2 q12 S0_X2 ++ (wP Y pp2 tx2 S0_X1 ++ (wHi Y h2 sa2 u2 ++ wA Y sl2 2 (fun _ => none))))))) := vD_perm List.perm_append_comm hD
  refine W.widen (k := 188) (n := 5162) (Nat.le_of_ble_eq_true rfl) (Nat.le_of_ble_eq_true rfl) ?_
  refine lv_astore_n (lv' := [(2, .ref o_8), (1, .ref o_0), (0, .ref b)]) hx hb dL_law_15 rfl hl (by decide) rfl (fun ls hl => ?_)
  refine lv_iconst (v := 1) hx hb dL_law_16 (by decide) ?_
  refine lv_istore_n (lv' := [(3, .int 1), (2, .ref o_8), (1, .ref o_0), (0, .ref b)]) hx hb dL_law_17 rfl hl (by decide) rfl (fun ls hl => ?_)
  refine lv_iconst (v := 0) hx hb dL_law_18 (by decide) ?_
  refine lv_istore (lv' := [(4, .int 0), (3, .int 1), (2, .ref o_8), (1, .ref o_0), (0, .ref b)]) hx hb dL_law_19 hl (by decide) rfl (fun ls hl => ?_)
  have hw := lv_0 Y o_0 r tr pp h sl q q1 tx sa u o_8 r2 tr2 pp2 h2 sl2 q2 q12 tx2 sa2 u2 hu0 hu hu02 hu2
  have loop_21 : ∀ (n_21 k : Nat) (w : va_W) (H : Heap) (locs : List Loc) (ls : Array Slot), 61 ≤ k + n_21 → k ≤ 60 → LV Y k o_0 o_8 w → va_P D vwCl w H → va_D A w → va_S A s.heap H locs → lv_has ls 5 [(4, .int (nI k)), (3, .int 1), (2, .ref o_8), (1, .ref o_0), (0, .ref b)] → W p l e room_1 s m #[Value.ref b] below meth c H locs (188 + 22 * k) (5162 + 626 * k) (lw_Z below #[Value.ref b] s) (F0 m 21 ls []) := by
    intro n_21
    induction n_21 with
    | zero => intro k w H locs ls hkf hkN; exact absurd hkf (by omega)
    | succ n_21 ih =>
      intro k w H locs ls hkf hkN hw hP hD hS hl
      refine lv_iload hx hb dL_law_21 (lv_at hl 0 rfl) ?_
      refine lv_bipush (v := 60) hx hb dL_law_23 (by decide) ?_
      refine lv_icmp_ge (tgt := 82) hx hb dL_law_25 (by decide) (fun c_1 => ?_) (fun c_1 => ?_)
      · obtain rfl : k = 60 := by have := (nI_leI (a := 60) (by decide) (by omega)).mp c_1; omega
        refine lv_iload_n hx hb dL_law_82 rfl (lv_at hl 1 rfl) ?_
        refine lv_if_eq (tgt := 111) hx hb dL_law_83 (by decide) (fun c_2 => absurd c_2 (by decide)) (fun _ => ?_)
        refine lv_aload_n hx hb dL_law_86 rfl (lv_at hl 3 rfl) ?_
        refine cb_i (wr := ([] : va_W)) (va_runS (As := [.ref o_0]) (rest := []) ⟨hx, hb, hml, hown, hts⟩ (c_lvwell l D Y H.size 60 o_0 o_8 w hw (by decide)) (va_cwS 1 hts gL_law_L_isWell rfl rfl rfl (by decide +kernel) ⟨Nat.le_of_ble_eq_true rfl, Nat.le_of_ble_eq_true rfl⟩) (psb_S (wr := ([] : va_W)) hK hP hD (pl_nil (List.Perm.refl _))) rfl rfl hl.1 rfl (lv_room (Nat.le_of_ble_eq_true rfl)) dL_law_87 ⟨Nat.le_of_ble_eq_true rfl, Nat.le_of_ble_eq_true rfl⟩) hP hD hS hA (pl_nil (List.Perm.refl _)) (fun r9 w9 H locs hq9 hP hD hS => ?_)
        obtain ⟨rfl, hw⟩ := hq9
        have hP : va_P D vwCl w9 H := vP_l hP
        have hD : va_D A w9 := vD_l hD
        refine lv_if_eq (tgt := 111) hx hb dL_law_90 (by decide) (fun c_2 => absurd c_2 (by decide)) (fun _ => ?_)
        refine lv_aload_n hx hb dL_law_93 rfl (lv_at hl 3 rfl) ?_
        refine lv_aload_n hx hb dL_law_94 rfl (lv_at hl 2 rfl) ?_
        refine lv_aload_n hx hb dL_law_95 rfl (lv_at hl 4 rfl) ?_
        refine lv_bipush (v := 60) hx hb dL_law_96 (by decide) ?_
        refine cb_i (wc := ([] : va_W)) (wr := w9) (va_runS (As := [.ref b, .int 60]) (rest := [.ref o_8, .ref o_0]) ⟨hx, hb, hml, hown, hts⟩ (c_L_cell l D b L xs H.size 60 60 rfl (by decide) (Nat.lt_of_le_of_lt hL (by decide))) (va_cwS 2 hts gL_law_L_cell rfl rfl rfl (by decide +kernel) ⟨Nat.le_of_ble_eq_true rfl, Nat.le_of_ble_eq_true rfl⟩) (cell_pre hX hbl hbA hS) rfl rfl hl.1 rfl (lv_room (Nat.le_of_ble_eq_true rfl)) dL_law_98 ⟨Nat.le_of_ble_eq_true rfl, Nat.le_of_ble_eq_true rfl⟩) hP hD hS hA (List.Perm.refl _) (fun ra w8 H locs hq9 hP hD hS => ?_)
        subst hq9
        have hP : va_P D vwCl w9 H := hP
        have hD : va_D A w9 := hD
        refine cb_i (wr := ([] : va_W)) (va_runS (As := [.ref o_0, .ref o_8, .int ra]) (rest := []) ⟨hx, hb, hml, hown, hts⟩ (c_lvalike l D Y H.size 60 o_0 o_8 ra _ hw (by decide)) (va_cwS 3 hts gL_law_L_areAlike rfl rfl rfl (by decide +kernel) ⟨Nat.le_of_ble_eq_true rfl, Nat.le_of_ble_eq_true rfl⟩) (psb_S (wr := ([] : va_W)) hK hP hD (pl_nil (List.Perm.refl _))) rfl rfl hl.1 rfl (lv_room (Nat.le_of_ble_eq_true rfl)) dL_law_101 ⟨Nat.le_of_ble_eq_true rfl, Nat.le_of_ble_eq_true rfl⟩) hP hD hS hA (pl_nil (List.Perm.refl _)) (fun r9 w9 H locs hq9 hP hD hS => ?_)
        obtain ⟨rfl, hw⟩ := hq9
        have hP : va_P D vwCl w9 H := vP_l hP
        have hD : va_D A w9 := vD_l hD
        refine lv_if_eq (tgt := 111) hx hb dL_law_104 (by decide) (fun c_2 => absurd c_2 (by decide)) (fun _ => ?_)
        refine lv_iconst (v := 1) hx hb dL_law_107 (by decide) ?_
        refine lv_goto (tgt := 112) hx hb dL_law_108 (by decide) ?_
        refine va_forget (fun q hq => hAi _ (hS.2.2 q hq)) ?_
        refine W.widen (k := 600000) (n := 7302250) (Nat.le_of_ble_eq_true rfl) (Nat.le_of_ble_eq_true rfl) ?_
        exact lw_ret hx hb hr hlocks dL_law_112
      · have hk : k < 60 := Nat.lt_of_not_le (fun q => c_1 (nI_le (a := 60) q (by omega)))
        refine lv_iload_n hx hb dL_law_28 rfl (lv_at hl 1 rfl) ?_
        refine lv_if_eq (tgt := 82) hx hb dL_law_29 (by decide) (fun c_2 => absurd c_2 (by decide)) (fun _ => ?_)
        refine lv_aload_n hx hb dL_law_32 rfl (lv_at hl 3 rfl) ?_
        refine lv_aload_n hx hb dL_law_33 rfl (lv_at hl 2 rfl) ?_
        refine lv_aload_n hx hb dL_law_34 rfl (lv_at hl 4 rfl) ?_
        refine lv_iload hx hb dL_law_35 (lv_at hl 0 rfl) ?_
        refine cb_i (wc := ([] : va_W)) (wr := w) (va_runS (As := [.ref b, .int (nI k)]) (rest := [.ref o_8, .ref o_0]) ⟨hx, hb, hml, hown, hts⟩ (c_L_cell l D b L xs H.size (nI k) k rfl (by omega) (Nat.lt_of_le_of_lt hL (by decide))) (va_cwS 2 hts gL_law_L_cell rfl rfl rfl (by decide +kernel) ⟨Nat.le_of_ble_eq_true rfl, Nat.le_of_ble_eq_true rfl⟩) (cell_pre hX hbl hbA hS) rfl rfl hl.1 rfl (lv_room (Nat.le_of_ble_eq_true rfl)) dL_law_37 ⟨Nat.le_trans (show 188 + 22 * k + 0 ≤ 2000 by omega) (Nat.le_of_ble_eq_true rfl), Nat.le_trans (show 5162 + 626 * k + 0 ≤ 50000 by omega) (Nat.le_of_ble_eq_true rfl)⟩) hP hD hS hA (List.Perm.refl _) (fun ra w8 H locs hq9 hP hD hS => ?_)
        subst hq9
        have hP : va_P D vwCl w H := hP
        have hD : va_D A w := hD
        refine W.widen (k := 188 + 22 * k + 0) (n := 5162 + 626 * k + 0) (Nat.le_refl _) (Nat.le_refl _) ?_
        refine lv_aload_n hx hb dL_law_40 rfl (lv_at hl 4 rfl) ?_
        refine lv_iload hx hb dL_law_41 (lv_at hl 0 rfl) ?_
        refine lv_iconst (v := 1) hx hb dL_law_43 (by decide) ?_
        refine lv_iadd hx hb dL_law_44 ?_
        refine cb_i (wc := ([] : va_W)) (wr := w) (va_runS (As := [.ref b, .int (nI k + 1)]) (rest := [.int ra, .ref o_8, .ref o_0]) ⟨hx, hb, hml, hown, hts⟩ (c_L_cell l D b L xs H.size (nI k + 1) (k + 1) (nI_1 k) (by omega) (Nat.lt_of_le_of_lt hL (by decide))) (va_cwS 2 hts gL_law_L_cell rfl rfl rfl (by decide +kernel) ⟨Nat.le_of_ble_eq_true rfl, Nat.le_of_ble_eq_true rfl⟩) (cell_pre hX hbl hbA hS) rfl rfl hl.1 rfl (lv_room (Nat.le_of_ble_eq_true rfl)) dL_law_45 ⟨Nat.le_trans (show 188 + 22 * k + 0 ≤ 2000 by omega) (Nat.le_of_ble_eq_true rfl), Nat.le_trans (show 5162 + 626 * k + 0 ≤ 50000 by omega) (Nat.le_of_ble_eq_true rfl)⟩) hP hD hS hA (List.Perm.refl _) (fun rb w8 H locs hq9 hP hD hS => ?_)
        subst hq9
        have hP : va_P D vwCl w H := hP
        have hD : va_D A w := hD
        refine W.widen (k := 188 + 22 * k + 0) (n := 5162 + 626 * k + 0) (Nat.le_refl _) (Nat.le_refl _) ?_
        refine lv_iconst (v := 2) hx hb dL_law_48 (by decide) ?_
        refine lv_ishr hx hb dL_law_49 ?_
        refine cb_i (wr := ([] : va_W)) (va_runS (As := [.ref o_0, .ref o_8, .int ra, .int (rb >>> (2 &&& 31))]) (rest := []) ⟨hx, hb, hml, hown, hts⟩ (c_lvstep l D Y H.size k o_0 o_8 ra (rb >>> (2 &&& 31)) w hw (by omega)) (va_cwS 4 hts gL_law_L_isStep rfl rfl rfl (by decide +kernel) ⟨Nat.le_of_ble_eq_true rfl, Nat.le_of_ble_eq_true rfl⟩) (psb_S (wr := ([] : va_W)) hK hP hD (pl_nil (List.Perm.refl _))) rfl rfl hl.1 rfl (lv_room (Nat.le_of_ble_eq_true rfl)) dL_law_50 ⟨Nat.le_trans (show 188 + 22 * k + 22 ≤ 2000 by omega) (Nat.le_of_ble_eq_true rfl), Nat.le_trans (show 5162 + 626 * k + 626 ≤ 50000 by omega) (Nat.le_of_ble_eq_true rfl)⟩) hP hD hS hA (pl_nil (List.Perm.refl _)) (fun r9 w9 H locs hq9 hP hD hS => ?_)
        obtain ⟨rfl, hw⟩ := hq9
        have hP : va_P D vwCl w9 H := vP_l hP
        have hD : va_D A w9 := vD_l hD
        refine lv_if_eq (tgt := 74) hx hb dL_law_53 (by decide) (fun c_2 => absurd c_2 (by decide)) (fun _ => ?_)
        refine lv_iload hx hb dL_law_56 (lv_at hl 0 rfl) ?_
        refine lv_iconst (v := 4) hx hb dL_law_58 (by decide) ?_
        refine lv_irem hx hb dL_law_59 (by decide) ?_
        refine lv_if_gt (tgt := 70) hx hb dL_law_60 (by decide) (fun c_3 => ?_) (fun c_3 => ?_)
        · refine lv_iconst (v := 1) hx hb dL_law_70 (by decide) ?_
          refine lv_goto (tgt := 75) hx hb dL_law_71 (by decide) ?_
          refine lv_istore_n (lv' := [(3, .int 1), (4, .int (nI k)), (2, .ref o_8), (1, .ref o_0), (0, .ref b)]) hx hb dL_law_75 rfl hl (by decide) rfl (fun ls hl => ?_)
          refine lv_iinc (v := nI k + 1) (lv' := [(4, .int (nI k + 1)), (3, .int 1), (2, .ref o_8), (1, .ref o_0), (0, .ref b)]) hx hb dL_law_76 hl (k := 1) rfl rfl (by decide) rfl (fun ls hl => ?_)
          refine lv_goto (tgt := 21) hx hb dL_law_79 (by decide) ?_
          have hl : lv_has ls 5 [(4, .int (nI (k + 1))), (3, .int 1), (2, .ref o_8), (1, .ref o_0), (0, .ref b)] := by rw [← nI_1]; exact hl
          refine W.widen (k := 188 + 22 * (k + 1)) (n := 5162 + 626 * (k + 1)) (by omega) (by omega) ?_
          exact ih (k + 1) _ _ _ _ (by omega) (by omega) hw hP hD hS hl
        · refine lv_aload_n hx hb dL_law_63 rfl (lv_at hl 3 rfl) ?_
          refine cb_i (wr := ([] : va_W)) (va_runS (As := [.ref o_0]) (rest := []) ⟨hx, hb, hml, hown, hts⟩ (c_lvwell l D Y H.size (k + 1) o_0 o_8 _ hw (by omega)) (va_cwS 1 hts gL_law_L_isWell rfl rfl rfl (by decide +kernel) ⟨Nat.le_of_ble_eq_true rfl, Nat.le_of_ble_eq_true rfl⟩) (psb_S (wr := ([] : va_W)) hK hP hD (pl_nil (List.Perm.refl _))) rfl rfl hl.1 rfl (lv_room (Nat.le_of_ble_eq_true rfl)) dL_law_64 ⟨Nat.le_trans (show 188 + 22 * k + 22 ≤ 2000 by omega) (Nat.le_of_ble_eq_true rfl), Nat.le_trans (show 5162 + 626 * k + 626 ≤ 50000 by omega) (Nat.le_of_ble_eq_true rfl)⟩) hP hD hS hA (pl_nil (List.Perm.refl _)) (fun r9 w9 H locs hq9 hP hD hS => ?_)
          obtain ⟨rfl, hw⟩ := hq9
          have hP : va_P D vwCl w9 H := vP_l hP
          have hD : va_D A w9 := vD_l hD
          refine lv_if_eq (tgt := 74) hx hb dL_law_67 (by decide) (fun c_2 => absurd c_2 (by decide)) (fun _ => ?_)
          refine lv_iconst (v := 1) hx hb dL_law_70 (by decide) ?_
          refine lv_goto (tgt := 75) hx hb dL_law_71 (by decide) ?_
          refine lv_istore_n (lv' := [(3, .int 1), (4, .int (nI k)), (2, .ref o_8), (1, .ref o_0), (0, .ref b)]) hx hb dL_law_75 rfl hl (by decide) rfl (fun ls hl => ?_)
          refine lv_iinc (v := nI k + 1) (lv' := [(4, .int (nI k + 1)), (3, .int 1), (2, .ref o_8), (1, .ref o_0), (0, .ref b)]) hx hb dL_law_76 hl (k := 1) rfl rfl (by decide) rfl (fun ls hl => ?_)
          refine lv_goto (tgt := 21) hx hb dL_law_79 (by decide) ?_
          have hl : lv_has ls 5 [(4, .int (nI (k + 1))), (3, .int 1), (2, .ref o_8), (1, .ref o_0), (0, .ref b)] := by rw [← nI_1]; exact hl
          refine W.widen (k := 188 + 22 * (k + 1)) (n := 5162 + 626 * (k + 1)) (by omega) (by omega) ?_
          exact ih (k + 1) _ _ _ _ (by omega) (by omega) hw hP hD hS hl
  exact loop_21 61 0 _ _ _ _ (by omega) (by omega) hw hP hD hS hl
-- ===== YOUR PART ENDS =====
set_option maxHeartbeats 4000000 in
theorem lw_walk (l : Launch) (hflags : l.flags = flags0) (b : Addr) (xs : List Int32) : MetFree l x (headSpec (Jvm.Cond.code x code maxLocals ret :: tables_1) room_1) (lw_P b xs) (fun _ _ _ _ _ => True) lw_Q := by
  refine MetFree.of_bodyS (code := code) (maxLocals := maxLocals) (ret := ret) (by decide) ?_ ?_
  · intro args s m h hn
    obtain ⟨meth, c, h1, h2, h3, h4, h5, h6, -, -⟩ := Cond.code_spec hn (atoms_spec (ws := Jvm.Cond.code x code maxLocals ret :: tables_1) h _ List.mem_cons_self)
    exact ⟨meth, c, h1, h2, h3, h4, h5, h6⟩
  · intro p e s m args below meth c s₁ B hml0 hP _
    obtain ⟨rfl, hx, hbd, hgv⟩ := hP
    obtain ⟨scr, harrAt, hlist, hof, hsmall⟩ := hx
    obtain ⟨hcb, hkn, -, -⟩ := State.arrayAt?_spec harrAt
    have hown : s.vm.findClass R_law = some m.cls := findClass_of_methodNamed B.named
    have hts0 : ∀ c ∈ (Jvm.Cond.code x code maxLocals ret :: tables_1), c.before #[Value.ref b] s = true := atoms_spec (ws := Jvm.Cond.code x code maxLocals ret :: tables_1) B.pre
    have hts : ∀ w ∈ lw_tbl, w.before #[Value.ref b] s = true := k2_hts_sels lw_privs (fun w hw => hts0 w (List.mem_cons_of_mem _ hw)) lw_privs_ok
    have hml : c.maxLocals = 5 := B.maxLocals_eq (hts0 _ List.mem_cons_self)
    have X₀ : Stand p l e room_1 s m #[Value.ref b] below meth c s₁ [] 0 0 := Stand.of_body B
    have hh0 : s₁.heap = s.heap := by rw [B.state]; rfl
    have hsz : scr.slots.size = xs.length := by rw [← Array.length_toList, hlist, List.length_map]
    have hval : ∀ j : Nat, j < xs.length → scr.slots[j]? = some (.int (xs.getD j 0)) := fun j hj => by
      rw [← Array.getElem?_toList, hlist]
      simp [hj]
    have hbl : b < s.heap.size := (Array.getElem?_eq_some_iff.mp hcb).1
    have hX : va_X b xs.length (fun j => xs.getD j 0) s s.heap := ⟨scr, hcb, hof, hkn, hsz, hval⟩
    have K : W p l e room_1 s m #[Value.ref b] below meth c s₁.heap [] 0 0 (lw_Z below #[Value.ref b] s) (entryFrame m ([Value.ref b] : List Value).toArray 5) := by
      rw [hh0]
      exact whole_start l hflags hbd ⟨B.exec, B.bytes, B.returns, hml, hown, hts, hX, hbl, B.notSynchronized, hgv⟩
    obtain ⟨t, a1, o, b1, b2, b3⟩ := K s₁ rfl X₀
    exact ⟨t, o, a1, b1, b2, b3⟩
theorem lw_pre_spec {args : Array Value} {s : State} (h : (Jvm.Cond.and given_1 narrow_1).before args s = true) (hr : rest_1_c.before args s = true) : ∃ (b : Addr) (xs : List Int32), lw_P b xs args s := by
  have hs := flat_of_before _ h
  have hq := flat_of_before _ hr
  have hc : (Cond.count 1).before args s = true := hs _ (by decide +kernel)
  have harr : (Cond.arrayOf (.arg 0) .int).before args s = true := hs _ (by decide +kernel)
  have hle : (Cond.le (.length (.arg 0)) (.int 260)).before args s = true := hs _ (by decide +kernel)
  have hlen : (Cond.isInt (.length (.arg 0))).before args s = true := hq _ (by decide +kernel)
  have hall : (Cond.all (.arg 0) (.isInt (.elem (.arg 0) (.index 0)))).before args s = true := hq _ (by decide +kernel)
  obtain ⟨b, xs, hb, hx⟩ := State.ints_of_pre rfl harr hlen hall
  have hsm : xs.length < 2 ^ 31 := hx.choose_spec.2.2.2
  have hev : (Term.length (.arg 0)).eval args s none [] s = some (.int xs.length.toInt32) := hx.length_eval hb
  have hv := Cond.le_ints hev (show (Term.int 260).eval args s none [] s = some (.int 260) from rfl)
  have hd : xs.length.toInt32 ≤ 260 := by
    simpa [Cond.before, Cond.holds, hv] using hle
  have hN : xs.length ≤ 260 := (Int32.ofNat_le_ofNat hsm (by decide)).mp (show Int32.ofNat xs.length ≤ Int32.ofNat 260 from hd)
  exact ⟨b, xs, Cond.one_arg hc (show args[0]? = some (.ref b) from hb), hx, hN, h⟩
theorem lw_comes (l : Launch) (hflags : l.flags = flags0) : Comes l x (Jvm.Cond.code x code maxLocals ret :: tables_1) room_1 (fun tb e args s => Calls_1 tb e args s ∧ rest_1 tb e args s ∧ Pre_1 tb e args s)
    (fun _ _ args s o t => lw_Q args s o t) := by
  intro p e ha hc hk s m args below hf hfit hheap happ hpre
  obtain ⟨b, xs, hP⟩ := lw_pre_spec hpre.2.2 hpre.2.1
  obtain ⟨k, o, h1, h2, h3, hQ⟩ := lw_walk l hflags b xs p e ha hc hk s m args below hf ((Spec.applies_iff_loose hf).mp happ).1 hP trivial
  exact ⟨k, o, h1, h2, h3, hQ⟩
theorem lw_frame {s t : State} {o : Outcome} {args : Array Value} (h : Framed s o t [] 600000 7302250) :
    Framed s o t (fieldLocs frame_1_writes args s ++ arrayLocs frame_1_arrays args s ++ staticLocs frame_1_statics s) 600000 7302250 := h
theorem lw_limb (L : Cond) (hL : ∀ (args : Array Value) (s t : State), L.after args s (.returned (some (.int 1))) t = true) :
    ArmFor flags0 classFile x code maxLocals ret World_1 tables_1 room_1 Calls_1 rest_1 Pre_1
      (fun tb e a s o t => postC L tb e a s o t ∧ Framed s o t (fieldLocs frame_1_writes a s ++ arrayLocs frame_1_arrays a s ++ staticLocs frame_1_statics s) 600000 7302250) := by
  intro l hflags _ _ p e ha hc hk s m args below hf hfit hheap happ hpre
  obtain ⟨k, o, h1, h2, h3, rfl, hF⟩ := lw_comes l hflags p e ha hc hk s m args below hf hfit hheap happ hpre
  exact ⟨k, _, h1, h2, h3, hL args s _, lw_frame hF⟩
theorem i_vc : Claimed_1_1 ∧ Claimed_1_2 := ⟨lw_limb limb_1_1 (fun args s t => by simp [limb_1_1, Cond.after, Cond.holds, Cond.value]), lw_limb limb_1_2 (fun args s t => Cond.after_iff.mpr (by
  first | (rw [show limb_1_2 = Cond.eq .result (.int 1) from rfl, Cond.eq_ints (x := 1) (y := 1) rfl rfl]; simp; done) | (simp [limb_1_2, Cond.value, Term.eval]; done)))⟩

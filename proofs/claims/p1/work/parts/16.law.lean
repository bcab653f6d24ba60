/-! THE CLAIM OUT OF ONE WALK OF THE LAW'S BODY. Your part is whole_start (and what it stands on); all else here is the same for every law, but numbers. -/
def R_law : String := "NineDancersLaw"
def lw_P (b : Addr) (xs : List Int32) (args : Array Value) (s : State) : Prop := args = #[.ref b] ∧ s.IntsAt b xs ∧ xs.length ≤ 4 ∧ (Jvm.Cond.and given_1 narrow_1).before args s = true
def lw_Q (_ : Array Value) (s : State) (o : Outcome) (t : State) : Prop := o = .returned (some (.int 1)) ∧ Framed s o t [] 600000 7302250
def lw_Z (below : List Frame) (a : Array Value) (s : State) : State → Prop := fun t => ∃ o, t.status = .running ∧ Ended t below o ∧ lw_Q a s o t
/-- the law's own end, with 1 on the stack, nothing written that was there before, its room as the claim has it -/
theorem lw_ret {p : Program} {l : Launch} {e : Env} {s : State} {m : MethodId} {below : List Frame} {meth : Method} {c : Code} {b : Nat} (hx : p.tables.exec = Jvm.exec) (hb : c.code = code) (hr : meth.sig.returnType = ret) (hlocks : meth.locks = false) {pc : Nat} {H : Heap} {ls : Array Slot} (hdg : decode code pc = .ok (.ireturn, 1)) : W p l e room_1 s m #[Value.ref b] below meth c H [] 600000 7302250 (lw_Z below #[Value.ref b] s) (F0 m pc ls [.int 1]) := by
  intro T hT X
  obtain ⟨fs, hret, hrun, hended, hW, hframe⟩ := X.leave (v := some (.int 1)) (hlocks := hlocks) (fun h => by rw [hr] at h; cases h)
  have hmeth' : T.vm.method? m = some meth := X.method'
  refine ⟨T.setFrames fs, ?_, .returned (some (.int 1)), hrun, hended, rfl, ⟨_, rfl⟩, hW, hframe⟩
  jvm_step X.here [X.here.top, hx, hb, hdg, hmeth', hr, ret, narrow_b1]
  (try refine ⟨rfl, ?_⟩); (try refine ⟨rfl, ?_⟩)
  first | (intro acts; rw [hret _ acts rfl rfl rfl]) | rw [hret _ _ rfl rfl rfl]
  exact Steps.refl _
/-- what holds at the law's entry: the machine, the code, the tables' words (any of lw_tbl by 'hts w (by decide +kernel)'), the script of L ints xs at the cell b, what the Statement gives of the start (any of its parts by flat_of_before) -/
def lw_At (p : Program) (s : State) (m : MethodId) (meth : Method) (c : Code) (b L : Nat) (xs : Nat → Int32) : Prop :=
  p.tables.exec = Jvm.exec ∧ c.code = code ∧ meth.sig.returnType = ret ∧ c.maxLocals = 4 ∧ s.vm.findClass R_law = some m.cls ∧ (∀ w ∈ lw_tbl, w.before #[Value.ref b] s = true) ∧ va_X b L xs s s.heap ∧ b < s.heap.size ∧ meth.locks = false ∧ (Jvm.Cond.and given_1 narrow_1).before #[Value.ref b] s = true
set_option maxHeartbeats 40000000 in
set_option maxRecDepth 100000 in
theorem whole_start {p : Program} {e : Env} {s : State} {m : MethodId} {below : List Frame} {meth : Method} {c : Code} (l : Launch) (hflags : l.flags = flags0) {b L : Nat} {xs : Nat → Int32} (hL : L ≤ 4) (C0 : lw_At p s m meth c b L xs) : W p l e room_1 s m #[Value.ref b] below meth c s.heap [] 0 0 (lw_Z below #[Value.ref b] s) (entryFrame m ([Value.ref b] : List Value).toArray 4) := by
  obtain ⟨hx, hb, hr, hml, hown, hts0, hX, hbl, hlocks, hgv⟩ := id C0
  have hts : ∀ w ∈ wsL_law, w.before #[Value.ref b] s = true := fun w h => hts0 w (wsL_law_in w h)
  have hown : s.vm.findClass RL = some m.cls := hown
  have hb : c.code = cL_law := hb
  obtain ⟨D, Y, hK⟩ := law_KK hts0
  generalize hAe : (fun q : Nat => s.heap.size ≤ q) = A
  have hA : ∀ q : Nat, s.heap.size ≤ q → A q := fun _ h => by rw [← hAe]; exact h
  have hAi : ∀ q : Nat, A q → s.heap.size ≤ q := fun _ h => by rw [← hAe] at h; exact h
  have hbA : ¬ A b := fun h => absurd hbl (Nat.not_lt.mpr (hAi b h))
  have hS : va_S A s.heap s.heap [] := va_S.rf
  have hP : va_P D vwCl ([] : va_W) s.heap := fun k q h => by simp at h
  have hD : va_D A ([] : va_W) := ⟨fun i j p q h => by simp at h, fun k q h => by simp at h⟩
  have hl := lv_entry ([.ref b]) (n := 4) (Nat.le_of_ble_eq_true rfl)
  rw [lg_entry_eq]
  generalize (lg_sl ([.ref b]) ++ List.replicate (4 - (lg_sl ([.ref b])).length) Slot.unset).toArray = ls at hl ⊢
  have hl : lv_has ls 4 [(0, .ref b)] := hl
  refine va_new (D := D) (ci := 3) (fs := [.null, .null, .null, .null, .null]) (C := RX3) (T := TX3) (N := 5) hx hb hts inlX3 tyX3 tyX3_ok hown (hts (.classLink RL 7 RX3) (by decide +kernel)) (hts (.instantiable RX3 5) (by decide +kernel)) (hts (.initialized RX3) (by decide +kernel)) hK.1 hP hD hS hA rfl df_X3 (Nat.le_of_ble_eq_true rfl) (Nat.le_of_ble_eq_true rfl) dL_law_0 (fun o_0 H hP hD hS => ?_)
  have hP : va_P D vwCl ([(o_0, .inr (3, [.null, .null, .null, .null, .null]))]) H := hP
  have hD : va_D A ([(o_0, .inr (3, [.null, .null, .null, .null, .null]))]) := hD
  refine W.widen (k := 1) (n := 5) (Nat.le_of_ble_eq_true rfl) (Nat.le_of_ble_eq_true rfl) ?_
  refine lv_dup hx hb dL_law_3 rfl ?_
  refine ck_v (wr := ([] : va_W)) (va_runI (As := []) (rest := [.ref o_0]) ⟨hx, hb, hml, hown, hts⟩ (c_X3_init l D Y H.size o_0) (cwI 0 hts gL_law_X3_init rfl rfl rfl (hts (.initialized RX3) (by decide +kernel)) (hts (.methodLink RL 9 yX3_init) (by decide +kernel)) (hts (.instanceMethod yX3_init) (by decide +kernel)) rfl (by decide +kernel) ⟨Nat.le_of_ble_eq_true rfl, Nat.le_of_ble_eq_true rfl⟩) (pst_S hK hP hD [0] rfl (by decide)) rfl rfl hl.1 rfl (lv_room (Nat.le_of_ble_eq_true rfl)) dL_law_4 ⟨Nat.le_of_ble_eq_true rfl, Nat.le_of_ble_eq_true rfl⟩) hP hD hS hA [0] [] rfl rfl (by decide) (by decide) (fun w9 H locs hw9 hP hD hS => ?_)
  obtain ⟨r, q, tr, q1, pp, tx, h, sa, f, r0, q0, sl, hf, rfl⟩ := hw9
  have hP : va_P D vwCl (wX o_0 r tr pp h sl ++ (wR Y r q S0_X2 ++ (wR Y tr q1 S0_X2 ++ (wP Y pp tx S0_X1 ++ (wH h sa 0 ++ (wA Y sa 6 f ++ (wR Y r0 q0 S0_X2 ++ wA Y sl 2 (fun _ => none)))))))) H := hP
  have hD : va_D A (wX o_0 r tr pp h sl ++ (wR Y r q S0_X2 ++ (wR Y tr q1 S0_X2 ++ (wP Y pp tx S0_X1 ++ (wH h sa 0 ++ (wA Y sa 6 f ++ (wR Y r0 q0 S0_X2 ++ wA Y sl 2 (fun _ => none)))))))) := hD
  refine W.widen (k := 94) (n := 2581) (Nat.le_of_ble_eq_true rfl) (Nat.le_of_ble_eq_true rfl) ?_
  refine lv_astore_n (lv' := [(1, .ref o_0), (0, .ref b)]) hx hb dL_law_7 rfl hl (by decide) rfl (fun ls hl => ?_)
  refine va_new (D := D) (ci := 4) (fs := [.null, .null, .null, .int 0, .null, .null, .null, .null, .int 0, .int 0, .null, .null, .int 0]) (C := RX4) (T := TX4) (N := 13) hx hb hts inlX4 tyX4 tyX4_ok hown (hts (.classLink RL 10 RX4) (by decide +kernel)) (hts (.instantiable RX4 13) (by decide +kernel)) (hts (.initialized RX4) (by decide +kernel)) hK.1 hP hD hS hA rfl df_X4 (Nat.le_of_ble_eq_true rfl) (Nat.le_of_ble_eq_true rfl) dL_law_8 (fun o_8 H hP hD hS => ?_)
  have hP : va_P D vwCl (wX o_0 r tr pp h sl ++ (wR Y r q S0_X2 ++ (wR Y tr q1 S0_X2 ++ (wP Y pp tx S0_X1 ++ (wH h sa 0 ++ (wA Y sa 6 f ++ (wR Y r0 q0 S0_X2 ++ (wA Y sl 2 (fun _ => none) ++ [(o_8, .inr (4, [.null, .null, .null, .int 0, .null, .null, .null, .null, .int 0, .int 0, .null, .null, .int 0]))])))))))) H := hP
  have hD : va_D A (wX o_0 r tr pp h sl ++ (wR Y r q S0_X2 ++ (wR Y tr q1 S0_X2 ++ (wP Y pp tx S0_X1 ++ (wH h sa 0 ++ (wA Y sa 6 f ++ (wR Y r0 q0 S0_X2 ++ (wA Y sl 2 (fun _ => none) ++ [(o_8, .inr (4, [.null, .null, .null, .int 0, .null, .null, .null, .null, .int 0, .int 0, .null, .null, .int 0]))])))))))) := hD
  refine W.widen (k := 95) (n := 2594) (Nat.le_of_ble_eq_true rfl) (Nat.le_of_ble_eq_true rfl) ?_
  refine lv_dup hx hb dL_law_11 rfl ?_
  refine ck_v (wr := wX o_0 r tr pp h sl ++ (wR Y r q S0_X2 ++ (wR Y tr q1 S0_X2 ++ (wP Y pp tx S0_X1 ++ (wH h sa 0 ++ (wA Y sa 6 f ++ (wR Y r0 q0 S0_X2 ++ wA Y sl 2 (fun _ => none)))))))) (va_runI (As := []) (rest := [.ref o_8]) ⟨hx, hb, hml, hown, hts⟩ (c_X4_init l D Y H.size o_8) (cwI 0 hts gL_law_X4_init rfl rfl rfl (hts (.initialized RX4) (by decide +kernel)) (hts (.methodLink RL 12 yX4_init) (by decide +kernel)) (hts (.instanceMethod yX4_init) (by decide +kernel)) rfl (by decide +kernel) ⟨Nat.le_of_ble_eq_true rfl, Nat.le_of_ble_eq_true rfl⟩) (pst_S hK hP hD [39] rfl (by decide)) rfl rfl hl.1 rfl (lv_room (Nat.le_of_ble_eq_true rfl)) dL_law_12 ⟨Nat.le_of_ble_eq_true rfl, Nat.le_of_ble_eq_true rfl⟩) hP hD hS hA [39] [0, 1, 2, 3, 4, 5, 6, 7, 8, 9, 10, 11, 12, 13, 14, 15, 16, 17, 18, 19, 20, 21, 22, 23, 24, 25, 26, 27, 28, 29, 30, 31, 32, 33, 34, 35, 36, 37, 38] rfl rfl (by decide) (by decide) (fun w9 H locs hw9 hP hD hS => ?_)
  obtain ⟨qm, rfl⟩ := hw9
  have hP : va_P D vwCl (wX o_0 r tr pp h sl ++ (wR Y r q S0_X2 ++ (wR Y tr q1 S0_X2 ++ (wP Y pp tx S0_X1 ++ (wH h sa 0 ++ (wA Y sa 6 f ++ (wR Y r0 q0 S0_X2 ++ (wA Y sl 2 (fun _ => none) ++ wM Y o_8 qm S0_X4)))))))) H := hP
  have hD : va_D A (wX o_0 r tr pp h sl ++ (wR Y r q S0_X2 ++ (wR Y tr q1 S0_X2 ++ (wP Y pp tx S0_X1 ++ (wH h sa 0 ++ (wA Y sa 6 f ++ (wR Y r0 q0 S0_X2 ++ (wA Y sl 2 (fun _ => none) ++ wM Y o_8 qm S0_X4)))))))) := hD
  refine W.widen (k := 104) (n := 5845) (Nat.le_of_ble_eq_true rfl) (Nat.le_of_ble_eq_true rfl) ?_
  refine lv_astore_n (lv' := [(2, .ref o_8), (1, .ref o_0), (0, .ref b)]) hx hb dL_law_15 rfl hl (by decide) rfl (fun ls hl => ?_)
  refine lv_iconst (v := 0) hx hb dL_law_16 (by decide) ?_
  refine lv_istore_n (lv' := [(3, .int 0), (2, .ref o_8), (1, .ref o_0), (0, .ref b)]) hx hb dL_law_17 rfl hl (by decide) rfl (fun ls hl => ?_)
  obtain rfl | rfl | rfl | rfl | rfl : L = 4 ∨ L = 3 ∨ L = 2 ∨ L = 1 ∨ L = 0 := by omega
  · refine lv_iload_n hx hb dL_law_18 rfl (lv_at hl 0 rfl) ?_
    refine lv_aload_n hx hb dL_law_19 rfl (lv_at hl 3 rfl) ?_
    refine va_slen hx hb hX hbl hbA hS dL_law_20 ?_
    refine lv_iconst (v := 4) hx hb dL_law_21 (by decide) ?_
    refine lv_isub hx hb dL_law_22 ?_
    refine lv_icmp_gt (tgt := 690) hx hb dL_law_23 (by decide) (fun c_1 => ?_) (fun c_1 => ?_)
    · exact absurd c_1 (by decide)
    · refine lv_aload_n hx hb dL_law_26 rfl (lv_at hl 3 rfl) ?_
      refine lv_iload_n hx hb dL_law_27 rfl (lv_at hl 0 rfl) ?_
      refine va_sld hx hb hX hbl hbA hS (by unfold vp_in; decide) dL_law_28 ?_
      refine lv_bipush (v := 31) hx hb dL_law_29 (by decide) ?_
      refine lv_iand hx hb dL_law_31 ?_
      rcases Decidable.em (((xs (0 : Int32).toNatClampNeg) &&& 31) = 0) with c_2 | c_2
      · refine lv_tableIn (off := 96) (tgt := 128) hx hb dL_law_32 (by rw [c_2]; decide) (by rw [c_2]; decide) (by rw [c_2]; rfl) (by decide) ?_
        refine lv_aload_n hx hb dL_law_128 rfl (lv_at hl 2 rfl) ?_
        refine lv_aload_n hx hb dL_law_129 rfl (lv_at hl 3 rfl) ?_
        refine lv_iload_n hx hb dL_law_130 rfl (lv_at hl 0 rfl) ?_
        refine lv_iconst (v := 1) hx hb dL_law_131 (by decide) ?_
        refine lv_iadd hx hb dL_law_132 ?_
        refine va_sld hx hb hX hbl hbA hS (by unfold vp_in; decide) dL_law_133 ?_
        refine lv_aload_n hx hb dL_law_134 rfl (lv_at hl 3 rfl) ?_
        refine lv_iload_n hx hb dL_law_135 rfl (lv_at hl 0 rfl) ?_
        refine lv_iconst (v := 2) hx hb dL_law_136 (by decide) ?_
        refine lv_iadd hx hb dL_law_137 ?_
        refine va_sld hx hb hX hbl hbA hS (by unfold vp_in; decide) dL_law_138 ?_
        refine ck_iD (wr := wR Y tr q1 S0_X2 ++ (wP Y pp tx S0_X1 ++ (wA Y sl 2 (fun _ => none) ++ wM Y o_8 qm S0_X4))) (ws' := wX o_0 r tr pp h sl ++ (wR Y r q ((D_X3_set 0 f S0_X2 S0_X2 (xs (0 + 1 : Int32).toNatClampNeg) (xs (0 + 2 : Int32).toNatClampNeg)).2.2.1) ++ (wR Y tr q1 S0_X2 ++ (wP Y pp tx S0_X1 ++ (wH h sa ((D_X3_set 0 f S0_X2 S0_X2 (xs (0 + 1 : Int32).toNatClampNeg) (xs (0 + 2 : Int32).toNatClampNeg)).2.1) ++ (wA Y sa 6 f ++ (wR Y r0 q0 ((D_X3_set 0 f S0_X2 S0_X2 (xs (0 + 1 : Int32).toNatClampNeg) (xs (0 + 2 : Int32).toNatClampNeg)).2.2.2) ++ (wA Y sl 2 (fun _ => none) ++ wM Y o_8 qm S0_X4)))))))) (va_runV (As := [.int (xs (0 + 1 : Int32).toNatClampNeg), .int (xs (0 + 2 : Int32).toNatClampNeg)]) (rest := []) ⟨hx, hb, hml, hown, hts⟩ (c_X3_set l D Y H.size r tr pp h sl q sa r0 q0 0 f S0_X2 S0_X2 o_0 (xs (0 + 1 : Int32).toNatClampNeg) (xs (0 + 2 : Int32).toNatClampNeg) rfl hf) (cwV 2 hts gL_law_X3_set rfl rfl rfl (by decide +kernel) ⟨Nat.le_of_ble_eq_true rfl, Nat.le_of_ble_eq_true rfl⟩) (pst_V hK hP hD [0, 25, 26, 1, 2, 3, 4, 5, 6, 7, 8, 9, 10, 11, 27, 28, 29, 30, 31, 32, 33, 34, 35, 36, 37] rfl (by decide) (q0 := 0) rfl rfl) rfl rfl hl.1 rfl (lv_room (Nat.le_of_ble_eq_true rfl)) dL_law_139 ⟨Nat.le_of_ble_eq_true rfl, Nat.le_of_ble_eq_true rfl⟩) hP hD hS hA [0, 25, 26, 1, 2, 3, 4, 5, 6, 7, 8, 9, 10, 11, 27, 28, 29, 30, 31, 32, 33, 34, 35, 36, 37] [12, 13, 14, 15, 16, 17, 18, 19, 20, 21, 22, 23, 24, 38, 39, 40, 41, 42, 43, 44, 45, 46, 47, 48] [24, 27, 28, 29, 30, 31, 32, 33, 34, 35, 36, 37, 0, 1, 2, 3, 4, 5, 6, 7, 8, 9, 10, 11, 12, 25, 26, 38, 39, 40, 41, 42, 43, 44, 45, 46, 47, 48, 13, 14, 15, 16, 17, 18, 19, 20, 21, 22, 23] rfl rfl (by decide) (by decide) rfl (by decide) (fun H locs hP hD hS => ?_)
        obtain ⟨S_1, eS_1⟩ : ∃ z9, (D_X3_set 0 f S0_X2 S0_X2 (xs (0 + 1 : Int32).toNatClampNeg) (xs (0 + 2 : Int32).toNatClampNeg)).2.1 = z9 := ⟨_, rfl⟩
        rw [eS_1] at hP hD
        obtain ⟨S_2, eS_2⟩ : ∃ z9, (D_X3_set 0 f S0_X2 S0_X2 (xs (0 + 1 : Int32).toNatClampNeg) (xs (0 + 2 : Int32).toNatClampNeg)).2.2.1 = z9 := ⟨_, rfl⟩
        rw [eS_2] at hP hD
        obtain ⟨S_3, eS_3⟩ : ∃ z9, (D_X3_set 0 f S0_X2 S0_X2 (xs (0 + 1 : Int32).toNatClampNeg) (xs (0 + 2 : Int32).toNatClampNeg)).2.2.2 = z9 := ⟨_, rfl⟩
        rw [eS_3] at hP hD
        refine lv_aload_n hx hb dL_law_142 rfl (lv_at hl 1 rfl) ?_
        refine lv_aload_n hx hb dL_law_143 rfl (lv_at hl 3 rfl) ?_
        refine lv_iload_n hx hb dL_law_144 rfl (lv_at hl 0 rfl) ?_
        refine lv_iconst (v := 1) hx hb dL_law_145 (by decide) ?_
        refine lv_iadd hx hb dL_law_146 ?_
        refine va_sld hx hb hX hbl hbA hS (by unfold vp_in; decide) dL_law_147 ?_
        refine lv_aload_n hx hb dL_law_148 rfl (lv_at hl 3 rfl) ?_
        refine lv_iload_n hx hb dL_law_149 rfl (lv_at hl 0 rfl) ?_
        refine lv_iconst (v := 2) hx hb dL_law_150 (by decide) ?_
        refine lv_iadd hx hb dL_law_151 ?_
        refine va_sld hx hb hX hbl hbA hS (by unfold vp_in; decide) dL_law_152 ?_
        refine ck_iD (wr := wX o_0 r tr pp h sl ++ (wR Y r q S_2 ++ (wR Y tr q1 S0_X2 ++ (wP Y pp tx S0_X1 ++ (wH h sa S_1 ++ (wA Y sa 6 f ++ (wR Y r0 q0 S_3 ++ wA Y sl 2 (fun _ => none)))))))) (ws' := wX o_0 r tr pp h sl ++ (wR Y r q S_2 ++ (wR Y tr q1 S0_X2 ++ (wP Y pp tx S0_X1 ++ (wH h sa S_1 ++ (wA Y sa 6 f ++ (wR Y r0 q0 S_3 ++ (wA Y sl 2 (fun _ => none) ++ wM Y o_8 qm ((D_X4_set S0_X4 (xs (0 + 1 : Int32).toNatClampNeg) (xs (0 + 2 : Int32).toNatClampNeg)).2))))))))) (va_runV (As := [.int (xs (0 + 1 : Int32).toNatClampNeg), .int (xs (0 + 2 : Int32).toNatClampNeg)]) (rest := [.int ((D_X3_set 0 f S0_X2 S0_X2 (xs (0 + 1 : Int32).toNatClampNeg) (xs (0 + 2 : Int32).toNatClampNeg)).1)]) ⟨hx, hb, hml, hown, hts⟩ (c_X4_set l D Y H.size qm S0_X4 o_8 (xs (0 + 1 : Int32).toNatClampNeg) (xs (0 + 2 : Int32).toNatClampNeg) rfl) (cwV 2 hts gL_law_X4_set rfl rfl rfl (by decide +kernel) ⟨Nat.le_of_ble_eq_true rfl, Nat.le_of_ble_eq_true rfl⟩) (pst_V hK hP hD [39, 40, 41, 42, 43, 44, 45, 46, 47, 48] rfl (by decide) (q0 := 0) rfl rfl) rfl rfl hl.1 rfl (lv_room (Nat.le_of_ble_eq_true rfl)) dL_law_153 ⟨Nat.le_of_ble_eq_true rfl, Nat.le_of_ble_eq_true rfl⟩) hP hD hS hA [39, 40, 41, 42, 43, 44, 45, 46, 47, 48] [0, 1, 2, 3, 4, 5, 6, 7, 8, 9, 10, 11, 12, 13, 14, 15, 16, 17, 18, 19, 20, 21, 22, 23, 24, 25, 26, 27, 28, 29, 30, 31, 32, 33, 34, 35, 36, 37, 38] [0, 1, 2, 3, 4, 5, 6, 7, 8, 9, 10, 11, 12, 13, 14, 15, 16, 17, 18, 19, 20, 21, 22, 23, 24, 25, 26, 27, 28, 29, 30, 31, 32, 33, 34, 35, 36, 37, 38, 39, 40, 41, 42, 43, 44, 45, 46, 47, 48] rfl rfl (by decide) (by decide) rfl (by decide) (fun H locs hP hD hS => ?_)
        obtain ⟨S_4, eS_4⟩ : ∃ z9, (D_X4_set S0_X4 (xs (0 + 1 : Int32).toNatClampNeg) (xs (0 + 2 : Int32).toNatClampNeg)).2 = z9 := ⟨_, rfl⟩
        rw [eS_4] at hP hD
        refine lv_icmp_eq (tgt := 684) hx hb dL_law_156 (by decide) (fun c_3 => ?_) (fun c_3 => ?_)
        · refine lv_iinc (v := 4) (lv' := [(3, .int 4), (2, .ref o_8), (1, .ref o_0), (0, .ref b)]) hx hb dL_law_684 hl (k := 0) rfl rfl (by decide) rfl (fun ls hl => ?_)
          refine lv_goto (tgt := 18) hx hb dL_law_687 (by decide) ?_
          refine lv_iload_n hx hb dL_law_18 rfl (lv_at hl 0 rfl) ?_
          refine lv_aload_n hx hb dL_law_19 rfl (lv_at hl 3 rfl) ?_
          refine va_slen hx hb hX hbl hbA hS dL_law_20 ?_
          refine lv_iconst (v := 4) hx hb dL_law_21 (by decide) ?_
          refine lv_isub hx hb dL_law_22 ?_
          refine lv_icmp_gt (tgt := 690) hx hb dL_law_23 (by decide) (fun c_4 => ?_) (fun c_4 => ?_)
          · refine lv_iconst (v := 1) hx hb dL_law_690 (by decide) ?_
            refine va_forget (fun q hq => hAi _ (hS.2.2 q hq)) ?_
            refine W.widen (k := 600000) (n := 7302250) (Nat.le_of_ble_eq_true rfl) (Nat.le_of_ble_eq_true rfl) ?_
            exact lw_ret hx hb hr hlocks dL_law_691
          · exact absurd c_4 (fun q => q (by decide))
        · exact absurd c_3 (fun q => q (eq_set))
      rcases Decidable.em (((xs (0 : Int32).toNatClampNeg) &&& 31) = 1) with c_5 | c_5
      · refine lv_tableIn (off := 129) (tgt := 161) hx hb dL_law_32 (by rw [c_5]; decide) (by rw [c_5]; decide) (by rw [c_5]; rfl) (by decide) ?_
        refine lv_aload_n hx hb dL_law_161 rfl (lv_at hl 2 rfl) ?_
        refine lv_aload_n hx hb dL_law_162 rfl (lv_at hl 3 rfl) ?_
        refine lv_iload_n hx hb dL_law_163 rfl (lv_at hl 0 rfl) ?_
        refine lv_iconst (v := 1) hx hb dL_law_164 (by decide) ?_
        refine lv_iadd hx hb dL_law_165 ?_
        refine va_sld hx hb hX hbl hbA hS (by unfold vp_in; decide) dL_law_166 ?_
        refine lv_aload_n hx hb dL_law_167 rfl (lv_at hl 3 rfl) ?_
        refine lv_iload_n hx hb dL_law_168 rfl (lv_at hl 0 rfl) ?_
        refine lv_iconst (v := 2) hx hb dL_law_169 (by decide) ?_
        refine lv_iadd hx hb dL_law_170 ?_
        refine va_sld hx hb hX hbl hbA hS (by unfold vp_in; decide) dL_law_171 ?_
        refine lv_aload_n hx hb dL_law_172 rfl (lv_at hl 3 rfl) ?_
        refine lv_iload_n hx hb dL_law_173 rfl (lv_at hl 0 rfl) ?_
        refine lv_iconst (v := 3) hx hb dL_law_174 (by decide) ?_
        refine lv_iadd hx hb dL_law_175 ?_
        refine va_sld hx hb hX hbl hbA hS (by unfold vp_in; decide) dL_law_176 ?_
        refine ck_iD (wr := wR Y tr q1 S0_X2 ++ (wP Y pp tx S0_X1 ++ (wA Y sl 2 (fun _ => none) ++ wM Y o_8 qm S0_X4))) (ws' := wX o_0 r tr pp h sl ++ (wR Y r q ((D_X3_like 0 f S0_X2 S0_X2 (xs (0 + 1 : Int32).toNatClampNeg) (xs (0 + 2 : Int32).toNatClampNeg) (xs (0 + 3 : Int32).toNatClampNeg)).2.2.1) ++ (wR Y tr q1 S0_X2 ++ (wP Y pp tx S0_X1 ++ (wH h sa ((D_X3_like 0 f S0_X2 S0_X2 (xs (0 + 1 : Int32).toNatClampNeg) (xs (0 + 2 : Int32).toNatClampNeg) (xs (0 + 3 : Int32).toNatClampNeg)).2.1) ++ (wA Y sa 6 f ++ (wR Y r0 q0 ((D_X3_like 0 f S0_X2 S0_X2 (xs (0 + 1 : Int32).toNatClampNeg) (xs (0 + 2 : Int32).toNatClampNeg) (xs (0 + 3 : Int32).toNatClampNeg)).2.2.2) ++ (wA Y sl 2 (fun _ => none) ++ wM Y o_8 qm S0_X4)))))))) (va_runV (As := [.int (xs (0 + 1 : Int32).toNatClampNeg), .int (xs (0 + 2 : Int32).toNatClampNeg), .int (xs (0 + 3 : Int32).toNatClampNeg)]) (rest := []) ⟨hx, hb, hml, hown, hts⟩ (c_X3_like l D Y H.size r tr pp h sl q sa r0 q0 0 f S0_X2 S0_X2 o_0 (xs (0 + 1 : Int32).toNatClampNeg) (xs (0 + 2 : Int32).toNatClampNeg) (xs (0 + 3 : Int32).toNatClampNeg) rfl hf) (cwV 3 hts gL_law_X3_like rfl rfl rfl (by decide +kernel) ⟨Nat.le_of_ble_eq_true rfl, Nat.le_of_ble_eq_true rfl⟩) (pst_V hK hP hD [0, 25, 26, 1, 2, 3, 4, 5, 6, 7, 8, 9, 10, 11, 27, 28, 29, 30, 31, 32, 33, 34, 35, 36, 37] rfl (by decide) (q0 := 0) rfl rfl) rfl rfl hl.1 rfl (lv_room (Nat.le_of_ble_eq_true rfl)) dL_law_177 ⟨Nat.le_of_ble_eq_true rfl, Nat.le_of_ble_eq_true rfl⟩) hP hD hS hA [0, 25, 26, 1, 2, 3, 4, 5, 6, 7, 8, 9, 10, 11, 27, 28, 29, 30, 31, 32, 33, 34, 35, 36, 37] [12, 13, 14, 15, 16, 17, 18, 19, 20, 21, 22, 23, 24, 38, 39, 40, 41, 42, 43, 44, 45, 46, 47, 48] [24, 27, 28, 29, 30, 31, 32, 33, 34, 35, 36, 37, 0, 1, 2, 3, 4, 5, 6, 7, 8, 9, 10, 11, 12, 25, 26, 38, 39, 40, 41, 42, 43, 44, 45, 46, 47, 48, 13, 14, 15, 16, 17, 18, 19, 20, 21, 22, 23] rfl rfl (by decide) (by decide) rfl (by decide) (fun H locs hP hD hS => ?_)
        obtain ⟨S_5, eS_5⟩ : ∃ z9, (D_X3_like 0 f S0_X2 S0_X2 (xs (0 + 1 : Int32).toNatClampNeg) (xs (0 + 2 : Int32).toNatClampNeg) (xs (0 + 3 : Int32).toNatClampNeg)).2.1 = z9 := ⟨_, rfl⟩
        rw [eS_5] at hP hD
        obtain ⟨S_6, eS_6⟩ : ∃ z9, (D_X3_like 0 f S0_X2 S0_X2 (xs (0 + 1 : Int32).toNatClampNeg) (xs (0 + 2 : Int32).toNatClampNeg) (xs (0 + 3 : Int32).toNatClampNeg)).2.2.1 = z9 := ⟨_, rfl⟩
        rw [eS_6] at hP hD
        obtain ⟨S_7, eS_7⟩ : ∃ z9, (D_X3_like 0 f S0_X2 S0_X2 (xs (0 + 1 : Int32).toNatClampNeg) (xs (0 + 2 : Int32).toNatClampNeg) (xs (0 + 3 : Int32).toNatClampNeg)).2.2.2 = z9 := ⟨_, rfl⟩
        rw [eS_7] at hP hD
        refine lv_aload_n hx hb dL_law_180 rfl (lv_at hl 1 rfl) ?_
        refine lv_aload_n hx hb dL_law_181 rfl (lv_at hl 3 rfl) ?_
        refine lv_iload_n hx hb dL_law_182 rfl (lv_at hl 0 rfl) ?_
        refine lv_iconst (v := 1) hx hb dL_law_183 (by decide) ?_
        refine lv_iadd hx hb dL_law_184 ?_
        refine va_sld hx hb hX hbl hbA hS (by unfold vp_in; decide) dL_law_185 ?_
        refine lv_aload_n hx hb dL_law_186 rfl (lv_at hl 3 rfl) ?_
        refine lv_iload_n hx hb dL_law_187 rfl (lv_at hl 0 rfl) ?_
        refine lv_iconst (v := 2) hx hb dL_law_188 (by decide) ?_
        refine lv_iadd hx hb dL_law_189 ?_
        refine va_sld hx hb hX hbl hbA hS (by unfold vp_in; decide) dL_law_190 ?_
        refine lv_aload_n hx hb dL_law_191 rfl (lv_at hl 3 rfl) ?_
        refine lv_iload_n hx hb dL_law_192 rfl (lv_at hl 0 rfl) ?_
        refine lv_iconst (v := 3) hx hb dL_law_193 (by decide) ?_
        refine lv_iadd hx hb dL_law_194 ?_
        refine va_sld hx hb hX hbl hbA hS (by unfold vp_in; decide) dL_law_195 ?_
        refine ck_iD (wr := wX o_0 r tr pp h sl ++ (wR Y r q S_6 ++ (wR Y tr q1 S0_X2 ++ (wP Y pp tx S0_X1 ++ (wH h sa S_5 ++ (wA Y sa 6 f ++ (wR Y r0 q0 S_7 ++ wA Y sl 2 (fun _ => none)))))))) (ws' := wX o_0 r tr pp h sl ++ (wR Y r q S_6 ++ (wR Y tr q1 S0_X2 ++ (wP Y pp tx S0_X1 ++ (wH h sa S_5 ++ (wA Y sa 6 f ++ (wR Y r0 q0 S_7 ++ (wA Y sl 2 (fun _ => none) ++ wM Y o_8 qm ((D_X4_like S0_X4 (xs (0 + 1 : Int32).toNatClampNeg) (xs (0 + 2 : Int32).toNatClampNeg) (xs (0 + 3 : Int32).toNatClampNeg)).2))))))))) (va_runV (As := [.int (xs (0 + 1 : Int32).toNatClampNeg), .int (xs (0 + 2 : Int32).toNatClampNeg), .int (xs (0 + 3 : Int32).toNatClampNeg)]) (rest := [.int ((D_X3_like 0 f S0_X2 S0_X2 (xs (0 + 1 : Int32).toNatClampNeg) (xs (0 + 2 : Int32).toNatClampNeg) (xs (0 + 3 : Int32).toNatClampNeg)).1)]) ⟨hx, hb, hml, hown, hts⟩ (c_X4_like l D Y H.size qm S0_X4 o_8 (xs (0 + 1 : Int32).toNatClampNeg) (xs (0 + 2 : Int32).toNatClampNeg) (xs (0 + 3 : Int32).toNatClampNeg) rfl) (cwV 3 hts gL_law_X4_like rfl rfl rfl (by decide +kernel) ⟨Nat.le_of_ble_eq_true rfl, Nat.le_of_ble_eq_true rfl⟩) (pst_V hK hP hD [39, 40, 41, 42, 43, 44, 45, 46, 47, 48] rfl (by decide) (q0 := 0) rfl rfl) rfl rfl hl.1 rfl (lv_room (Nat.le_of_ble_eq_true rfl)) dL_law_196 ⟨Nat.le_of_ble_eq_true rfl, Nat.le_of_ble_eq_true rfl⟩) hP hD hS hA [39, 40, 41, 42, 43, 44, 45, 46, 47, 48] [0, 1, 2, 3, 4, 5, 6, 7, 8, 9, 10, 11, 12, 13, 14, 15, 16, 17, 18, 19, 20, 21, 22, 23, 24, 25, 26, 27, 28, 29, 30, 31, 32, 33, 34, 35, 36, 37, 38] [0, 1, 2, 3, 4, 5, 6, 7, 8, 9, 10, 11, 12, 13, 14, 15, 16, 17, 18, 19, 20, 21, 22, 23, 24, 25, 26, 27, 28, 29, 30, 31, 32, 33, 34, 35, 36, 37, 38, 39, 40, 41, 42, 43, 44, 45, 46, 47, 48] rfl rfl (by decide) (by decide) rfl (by decide) (fun H locs hP hD hS => ?_)
        obtain ⟨S_8, eS_8⟩ : ∃ z9, (D_X4_like S0_X4 (xs (0 + 1 : Int32).toNatClampNeg) (xs (0 + 2 : Int32).toNatClampNeg) (xs (0 + 3 : Int32).toNatClampNeg)).2 = z9 := ⟨_, rfl⟩
        rw [eS_8] at hP hD
        refine lv_icmp_eq (tgt := 684) hx hb dL_law_199 (by decide) (fun c_6 => ?_) (fun c_6 => ?_)
        · refine lv_iinc (v := 4) (lv' := [(3, .int 4), (2, .ref o_8), (1, .ref o_0), (0, .ref b)]) hx hb dL_law_684 hl (k := 0) rfl rfl (by decide) rfl (fun ls hl => ?_)
          refine lv_goto (tgt := 18) hx hb dL_law_687 (by decide) ?_
          refine lv_iload_n hx hb dL_law_18 rfl (lv_at hl 0 rfl) ?_
          refine lv_aload_n hx hb dL_law_19 rfl (lv_at hl 3 rfl) ?_
          refine va_slen hx hb hX hbl hbA hS dL_law_20 ?_
          refine lv_iconst (v := 4) hx hb dL_law_21 (by decide) ?_
          refine lv_isub hx hb dL_law_22 ?_
          refine lv_icmp_gt (tgt := 690) hx hb dL_law_23 (by decide) (fun c_7 => ?_) (fun c_7 => ?_)
          · refine lv_iconst (v := 1) hx hb dL_law_690 (by decide) ?_
            refine va_forget (fun q hq => hAi _ (hS.2.2 q hq)) ?_
            refine W.widen (k := 600000) (n := 7302250) (Nat.le_of_ble_eq_true rfl) (Nat.le_of_ble_eq_true rfl) ?_
            exact lw_ret hx hb hr hlocks dL_law_691
          · exact absurd c_7 (fun q => q (by decide))
        · exact absurd c_6 (fun q => q (eq_like))
      rcases Decidable.em (((xs (0 : Int32).toNatClampNeg) &&& 31) = 2) with c_8 | c_8
      · refine lv_tableIn (off := 172) (tgt := 204) hx hb dL_law_32 (by rw [c_8]; decide) (by rw [c_8]; decide) (by rw [c_8]; rfl) (by decide) ?_
        refine lv_aload_n hx hb dL_law_204 rfl (lv_at hl 2 rfl) ?_
        refine lv_aload_n hx hb dL_law_205 rfl (lv_at hl 3 rfl) ?_
        refine lv_iload_n hx hb dL_law_206 rfl (lv_at hl 0 rfl) ?_
        refine lv_iconst (v := 1) hx hb dL_law_207 (by decide) ?_
        refine lv_iadd hx hb dL_law_208 ?_
        refine va_sld hx hb hX hbl hbA hS (by unfold vp_in; decide) dL_law_209 ?_
        refine lv_aload_n hx hb dL_law_210 rfl (lv_at hl 3 rfl) ?_
        refine lv_iload_n hx hb dL_law_211 rfl (lv_at hl 0 rfl) ?_
        refine lv_iconst (v := 2) hx hb dL_law_212 (by decide) ?_
        refine lv_iadd hx hb dL_law_213 ?_
        refine va_sld hx hb hX hbl hbA hS (by unfold vp_in; decide) dL_law_214 ?_
        refine lv_if_eq (tgt := 222) hx hb dL_law_215 (by decide) (fun c_9 => ?_) (fun c_9 => ?_)
        · refine lv_iconst (v := 0) hx hb dL_law_222 (by decide) ?_
          refine ck_iD (wr := wR Y tr q1 S0_X2 ++ (wP Y pp tx S0_X1 ++ (wA Y sl 2 (fun _ => none) ++ wM Y o_8 qm S0_X4))) (ws' := wX o_0 r tr pp h sl ++ (wR Y r q ((D_X3_away 0 f S0_X2 S0_X2 (xs (0 + 1 : Int32).toNatClampNeg) 0).2.2.1) ++ (wR Y tr q1 S0_X2 ++ (wP Y pp tx S0_X1 ++ (wH h sa ((D_X3_away 0 f S0_X2 S0_X2 (xs (0 + 1 : Int32).toNatClampNeg) 0).2.1) ++ (wA Y sa 6 f ++ (wR Y r0 q0 ((D_X3_away 0 f S0_X2 S0_X2 (xs (0 + 1 : Int32).toNatClampNeg) 0).2.2.2) ++ (wA Y sl 2 (fun _ => none) ++ wM Y o_8 qm S0_X4)))))))) (va_runV (As := [.int (xs (0 + 1 : Int32).toNatClampNeg), .int 0]) (rest := []) ⟨hx, hb, hml, hown, hts⟩ (c_X3_away l D Y H.size r tr pp h sl q sa r0 q0 0 f S0_X2 S0_X2 o_0 (xs (0 + 1 : Int32).toNatClampNeg) 0 rfl hf) (cwV 2 hts gL_law_X3_away rfl rfl rfl (by decide +kernel) ⟨Nat.le_of_ble_eq_true rfl, Nat.le_of_ble_eq_true rfl⟩) (pst_V hK hP hD [0, 25, 26, 1, 2, 3, 4, 5, 6, 7, 8, 9, 10, 11, 27, 28, 29, 30, 31, 32, 33, 34, 35, 36, 37] rfl (by decide) (q0 := 0) rfl rfl) rfl rfl hl.1 rfl (lv_room (Nat.le_of_ble_eq_true rfl)) dL_law_223 ⟨Nat.le_of_ble_eq_true rfl, Nat.le_of_ble_eq_true rfl⟩) hP hD hS hA [0, 25, 26, 1, 2, 3, 4, 5, 6, 7, 8, 9, 10, 11, 27, 28, 29, 30, 31, 32, 33, 34, 35, 36, 37] [12, 13, 14, 15, 16, 17, 18, 19, 20, 21, 22, 23, 24, 38, 39, 40, 41, 42, 43, 44, 45, 46, 47, 48] [24, 27, 28, 29, 30, 31, 32, 33, 34, 35, 36, 37, 0, 1, 2, 3, 4, 5, 6, 7, 8, 9, 10, 11, 12, 25, 26, 38, 39, 40, 41, 42, 43, 44, 45, 46, 47, 48, 13, 14, 15, 16, 17, 18, 19, 20, 21, 22, 23] rfl rfl (by decide) (by decide) rfl (by decide) (fun H locs hP hD hS => ?_)
          obtain ⟨S_9, eS_9⟩ : ∃ z9, (D_X3_away 0 f S0_X2 S0_X2 (xs (0 + 1 : Int32).toNatClampNeg) 0).2.1 = z9 := ⟨_, rfl⟩
          rw [eS_9] at hP hD
          obtain ⟨S_10, eS_10⟩ : ∃ z9, (D_X3_away 0 f S0_X2 S0_X2 (xs (0 + 1 : Int32).toNatClampNeg) 0).2.2.1 = z9 := ⟨_, rfl⟩
          rw [eS_10] at hP hD
          obtain ⟨S_11, eS_11⟩ : ∃ z9, (D_X3_away 0 f S0_X2 S0_X2 (xs (0 + 1 : Int32).toNatClampNeg) 0).2.2.2 = z9 := ⟨_, rfl⟩
          rw [eS_11] at hP hD
          refine lv_aload_n hx hb dL_law_226 rfl (lv_at hl 1 rfl) ?_
          refine lv_aload_n hx hb dL_law_227 rfl (lv_at hl 3 rfl) ?_
          refine lv_iload_n hx hb dL_law_228 rfl (lv_at hl 0 rfl) ?_
          refine lv_iconst (v := 1) hx hb dL_law_229 (by decide) ?_
          refine lv_iadd hx hb dL_law_230 ?_
          refine va_sld hx hb hX hbl hbA hS (by unfold vp_in; decide) dL_law_231 ?_
          refine lv_aload_n hx hb dL_law_232 rfl (lv_at hl 3 rfl) ?_
          refine lv_iload_n hx hb dL_law_233 rfl (lv_at hl 0 rfl) ?_
          refine lv_iconst (v := 2) hx hb dL_law_234 (by decide) ?_
          refine lv_iadd hx hb dL_law_235 ?_
          refine va_sld hx hb hX hbl hbA hS (by unfold vp_in; decide) dL_law_236 ?_
          refine lv_if_eq (tgt := 244) hx hb dL_law_237 (by decide) (fun c_10 => ?_) (fun c_10 => ?_)
          · refine lv_iconst (v := 0) hx hb dL_law_244 (by decide) ?_
            refine ck_iD (wr := wX o_0 r tr pp h sl ++ (wR Y r q S_10 ++ (wR Y tr q1 S0_X2 ++ (wP Y pp tx S0_X1 ++ (wH h sa S_9 ++ (wA Y sa 6 f ++ (wR Y r0 q0 S_11 ++ wA Y sl 2 (fun _ => none)))))))) (ws' := wX o_0 r tr pp h sl ++ (wR Y r q S_10 ++ (wR Y tr q1 S0_X2 ++ (wP Y pp tx S0_X1 ++ (wH h sa S_9 ++ (wA Y sa 6 f ++ (wR Y r0 q0 S_11 ++ (wA Y sl 2 (fun _ => none) ++ wM Y o_8 qm ((D_X4_away S0_X4 (xs (0 + 1 : Int32).toNatClampNeg) 0).2))))))))) (va_runV (As := [.int (xs (0 + 1 : Int32).toNatClampNeg), .int 0]) (rest := [.int ((D_X3_away 0 f S0_X2 S0_X2 (xs (0 + 1 : Int32).toNatClampNeg) 0).1)]) ⟨hx, hb, hml, hown, hts⟩ (c_X4_away l D Y H.size qm S0_X4 o_8 (xs (0 + 1 : Int32).toNatClampNeg) 0 rfl) (cwV 2 hts gL_law_X4_away rfl rfl rfl (by decide +kernel) ⟨Nat.le_of_ble_eq_true rfl, Nat.le_of_ble_eq_true rfl⟩) (pst_V hK hP hD [39, 40, 41, 42, 43, 44, 45, 46, 47, 48] rfl (by decide) (q0 := 0) rfl rfl) rfl rfl hl.1 rfl (lv_room (Nat.le_of_ble_eq_true rfl)) dL_law_245 ⟨Nat.le_of_ble_eq_true rfl, Nat.le_of_ble_eq_true rfl⟩) hP hD hS hA [39, 40, 41, 42, 43, 44, 45, 46, 47, 48] [0, 1, 2, 3, 4, 5, 6, 7, 8, 9, 10, 11, 12, 13, 14, 15, 16, 17, 18, 19, 20, 21, 22, 23, 24, 25, 26, 27, 28, 29, 30, 31, 32, 33, 34, 35, 36, 37, 38] [0, 1, 2, 3, 4, 5, 6, 7, 8, 9, 10, 11, 12, 13, 14, 15, 16, 17, 18, 19, 20, 21, 22, 23, 24, 25, 26, 27, 28, 29, 30, 31, 32, 33, 34, 35, 36, 37, 38, 39, 40, 41, 42, 43, 44, 45, 46, 47, 48] rfl rfl (by decide) (by decide) rfl (by decide) (fun H locs hP hD hS => ?_)
            obtain ⟨S_12, eS_12⟩ : ∃ z9, (D_X4_away S0_X4 (xs (0 + 1 : Int32).toNatClampNeg) 0).2 = z9 := ⟨_, rfl⟩
            rw [eS_12] at hP hD
            refine lv_icmp_eq (tgt := 684) hx hb dL_law_248 (by decide) (fun c_11 => ?_) (fun c_11 => ?_)
            · refine lv_iinc (v := 4) (lv' := [(3, .int 4), (2, .ref o_8), (1, .ref o_0), (0, .ref b)]) hx hb dL_law_684 hl (k := 0) rfl rfl (by decide) rfl (fun ls hl => ?_)
              refine lv_goto (tgt := 18) hx hb dL_law_687 (by decide) ?_
              refine lv_iload_n hx hb dL_law_18 rfl (lv_at hl 0 rfl) ?_
              refine lv_aload_n hx hb dL_law_19 rfl (lv_at hl 3 rfl) ?_
              refine va_slen hx hb hX hbl hbA hS dL_law_20 ?_
              refine lv_iconst (v := 4) hx hb dL_law_21 (by decide) ?_
              refine lv_isub hx hb dL_law_22 ?_
              refine lv_icmp_gt (tgt := 690) hx hb dL_law_23 (by decide) (fun c_12 => ?_) (fun c_12 => ?_)
              · refine lv_iconst (v := 1) hx hb dL_law_690 (by decide) ?_
                refine va_forget (fun q hq => hAi _ (hS.2.2 q hq)) ?_
                refine W.widen (k := 600000) (n := 7302250) (Nat.le_of_ble_eq_true rfl) (Nat.le_of_ble_eq_true rfl) ?_
                exact lw_ret hx hb hr hlocks dL_law_691
              · exact absurd c_12 (fun q => q (by decide))
            · exact absurd c_11 (fun q => q (eq_away))
          · exact absurd c_10 (fun q => q (c_9))
        · refine lv_iconst (v := 1) hx hb dL_law_218 (by decide) ?_
          refine lv_goto (tgt := 223) hx hb dL_law_219 (by decide) ?_
          refine ck_iD (wr := wR Y tr q1 S0_X2 ++ (wP Y pp tx S0_X1 ++ (wA Y sl 2 (fun _ => none) ++ wM Y o_8 qm S0_X4))) (ws' := wX o_0 r tr pp h sl ++ (wR Y r q ((D_X3_away 0 f S0_X2 S0_X2 (xs (0 + 1 : Int32).toNatClampNeg) 1).2.2.1) ++ (wR Y tr q1 S0_X2 ++ (wP Y pp tx S0_X1 ++ (wH h sa ((D_X3_away 0 f S0_X2 S0_X2 (xs (0 + 1 : Int32).toNatClampNeg) 1).2.1) ++ (wA Y sa 6 f ++ (wR Y r0 q0 ((D_X3_away 0 f S0_X2 S0_X2 (xs (0 + 1 : Int32).toNatClampNeg) 1).2.2.2) ++ (wA Y sl 2 (fun _ => none) ++ wM Y o_8 qm S0_X4)))))))) (va_runV (As := [.int (xs (0 + 1 : Int32).toNatClampNeg), .int 1]) (rest := []) ⟨hx, hb, hml, hown, hts⟩ (c_X3_away l D Y H.size r tr pp h sl q sa r0 q0 0 f S0_X2 S0_X2 o_0 (xs (0 + 1 : Int32).toNatClampNeg) 1 rfl hf) (cwV 2 hts gL_law_X3_away rfl rfl rfl (by decide +kernel) ⟨Nat.le_of_ble_eq_true rfl, Nat.le_of_ble_eq_true rfl⟩) (pst_V hK hP hD [0, 25, 26, 1, 2, 3, 4, 5, 6, 7, 8, 9, 10, 11, 27, 28, 29, 30, 31, 32, 33, 34, 35, 36, 37] rfl (by decide) (q0 := 0) rfl rfl) rfl rfl hl.1 rfl (lv_room (Nat.le_of_ble_eq_true rfl)) dL_law_223 ⟨Nat.le_of_ble_eq_true rfl, Nat.le_of_ble_eq_true rfl⟩) hP hD hS hA [0, 25, 26, 1, 2, 3, 4, 5, 6, 7, 8, 9, 10, 11, 27, 28, 29, 30, 31, 32, 33, 34, 35, 36, 37] [12, 13, 14, 15, 16, 17, 18, 19, 20, 21, 22, 23, 24, 38, 39, 40, 41, 42, 43, 44, 45, 46, 47, 48] [24, 27, 28, 29, 30, 31, 32, 33, 34, 35, 36, 37, 0, 1, 2, 3, 4, 5, 6, 7, 8, 9, 10, 11, 12, 25, 26, 38, 39, 40, 41, 42, 43, 44, 45, 46, 47, 48, 13, 14, 15, 16, 17, 18, 19, 20, 21, 22, 23] rfl rfl (by decide) (by decide) rfl (by decide) (fun H locs hP hD hS => ?_)
          obtain ⟨S_13, eS_13⟩ : ∃ z9, (D_X3_away 0 f S0_X2 S0_X2 (xs (0 + 1 : Int32).toNatClampNeg) 1).2.1 = z9 := ⟨_, rfl⟩
          rw [eS_13] at hP hD
          obtain ⟨S_14, eS_14⟩ : ∃ z9, (D_X3_away 0 f S0_X2 S0_X2 (xs (0 + 1 : Int32).toNatClampNeg) 1).2.2.1 = z9 := ⟨_, rfl⟩
          rw [eS_14] at hP hD
          obtain ⟨S_15, eS_15⟩ : ∃ z9, (D_X3_away 0 f S0_X2 S0_X2 (xs (0 + 1 : Int32).toNatClampNeg) 1).2.2.2 = z9 := ⟨_, rfl⟩
          rw [eS_15] at hP hD
          refine lv_aload_n hx hb dL_law_226 rfl (lv_at hl 1 rfl) ?_
          refine lv_aload_n hx hb dL_law_227 rfl (lv_at hl 3 rfl) ?_
          refine lv_iload_n hx hb dL_law_228 rfl (lv_at hl 0 rfl) ?_
          refine lv_iconst (v := 1) hx hb dL_law_229 (by decide) ?_
          refine lv_iadd hx hb dL_law_230 ?_
          refine va_sld hx hb hX hbl hbA hS (by unfold vp_in; decide) dL_law_231 ?_
          refine lv_aload_n hx hb dL_law_232 rfl (lv_at hl 3 rfl) ?_
          refine lv_iload_n hx hb dL_law_233 rfl (lv_at hl 0 rfl) ?_
          refine lv_iconst (v := 2) hx hb dL_law_234 (by decide) ?_
          refine lv_iadd hx hb dL_law_235 ?_
          refine va_sld hx hb hX hbl hbA hS (by unfold vp_in; decide) dL_law_236 ?_
          refine lv_if_eq (tgt := 244) hx hb dL_law_237 (by decide) (fun c_13 => ?_) (fun c_13 => ?_)
          · exact absurd c_13 (c_9)
          · refine lv_iconst (v := 1) hx hb dL_law_240 (by decide) ?_
            refine lv_goto (tgt := 245) hx hb dL_law_241 (by decide) ?_
            refine ck_iD (wr := wX o_0 r tr pp h sl ++ (wR Y r q S_14 ++ (wR Y tr q1 S0_X2 ++ (wP Y pp tx S0_X1 ++ (wH h sa S_13 ++ (wA Y sa 6 f ++ (wR Y r0 q0 S_15 ++ wA Y sl 2 (fun _ => none)))))))) (ws' := wX o_0 r tr pp h sl ++ (wR Y r q S_14 ++ (wR Y tr q1 S0_X2 ++ (wP Y pp tx S0_X1 ++ (wH h sa S_13 ++ (wA Y sa 6 f ++ (wR Y r0 q0 S_15 ++ (wA Y sl 2 (fun _ => none) ++ wM Y o_8 qm ((D_X4_away S0_X4 (xs (0 + 1 : Int32).toNatClampNeg) 1).2))))))))) (va_runV (As := [.int (xs (0 + 1 : Int32).toNatClampNeg), .int 1]) (rest := [.int ((D_X3_away 0 f S0_X2 S0_X2 (xs (0 + 1 : Int32).toNatClampNeg) 1).1)]) ⟨hx, hb, hml, hown, hts⟩ (c_X4_away l D Y H.size qm S0_X4 o_8 (xs (0 + 1 : Int32).toNatClampNeg) 1 rfl) (cwV 2 hts gL_law_X4_away rfl rfl rfl (by decide +kernel) ⟨Nat.le_of_ble_eq_true rfl, Nat.le_of_ble_eq_true rfl⟩) (pst_V hK hP hD [39, 40, 41, 42, 43, 44, 45, 46, 47, 48] rfl (by decide) (q0 := 0) rfl rfl) rfl rfl hl.1 rfl (lv_room (Nat.le_of_ble_eq_true rfl)) dL_law_245 ⟨Nat.le_of_ble_eq_true rfl, Nat.le_of_ble_eq_true rfl⟩) hP hD hS hA [39, 40, 41, 42, 43, 44, 45, 46, 47, 48] [0, 1, 2, 3, 4, 5, 6, 7, 8, 9, 10, 11, 12, 13, 14, 15, 16, 17, 18, 19, 20, 21, 22, 23, 24, 25, 26, 27, 28, 29, 30, 31, 32, 33, 34, 35, 36, 37, 38] [0, 1, 2, 3, 4, 5, 6, 7, 8, 9, 10, 11, 12, 13, 14, 15, 16, 17, 18, 19, 20, 21, 22, 23, 24, 25, 26, 27, 28, 29, 30, 31, 32, 33, 34, 35, 36, 37, 38, 39, 40, 41, 42, 43, 44, 45, 46, 47, 48] rfl rfl (by decide) (by decide) rfl (by decide) (fun H locs hP hD hS => ?_)
            obtain ⟨S_16, eS_16⟩ : ∃ z9, (D_X4_away S0_X4 (xs (0 + 1 : Int32).toNatClampNeg) 1).2 = z9 := ⟨_, rfl⟩
            rw [eS_16] at hP hD
            refine lv_icmp_eq (tgt := 684) hx hb dL_law_248 (by decide) (fun c_14 => ?_) (fun c_14 => ?_)
            · refine lv_iinc (v := 4) (lv' := [(3, .int 4), (2, .ref o_8), (1, .ref o_0), (0, .ref b)]) hx hb dL_law_684 hl (k := 0) rfl rfl (by decide) rfl (fun ls hl => ?_)
              refine lv_goto (tgt := 18) hx hb dL_law_687 (by decide) ?_
              refine lv_iload_n hx hb dL_law_18 rfl (lv_at hl 0 rfl) ?_
              refine lv_aload_n hx hb dL_law_19 rfl (lv_at hl 3 rfl) ?_
              refine va_slen hx hb hX hbl hbA hS dL_law_20 ?_
              refine lv_iconst (v := 4) hx hb dL_law_21 (by decide) ?_
              refine lv_isub hx hb dL_law_22 ?_
              refine lv_icmp_gt (tgt := 690) hx hb dL_law_23 (by decide) (fun c_15 => ?_) (fun c_15 => ?_)
              · refine lv_iconst (v := 1) hx hb dL_law_690 (by decide) ?_
                refine va_forget (fun q hq => hAi _ (hS.2.2 q hq)) ?_
                refine W.widen (k := 600000) (n := 7302250) (Nat.le_of_ble_eq_true rfl) (Nat.le_of_ble_eq_true rfl) ?_
                exact lw_ret hx hb hr hlocks dL_law_691
              · exact absurd c_15 (fun q => q (by decide))
            · exact absurd c_14 (fun q => q (eq_away))
      rcases Decidable.em (((xs (0 : Int32).toNatClampNeg) &&& 31) = 3) with c_16 | c_16
      · refine lv_tableIn (off := 221) (tgt := 253) hx hb dL_law_32 (by rw [c_16]; decide) (by rw [c_16]; decide) (by rw [c_16]; rfl) (by decide) ?_
        refine lv_aload_n hx hb dL_law_253 rfl (lv_at hl 2 rfl) ?_
        refine lv_aload_n hx hb dL_law_254 rfl (lv_at hl 3 rfl) ?_
        refine lv_iload_n hx hb dL_law_255 rfl (lv_at hl 0 rfl) ?_
        refine lv_iconst (v := 1) hx hb dL_law_256 (by decide) ?_
        refine lv_iadd hx hb dL_law_257 ?_
        refine va_sld hx hb hX hbl hbA hS (by unfold vp_in; decide) dL_law_258 ?_
        refine ck_iD (wr := wR Y tr q1 S0_X2 ++ (wP Y pp tx S0_X1 ++ (wA Y sl 2 (fun _ => none) ++ wM Y o_8 qm S0_X4))) (ws' := wX o_0 r tr pp h sl ++ (wR Y r q ((D_X3_call 0 f S0_X2 S0_X2 (xs (0 + 1 : Int32).toNatClampNeg)).2.2.1) ++ (wR Y tr q1 S0_X2 ++ (wP Y pp tx S0_X1 ++ (wH h sa ((D_X3_call 0 f S0_X2 S0_X2 (xs (0 + 1 : Int32).toNatClampNeg)).2.1) ++ (wA Y sa 6 f ++ (wR Y r0 q0 ((D_X3_call 0 f S0_X2 S0_X2 (xs (0 + 1 : Int32).toNatClampNeg)).2.2.2) ++ (wA Y sl 2 (fun _ => none) ++ wM Y o_8 qm S0_X4)))))))) (va_runV (As := [.int (xs (0 + 1 : Int32).toNatClampNeg)]) (rest := []) ⟨hx, hb, hml, hown, hts⟩ (c_X3_call l D Y H.size r tr pp h sl q sa r0 q0 0 f S0_X2 S0_X2 o_0 (xs (0 + 1 : Int32).toNatClampNeg) rfl hf) (cwV 1 hts gL_law_X3_call rfl rfl rfl (by decide +kernel) ⟨Nat.le_of_ble_eq_true rfl, Nat.le_of_ble_eq_true rfl⟩) (pst_V hK hP hD [0, 25, 26, 1, 2, 3, 4, 5, 6, 7, 8, 9, 10, 11, 27, 28, 29, 30, 31, 32, 33, 34, 35, 36, 37] rfl (by decide) (q0 := 0) rfl rfl) rfl rfl hl.1 rfl (lv_room (Nat.le_of_ble_eq_true rfl)) dL_law_259 ⟨Nat.le_of_ble_eq_true rfl, Nat.le_of_ble_eq_true rfl⟩) hP hD hS hA [0, 25, 26, 1, 2, 3, 4, 5, 6, 7, 8, 9, 10, 11, 27, 28, 29, 30, 31, 32, 33, 34, 35, 36, 37] [12, 13, 14, 15, 16, 17, 18, 19, 20, 21, 22, 23, 24, 38, 39, 40, 41, 42, 43, 44, 45, 46, 47, 48] [24, 27, 28, 29, 30, 31, 32, 33, 34, 35, 36, 37, 0, 1, 2, 3, 4, 5, 6, 7, 8, 9, 10, 11, 12, 25, 26, 38, 39, 40, 41, 42, 43, 44, 45, 46, 47, 48, 13, 14, 15, 16, 17, 18, 19, 20, 21, 22, 23] rfl rfl (by decide) (by decide) rfl (by decide) (fun H locs hP hD hS => ?_)
        obtain ⟨S_17, eS_17⟩ : ∃ z9, (D_X3_call 0 f S0_X2 S0_X2 (xs (0 + 1 : Int32).toNatClampNeg)).2.1 = z9 := ⟨_, rfl⟩
        rw [eS_17] at hP hD
        obtain ⟨S_18, eS_18⟩ : ∃ z9, (D_X3_call 0 f S0_X2 S0_X2 (xs (0 + 1 : Int32).toNatClampNeg)).2.2.1 = z9 := ⟨_, rfl⟩
        rw [eS_18] at hP hD
        obtain ⟨S_19, eS_19⟩ : ∃ z9, (D_X3_call 0 f S0_X2 S0_X2 (xs (0 + 1 : Int32).toNatClampNeg)).2.2.2 = z9 := ⟨_, rfl⟩
        rw [eS_19] at hP hD
        refine lv_aload_n hx hb dL_law_262 rfl (lv_at hl 1 rfl) ?_
        refine lv_aload_n hx hb dL_law_263 rfl (lv_at hl 3 rfl) ?_
        refine lv_iload_n hx hb dL_law_264 rfl (lv_at hl 0 rfl) ?_
        refine lv_iconst (v := 1) hx hb dL_law_265 (by decide) ?_
        refine lv_iadd hx hb dL_law_266 ?_
        refine va_sld hx hb hX hbl hbA hS (by unfold vp_in; decide) dL_law_267 ?_
        refine ck_iD (wr := wX o_0 r tr pp h sl ++ (wR Y r q S_18 ++ (wR Y tr q1 S0_X2 ++ (wP Y pp tx S0_X1 ++ (wH h sa S_17 ++ (wA Y sa 6 f ++ (wR Y r0 q0 S_19 ++ wA Y sl 2 (fun _ => none)))))))) (ws' := wX o_0 r tr pp h sl ++ (wR Y r q S_18 ++ (wR Y tr q1 S0_X2 ++ (wP Y pp tx S0_X1 ++ (wH h sa S_17 ++ (wA Y sa 6 f ++ (wR Y r0 q0 S_19 ++ (wA Y sl 2 (fun _ => none) ++ wM Y o_8 qm ((D_X4_call S0_X4 (xs (0 + 1 : Int32).toNatClampNeg)).2))))))))) (va_runV (As := [.int (xs (0 + 1 : Int32).toNatClampNeg)]) (rest := [.int ((D_X3_call 0 f S0_X2 S0_X2 (xs (0 + 1 : Int32).toNatClampNeg)).1)]) ⟨hx, hb, hml, hown, hts⟩ (c_X4_call l D Y H.size qm S0_X4 o_8 (xs (0 + 1 : Int32).toNatClampNeg) rfl) (cwV 1 hts gL_law_X4_call rfl rfl rfl (by decide +kernel) ⟨Nat.le_of_ble_eq_true rfl, Nat.le_of_ble_eq_true rfl⟩) (pst_V hK hP hD [39, 40, 41, 42, 43, 44, 45, 46, 47, 48] rfl (by decide) (q0 := 0) rfl rfl) rfl rfl hl.1 rfl (lv_room (Nat.le_of_ble_eq_true rfl)) dL_law_268 ⟨Nat.le_of_ble_eq_true rfl, Nat.le_of_ble_eq_true rfl⟩) hP hD hS hA [39, 40, 41, 42, 43, 44, 45, 46, 47, 48] [0, 1, 2, 3, 4, 5, 6, 7, 8, 9, 10, 11, 12, 13, 14, 15, 16, 17, 18, 19, 20, 21, 22, 23, 24, 25, 26, 27, 28, 29, 30, 31, 32, 33, 34, 35, 36, 37, 38] [0, 1, 2, 3, 4, 5, 6, 7, 8, 9, 10, 11, 12, 13, 14, 15, 16, 17, 18, 19, 20, 21, 22, 23, 24, 25, 26, 27, 28, 29, 30, 31, 32, 33, 34, 35, 36, 37, 38, 39, 40, 41, 42, 43, 44, 45, 46, 47, 48] rfl rfl (by decide) (by decide) rfl (by decide) (fun H locs hP hD hS => ?_)
        obtain ⟨S_20, eS_20⟩ : ∃ z9, (D_X4_call S0_X4 (xs (0 + 1 : Int32).toNatClampNeg)).2 = z9 := ⟨_, rfl⟩
        rw [eS_20] at hP hD
        refine lv_icmp_eq (tgt := 684) hx hb dL_law_271 (by decide) (fun c_17 => ?_) (fun c_17 => ?_)
        · refine lv_iinc (v := 4) (lv' := [(3, .int 4), (2, .ref o_8), (1, .ref o_0), (0, .ref b)]) hx hb dL_law_684 hl (k := 0) rfl rfl (by decide) rfl (fun ls hl => ?_)
          refine lv_goto (tgt := 18) hx hb dL_law_687 (by decide) ?_
          refine lv_iload_n hx hb dL_law_18 rfl (lv_at hl 0 rfl) ?_
          refine lv_aload_n hx hb dL_law_19 rfl (lv_at hl 3 rfl) ?_
          refine va_slen hx hb hX hbl hbA hS dL_law_20 ?_
          refine lv_iconst (v := 4) hx hb dL_law_21 (by decide) ?_
          refine lv_isub hx hb dL_law_22 ?_
          refine lv_icmp_gt (tgt := 690) hx hb dL_law_23 (by decide) (fun c_18 => ?_) (fun c_18 => ?_)
          · refine lv_iconst (v := 1) hx hb dL_law_690 (by decide) ?_
            refine va_forget (fun q hq => hAi _ (hS.2.2 q hq)) ?_
            refine W.widen (k := 600000) (n := 7302250) (Nat.le_of_ble_eq_true rfl) (Nat.le_of_ble_eq_true rfl) ?_
            exact lw_ret hx hb hr hlocks dL_law_691
          · exact absurd c_18 (fun q => q (by decide))
        · exact absurd c_17 (fun q => q (eq_call))
      rcases Decidable.em (((xs (0 : Int32).toNatClampNeg) &&& 31) = 4) with c_19 | c_19
      · refine lv_tableIn (off := 244) (tgt := 276) hx hb dL_law_32 (by rw [c_19]; decide) (by rw [c_19]; decide) (by rw [c_19]; rfl) (by decide) ?_
        refine lv_aload_n hx hb dL_law_276 rfl (lv_at hl 2 rfl) ?_
        refine ck_iD (wr := wR Y r q S0_X2 ++ (wR Y tr q1 S0_X2 ++ (wH h sa 0 ++ (wA Y sa 6 f ++ (wR Y r0 q0 S0_X2 ++ (wA Y sl 2 (fun _ => none) ++ wM Y o_8 qm S0_X4)))))) (ws' := wX o_0 r tr pp h sl ++ (wR Y r q S0_X2 ++ (wR Y tr q1 S0_X2 ++ (wP Y pp tx S0_X1 ++ (wH h sa 0 ++ (wA Y sa 6 f ++ (wR Y r0 q0 S0_X2 ++ (wA Y sl 2 (fun _ => none) ++ wM Y o_8 qm S0_X4)))))))) (va_runV (As := []) (rest := []) ⟨hx, hb, hml, hown, hts⟩ (c_X3_read l D Y H.size r tr pp h sl tx S0_X1 o_0 rfl) (cwV 0 hts gL_law_X3_read rfl rfl rfl (by decide +kernel) ⟨Nat.le_of_ble_eq_true rfl, Nat.le_of_ble_eq_true rfl⟩) (pst_V hK hP hD [0, 23, 24] rfl (by decide) (q0 := 0) rfl rfl) rfl rfl hl.1 rfl (lv_room (Nat.le_of_ble_eq_true rfl)) dL_law_277 ⟨Nat.le_of_ble_eq_true rfl, Nat.le_of_ble_eq_true rfl⟩) hP hD hS hA [0, 23, 24] [1, 2, 3, 4, 5, 6, 7, 8, 9, 10, 11, 12, 13, 14, 15, 16, 17, 18, 19, 20, 21, 22, 25, 26, 27, 28, 29, 30, 31, 32, 33, 34, 35, 36, 37, 38, 39, 40, 41, 42, 43, 44, 45, 46, 47, 48] [46, 0, 1, 2, 3, 4, 5, 6, 7, 8, 9, 10, 11, 12, 13, 14, 15, 16, 17, 18, 19, 20, 21, 47, 48, 22, 23, 24, 25, 26, 27, 28, 29, 30, 31, 32, 33, 34, 35, 36, 37, 38, 39, 40, 41, 42, 43, 44, 45] rfl rfl (by decide) (by decide) rfl (by decide) (fun H locs hP hD hS => ?_)
        refine lv_aload_n hx hb dL_law_280 rfl (lv_at hl 1 rfl) ?_
        refine ck_iD (wr := wX o_0 r tr pp h sl ++ (wR Y r q S0_X2 ++ (wR Y tr q1 S0_X2 ++ (wP Y pp tx S0_X1 ++ (wH h sa 0 ++ (wA Y sa 6 f ++ (wR Y r0 q0 S0_X2 ++ wA Y sl 2 (fun _ => none)))))))) (ws' := wX o_0 r tr pp h sl ++ (wR Y r q S0_X2 ++ (wR Y tr q1 S0_X2 ++ (wP Y pp tx S0_X1 ++ (wH h sa 0 ++ (wA Y sa 6 f ++ (wR Y r0 q0 S0_X2 ++ (wA Y sl 2 (fun _ => none) ++ wM Y o_8 qm ((D_X4_read S0_X4).2))))))))) (va_runV (As := []) (rest := [.int (D_X3_read S0_X1)]) ⟨hx, hb, hml, hown, hts⟩ (c_X4_read l D Y H.size qm S0_X4 o_8 rfl) (cwV 0 hts gL_law_X4_read rfl rfl rfl (by decide +kernel) ⟨Nat.le_of_ble_eq_true rfl, Nat.le_of_ble_eq_true rfl⟩) (pst_V hK hP hD [39, 40, 41, 42, 43, 44, 45, 46, 47, 48] rfl (by decide) (q0 := 0) rfl rfl) rfl rfl hl.1 rfl (lv_room (Nat.le_of_ble_eq_true rfl)) dL_law_281 ⟨Nat.le_of_ble_eq_true rfl, Nat.le_of_ble_eq_true rfl⟩) hP hD hS hA [39, 40, 41, 42, 43, 44, 45, 46, 47, 48] [0, 1, 2, 3, 4, 5, 6, 7, 8, 9, 10, 11, 12, 13, 14, 15, 16, 17, 18, 19, 20, 21, 22, 23, 24, 25, 26, 27, 28, 29, 30, 31, 32, 33, 34, 35, 36, 37, 38] [0, 1, 2, 3, 4, 5, 6, 7, 8, 9, 10, 11, 12, 13, 14, 15, 16, 17, 18, 19, 20, 21, 22, 23, 24, 25, 26, 27, 28, 29, 30, 31, 32, 33, 34, 35, 36, 37, 38, 39, 40, 41, 42, 43, 44, 45, 46, 47, 48] rfl rfl (by decide) (by decide) rfl (by decide) (fun H locs hP hD hS => ?_)
        obtain ⟨S_21, eS_21⟩ : ∃ z9, (D_X4_read S0_X4).2 = z9 := ⟨_, rfl⟩
        rw [eS_21] at hP hD
        refine lv_icmp_eq (tgt := 684) hx hb dL_law_284 (by decide) (fun c_20 => ?_) (fun c_20 => ?_)
        · refine lv_iinc (v := 4) (lv' := [(3, .int 4), (2, .ref o_8), (1, .ref o_0), (0, .ref b)]) hx hb dL_law_684 hl (k := 0) rfl rfl (by decide) rfl (fun ls hl => ?_)
          refine lv_goto (tgt := 18) hx hb dL_law_687 (by decide) ?_
          refine lv_iload_n hx hb dL_law_18 rfl (lv_at hl 0 rfl) ?_
          refine lv_aload_n hx hb dL_law_19 rfl (lv_at hl 3 rfl) ?_
          refine va_slen hx hb hX hbl hbA hS dL_law_20 ?_
          refine lv_iconst (v := 4) hx hb dL_law_21 (by decide) ?_
          refine lv_isub hx hb dL_law_22 ?_
          refine lv_icmp_gt (tgt := 690) hx hb dL_law_23 (by decide) (fun c_21 => ?_) (fun c_21 => ?_)
          · refine lv_iconst (v := 1) hx hb dL_law_690 (by decide) ?_
            refine va_forget (fun q hq => hAi _ (hS.2.2 q hq)) ?_
            refine W.widen (k := 600000) (n := 7302250) (Nat.le_of_ble_eq_true rfl) (Nat.le_of_ble_eq_true rfl) ?_
            exact lw_ret hx hb hr hlocks dL_law_691
          · exact absurd c_21 (fun q => q (by decide))
        · exact absurd c_20 (fun q => q (eq_read))
      rcases Decidable.em (((xs (0 : Int32).toNatClampNeg) &&& 31) = 5) with c_22 | c_22
      · refine lv_tableIn (off := 257) (tgt := 289) hx hb dL_law_32 (by rw [c_22]; decide) (by rw [c_22]; decide) (by rw [c_22]; rfl) (by decide) ?_
        refine lv_aload_n hx hb dL_law_289 rfl (lv_at hl 2 rfl) ?_
        refine lv_aload_n hx hb dL_law_290 rfl (lv_at hl 3 rfl) ?_
        refine lv_iload_n hx hb dL_law_291 rfl (lv_at hl 0 rfl) ?_
        refine lv_iconst (v := 1) hx hb dL_law_292 (by decide) ?_
        refine lv_iadd hx hb dL_law_293 ?_
        refine va_sld hx hb hX hbl hbA hS (by unfold vp_in; decide) dL_law_294 ?_
        refine lv_aload_n hx hb dL_law_295 rfl (lv_at hl 3 rfl) ?_
        refine lv_iload_n hx hb dL_law_296 rfl (lv_at hl 0 rfl) ?_
        refine lv_iconst (v := 2) hx hb dL_law_297 (by decide) ?_
        refine lv_iadd hx hb dL_law_298 ?_
        refine va_sld hx hb hX hbl hbA hS (by unfold vp_in; decide) dL_law_299 ?_
        refine ck_iD (wr := wR Y tr q1 S0_X2 ++ (wP Y pp tx S0_X1 ++ (wA Y sl 2 (fun _ => none) ++ wM Y o_8 qm S0_X4))) (ws' := wX o_0 r tr pp h sl ++ (wR Y r q ((D_X3_feed 0 f S0_X2 S0_X2 (xs (0 + 1 : Int32).toNatClampNeg) (xs (0 + 2 : Int32).toNatClampNeg)).2.2.1) ++ (wR Y tr q1 S0_X2 ++ (wP Y pp tx S0_X1 ++ (wH h sa ((D_X3_feed 0 f S0_X2 S0_X2 (xs (0 + 1 : Int32).toNatClampNeg) (xs (0 + 2 : Int32).toNatClampNeg)).2.1) ++ (wA Y sa 6 f ++ (wR Y r0 q0 ((D_X3_feed 0 f S0_X2 S0_X2 (xs (0 + 1 : Int32).toNatClampNeg) (xs (0 + 2 : Int32).toNatClampNeg)).2.2.2) ++ (wA Y sl 2 (fun _ => none) ++ wM Y o_8 qm S0_X4)))))))) (va_runV (As := [.int (xs (0 + 1 : Int32).toNatClampNeg), .int (xs (0 + 2 : Int32).toNatClampNeg)]) (rest := []) ⟨hx, hb, hml, hown, hts⟩ (c_X3_feed l D Y H.size r tr pp h sl q sa r0 q0 0 f S0_X2 S0_X2 o_0 (xs (0 + 1 : Int32).toNatClampNeg) (xs (0 + 2 : Int32).toNatClampNeg) rfl hf) (cwV 2 hts gL_law_X3_feed rfl rfl rfl (by decide +kernel) ⟨Nat.le_of_ble_eq_true rfl, Nat.le_of_ble_eq_true rfl⟩) (pst_V hK hP hD [0, 25, 26, 1, 2, 3, 4, 5, 6, 7, 8, 9, 10, 11, 27, 28, 29, 30, 31, 32, 33, 34, 35, 36, 37] rfl (by decide) (q0 := 0) rfl rfl) rfl rfl hl.1 rfl (lv_room (Nat.le_of_ble_eq_true rfl)) dL_law_300 ⟨Nat.le_of_ble_eq_true rfl, Nat.le_of_ble_eq_true rfl⟩) hP hD hS hA [0, 25, 26, 1, 2, 3, 4, 5, 6, 7, 8, 9, 10, 11, 27, 28, 29, 30, 31, 32, 33, 34, 35, 36, 37] [12, 13, 14, 15, 16, 17, 18, 19, 20, 21, 22, 23, 24, 38, 39, 40, 41, 42, 43, 44, 45, 46, 47, 48] [24, 27, 28, 29, 30, 31, 32, 33, 34, 35, 36, 37, 0, 1, 2, 3, 4, 5, 6, 7, 8, 9, 10, 11, 12, 25, 26, 38, 39, 40, 41, 42, 43, 44, 45, 46, 47, 48, 13, 14, 15, 16, 17, 18, 19, 20, 21, 22, 23] rfl rfl (by decide) (by decide) rfl (by decide) (fun H locs hP hD hS => ?_)
        obtain ⟨S_22, eS_22⟩ : ∃ z9, (D_X3_feed 0 f S0_X2 S0_X2 (xs (0 + 1 : Int32).toNatClampNeg) (xs (0 + 2 : Int32).toNatClampNeg)).2.1 = z9 := ⟨_, rfl⟩
        rw [eS_22] at hP hD
        obtain ⟨S_23, eS_23⟩ : ∃ z9, (D_X3_feed 0 f S0_X2 S0_X2 (xs (0 + 1 : Int32).toNatClampNeg) (xs (0 + 2 : Int32).toNatClampNeg)).2.2.1 = z9 := ⟨_, rfl⟩
        rw [eS_23] at hP hD
        obtain ⟨S_24, eS_24⟩ : ∃ z9, (D_X3_feed 0 f S0_X2 S0_X2 (xs (0 + 1 : Int32).toNatClampNeg) (xs (0 + 2 : Int32).toNatClampNeg)).2.2.2 = z9 := ⟨_, rfl⟩
        rw [eS_24] at hP hD
        refine lv_aload_n hx hb dL_law_303 rfl (lv_at hl 1 rfl) ?_
        refine lv_aload_n hx hb dL_law_304 rfl (lv_at hl 3 rfl) ?_
        refine lv_iload_n hx hb dL_law_305 rfl (lv_at hl 0 rfl) ?_
        refine lv_iconst (v := 1) hx hb dL_law_306 (by decide) ?_
        refine lv_iadd hx hb dL_law_307 ?_
        refine va_sld hx hb hX hbl hbA hS (by unfold vp_in; decide) dL_law_308 ?_
        refine lv_aload_n hx hb dL_law_309 rfl (lv_at hl 3 rfl) ?_
        refine lv_iload_n hx hb dL_law_310 rfl (lv_at hl 0 rfl) ?_
        refine lv_iconst (v := 2) hx hb dL_law_311 (by decide) ?_
        refine lv_iadd hx hb dL_law_312 ?_
        refine va_sld hx hb hX hbl hbA hS (by unfold vp_in; decide) dL_law_313 ?_
        refine ck_iD (wr := wX o_0 r tr pp h sl ++ (wR Y r q S_23 ++ (wR Y tr q1 S0_X2 ++ (wP Y pp tx S0_X1 ++ (wH h sa S_22 ++ (wA Y sa 6 f ++ (wR Y r0 q0 S_24 ++ wA Y sl 2 (fun _ => none)))))))) (ws' := wX o_0 r tr pp h sl ++ (wR Y r q S_23 ++ (wR Y tr q1 S0_X2 ++ (wP Y pp tx S0_X1 ++ (wH h sa S_22 ++ (wA Y sa 6 f ++ (wR Y r0 q0 S_24 ++ (wA Y sl 2 (fun _ => none) ++ wM Y o_8 qm ((D_X4_feed S0_X4 (xs (0 + 1 : Int32).toNatClampNeg) (xs (0 + 2 : Int32).toNatClampNeg)).2))))))))) (va_runV (As := [.int (xs (0 + 1 : Int32).toNatClampNeg), .int (xs (0 + 2 : Int32).toNatClampNeg)]) (rest := [.int ((D_X3_feed 0 f S0_X2 S0_X2 (xs (0 + 1 : Int32).toNatClampNeg) (xs (0 + 2 : Int32).toNatClampNeg)).1)]) ⟨hx, hb, hml, hown, hts⟩ (c_X4_feed l D Y H.size qm S0_X4 o_8 (xs (0 + 1 : Int32).toNatClampNeg) (xs (0 + 2 : Int32).toNatClampNeg) rfl) (cwV 2 hts gL_law_X4_feed rfl rfl rfl (by decide +kernel) ⟨Nat.le_of_ble_eq_true rfl, Nat.le_of_ble_eq_true rfl⟩) (pst_V hK hP hD [39, 40, 41, 42, 43, 44, 45, 46, 47, 48] rfl (by decide) (q0 := 0) rfl rfl) rfl rfl hl.1 rfl (lv_room (Nat.le_of_ble_eq_true rfl)) dL_law_314 ⟨Nat.le_of_ble_eq_true rfl, Nat.le_of_ble_eq_true rfl⟩) hP hD hS hA [39, 40, 41, 42, 43, 44, 45, 46, 47, 48] [0, 1, 2, 3, 4, 5, 6, 7, 8, 9, 10, 11, 12, 13, 14, 15, 16, 17, 18, 19, 20, 21, 22, 23, 24, 25, 26, 27, 28, 29, 30, 31, 32, 33, 34, 35, 36, 37, 38] [0, 1, 2, 3, 4, 5, 6, 7, 8, 9, 10, 11, 12, 13, 14, 15, 16, 17, 18, 19, 20, 21, 22, 23, 24, 25, 26, 27, 28, 29, 30, 31, 32, 33, 34, 35, 36, 37, 38, 39, 40, 41, 42, 43, 44, 45, 46, 47, 48] rfl rfl (by decide) (by decide) rfl (by decide) (fun H locs hP hD hS => ?_)
        obtain ⟨S_25, eS_25⟩ : ∃ z9, (D_X4_feed S0_X4 (xs (0 + 1 : Int32).toNatClampNeg) (xs (0 + 2 : Int32).toNatClampNeg)).2 = z9 := ⟨_, rfl⟩
        rw [eS_25] at hP hD
        refine lv_icmp_eq (tgt := 684) hx hb dL_law_317 (by decide) (fun c_23 => ?_) (fun c_23 => ?_)
        · refine lv_iinc (v := 4) (lv' := [(3, .int 4), (2, .ref o_8), (1, .ref o_0), (0, .ref b)]) hx hb dL_law_684 hl (k := 0) rfl rfl (by decide) rfl (fun ls hl => ?_)
          refine lv_goto (tgt := 18) hx hb dL_law_687 (by decide) ?_
          refine lv_iload_n hx hb dL_law_18 rfl (lv_at hl 0 rfl) ?_
          refine lv_aload_n hx hb dL_law_19 rfl (lv_at hl 3 rfl) ?_
          refine va_slen hx hb hX hbl hbA hS dL_law_20 ?_
          refine lv_iconst (v := 4) hx hb dL_law_21 (by decide) ?_
          refine lv_isub hx hb dL_law_22 ?_
          refine lv_icmp_gt (tgt := 690) hx hb dL_law_23 (by decide) (fun c_24 => ?_) (fun c_24 => ?_)
          · refine lv_iconst (v := 1) hx hb dL_law_690 (by decide) ?_
            refine va_forget (fun q hq => hAi _ (hS.2.2 q hq)) ?_
            refine W.widen (k := 600000) (n := 7302250) (Nat.le_of_ble_eq_true rfl) (Nat.le_of_ble_eq_true rfl) ?_
            exact lw_ret hx hb hr hlocks dL_law_691
          · exact absurd c_24 (fun q => q (by decide))
        · exact absurd c_23 (fun q => q (eq_feed))
      rcases Decidable.em (((xs (0 : Int32).toNatClampNeg) &&& 31) = 6) with c_25 | c_25
      · refine lv_tableIn (off := 290) (tgt := 322) hx hb dL_law_32 (by rw [c_25]; decide) (by rw [c_25]; decide) (by rw [c_25]; rfl) (by decide) ?_
        refine lv_aload_n hx hb dL_law_322 rfl (lv_at hl 2 rfl) ?_
        refine lv_aload_n hx hb dL_law_323 rfl (lv_at hl 3 rfl) ?_
        refine lv_iload_n hx hb dL_law_324 rfl (lv_at hl 0 rfl) ?_
        refine lv_iconst (v := 1) hx hb dL_law_325 (by decide) ?_
        refine lv_iadd hx hb dL_law_326 ?_
        refine va_sld hx hb hX hbl hbA hS (by unfold vp_in; decide) dL_law_327 ?_
        refine lv_aload_n hx hb dL_law_328 rfl (lv_at hl 3 rfl) ?_
        refine lv_iload_n hx hb dL_law_329 rfl (lv_at hl 0 rfl) ?_
        refine lv_iconst (v := 2) hx hb dL_law_330 (by decide) ?_
        refine lv_iadd hx hb dL_law_331 ?_
        refine va_sld hx hb hX hbl hbA hS (by unfold vp_in; decide) dL_law_332 ?_
        refine ck_iD (wr := wR Y tr q1 S0_X2 ++ (wP Y pp tx S0_X1 ++ (wH h sa 0 ++ (wA Y sa 6 f ++ (wR Y r0 q0 S0_X2 ++ (wA Y sl 2 (fun _ => none) ++ wM Y o_8 qm S0_X4)))))) (ws' := wX o_0 r tr pp h sl ++ (wR Y r q S0_X2 ++ (wR Y tr q1 S0_X2 ++ (wP Y pp tx S0_X1 ++ (wH h sa 0 ++ (wA Y sa 6 f ++ (wR Y r0 q0 S0_X2 ++ (wA Y sl 2 (fun _ => none) ++ wM Y o_8 qm S0_X4)))))))) (va_runV (As := [.int (xs (0 + 1 : Int32).toNatClampNeg), .int (xs (0 + 2 : Int32).toNatClampNeg)]) (rest := []) ⟨hx, hb, hml, hown, hts⟩ (c_X3_villager l D Y H.size r tr pp h sl q S0_X2 o_0 (xs (0 + 1 : Int32).toNatClampNeg) (xs (0 + 2 : Int32).toNatClampNeg)) (cwV 2 hts gL_law_X3_villager rfl rfl rfl (by decide +kernel) ⟨Nat.le_of_ble_eq_true rfl, Nat.le_of_ble_eq_true rfl⟩) (pst_V hK hP hD [0, 1, 2, 3, 4, 5, 6, 7, 8, 9, 10, 11] rfl (by decide) (q0 := 0) rfl rfl) rfl rfl hl.1 rfl (lv_room (Nat.le_of_ble_eq_true rfl)) dL_law_333 ⟨Nat.le_of_ble_eq_true rfl, Nat.le_of_ble_eq_true rfl⟩) hP hD hS hA [0, 1, 2, 3, 4, 5, 6, 7, 8, 9, 10, 11] [12, 13, 14, 15, 16, 17, 18, 19, 20, 21, 22, 23, 24, 25, 26, 27, 28, 29, 30, 31, 32, 33, 34, 35, 36, 37, 38, 39, 40, 41, 42, 43, 44, 45, 46, 47, 48] [37, 38, 39, 40, 41, 42, 43, 44, 45, 46, 47, 48, 0, 1, 2, 3, 4, 5, 6, 7, 8, 9, 10, 11, 12, 13, 14, 15, 16, 17, 18, 19, 20, 21, 22, 23, 24, 25, 26, 27, 28, 29, 30, 31, 32, 33, 34, 35, 36] rfl rfl (by decide) (by decide) rfl (by decide) (fun H locs hP hD hS => ?_)
        refine lv_aload_n hx hb dL_law_336 rfl (lv_at hl 1 rfl) ?_
        refine lv_aload_n hx hb dL_law_337 rfl (lv_at hl 3 rfl) ?_
        refine lv_iload_n hx hb dL_law_338 rfl (lv_at hl 0 rfl) ?_
        refine lv_iconst (v := 1) hx hb dL_law_339 (by decide) ?_
        refine lv_iadd hx hb dL_law_340 ?_
        refine va_sld hx hb hX hbl hbA hS (by unfold vp_in; decide) dL_law_341 ?_
        refine lv_aload_n hx hb dL_law_342 rfl (lv_at hl 3 rfl) ?_
        refine lv_iload_n hx hb dL_law_343 rfl (lv_at hl 0 rfl) ?_
        refine lv_iconst (v := 2) hx hb dL_law_344 (by decide) ?_
        refine lv_iadd hx hb dL_law_345 ?_
        refine va_sld hx hb hX hbl hbA hS (by unfold vp_in; decide) dL_law_346 ?_
        refine ck_iD (wr := wX o_0 r tr pp h sl ++ (wR Y r q S0_X2 ++ (wR Y tr q1 S0_X2 ++ (wP Y pp tx S0_X1 ++ (wH h sa 0 ++ (wA Y sa 6 f ++ (wR Y r0 q0 S0_X2 ++ wA Y sl 2 (fun _ => none)))))))) (ws' := wX o_0 r tr pp h sl ++ (wR Y r q S0_X2 ++ (wR Y tr q1 S0_X2 ++ (wP Y pp tx S0_X1 ++ (wH h sa 0 ++ (wA Y sa 6 f ++ (wR Y r0 q0 S0_X2 ++ (wA Y sl 2 (fun _ => none) ++ wM Y o_8 qm S0_X4)))))))) (va_runV (As := [.int (xs (0 + 1 : Int32).toNatClampNeg), .int (xs (0 + 2 : Int32).toNatClampNeg)]) (rest := [.int (D_X3_villager S0_X2 (xs (0 + 1 : Int32).toNatClampNeg) (xs (0 + 2 : Int32).toNatClampNeg))]) ⟨hx, hb, hml, hown, hts⟩ (c_X4_villager l D Y H.size qm S0_X4 o_8 (xs (0 + 1 : Int32).toNatClampNeg) (xs (0 + 2 : Int32).toNatClampNeg)) (cwV 2 hts gL_law_X4_villager rfl rfl rfl (by decide +kernel) ⟨Nat.le_of_ble_eq_true rfl, Nat.le_of_ble_eq_true rfl⟩) (pst_V hK hP hD [39, 40, 41, 42, 43, 44, 45, 46, 47, 48] rfl (by decide) (q0 := 0) rfl rfl) rfl rfl hl.1 rfl (lv_room (Nat.le_of_ble_eq_true rfl)) dL_law_347 ⟨Nat.le_of_ble_eq_true rfl, Nat.le_of_ble_eq_true rfl⟩) hP hD hS hA [39, 40, 41, 42, 43, 44, 45, 46, 47, 48] [0, 1, 2, 3, 4, 5, 6, 7, 8, 9, 10, 11, 12, 13, 14, 15, 16, 17, 18, 19, 20, 21, 22, 23, 24, 25, 26, 27, 28, 29, 30, 31, 32, 33, 34, 35, 36, 37, 38] [0, 1, 2, 3, 4, 5, 6, 7, 8, 9, 10, 11, 12, 13, 14, 15, 16, 17, 18, 19, 20, 21, 22, 23, 24, 25, 26, 27, 28, 29, 30, 31, 32, 33, 34, 35, 36, 37, 38, 39, 40, 41, 42, 43, 44, 45, 46, 47, 48] rfl rfl (by decide) (by decide) rfl (by decide) (fun H locs hP hD hS => ?_)
        refine lv_icmp_eq (tgt := 684) hx hb dL_law_350 (by decide) (fun c_26 => ?_) (fun c_26 => ?_)
        · refine lv_iinc (v := 4) (lv' := [(3, .int 4), (2, .ref o_8), (1, .ref o_0), (0, .ref b)]) hx hb dL_law_684 hl (k := 0) rfl rfl (by decide) rfl (fun ls hl => ?_)
          refine lv_goto (tgt := 18) hx hb dL_law_687 (by decide) ?_
          refine lv_iload_n hx hb dL_law_18 rfl (lv_at hl 0 rfl) ?_
          refine lv_aload_n hx hb dL_law_19 rfl (lv_at hl 3 rfl) ?_
          refine va_slen hx hb hX hbl hbA hS dL_law_20 ?_
          refine lv_iconst (v := 4) hx hb dL_law_21 (by decide) ?_
          refine lv_isub hx hb dL_law_22 ?_
          refine lv_icmp_gt (tgt := 690) hx hb dL_law_23 (by decide) (fun c_27 => ?_) (fun c_27 => ?_)
          · refine lv_iconst (v := 1) hx hb dL_law_690 (by decide) ?_
            refine va_forget (fun q hq => hAi _ (hS.2.2 q hq)) ?_
            refine W.widen (k := 600000) (n := 7302250) (Nat.le_of_ble_eq_true rfl) (Nat.le_of_ble_eq_true rfl) ?_
            exact lw_ret hx hb hr hlocks dL_law_691
          · exact absurd c_27 (fun q => q (by decide))
        · exact absurd c_26 (fun q => q (eq_villager))
      rcases Decidable.em (((xs (0 : Int32).toNatClampNeg) &&& 31) = 7) with c_28 | c_28
      · refine lv_tableIn (off := 323) (tgt := 355) hx hb dL_law_32 (by rw [c_28]; decide) (by rw [c_28]; decide) (by rw [c_28]; rfl) (by decide) ?_
        refine lv_aload_n hx hb dL_law_355 rfl (lv_at hl 2 rfl) ?_
        refine lv_aload_n hx hb dL_law_356 rfl (lv_at hl 3 rfl) ?_
        refine lv_iload_n hx hb dL_law_357 rfl (lv_at hl 0 rfl) ?_
        refine lv_iconst (v := 1) hx hb dL_law_358 (by decide) ?_
        refine lv_iadd hx hb dL_law_359 ?_
        refine va_sld hx hb hX hbl hbA hS (by unfold vp_in; decide) dL_law_360 ?_
        refine lv_aload_n hx hb dL_law_361 rfl (lv_at hl 3 rfl) ?_
        refine lv_iload_n hx hb dL_law_362 rfl (lv_at hl 0 rfl) ?_
        refine lv_iconst (v := 2) hx hb dL_law_363 (by decide) ?_
        refine lv_iadd hx hb dL_law_364 ?_
        refine va_sld hx hb hX hbl hbA hS (by unfold vp_in; decide) dL_law_365 ?_
        refine lv_aload_n hx hb dL_law_366 rfl (lv_at hl 3 rfl) ?_
        refine lv_iload_n hx hb dL_law_367 rfl (lv_at hl 0 rfl) ?_
        refine lv_iconst (v := 3) hx hb dL_law_368 (by decide) ?_
        refine lv_iadd hx hb dL_law_369 ?_
        refine va_sld hx hb hX hbl hbA hS (by unfold vp_in; decide) dL_law_370 ?_
        refine ck_iD (wr := wR Y tr q1 S0_X2 ++ (wP Y pp tx S0_X1 ++ (wH h sa 0 ++ (wA Y sa 6 f ++ (wR Y r0 q0 S0_X2 ++ (wA Y sl 2 (fun _ => none) ++ wM Y o_8 qm S0_X4)))))) (ws' := wX o_0 r tr pp h sl ++ (wR Y r q S0_X2 ++ (wR Y tr q1 S0_X2 ++ (wP Y pp tx S0_X1 ++ (wH h sa 0 ++ (wA Y sa 6 f ++ (wR Y r0 q0 S0_X2 ++ (wA Y sl 2 (fun _ => none) ++ wM Y o_8 qm S0_X4)))))))) (va_runV (As := [.int (xs (0 + 1 : Int32).toNatClampNeg), .int (xs (0 + 2 : Int32).toNatClampNeg), .int (xs (0 + 3 : Int32).toNatClampNeg)]) (rest := []) ⟨hx, hb, hml, hown, hts⟩ (c_X3_pair l D Y H.size r tr pp h sl q S0_X2 o_0 (xs (0 + 1 : Int32).toNatClampNeg) (xs (0 + 2 : Int32).toNatClampNeg) (xs (0 + 3 : Int32).toNatClampNeg)) (cwV 3 hts gL_law_X3_pair rfl rfl rfl (by decide +kernel) ⟨Nat.le_of_ble_eq_true rfl, Nat.le_of_ble_eq_true rfl⟩) (pst_V hK hP hD [0, 1, 2, 3, 4, 5, 6, 7, 8, 9, 10, 11] rfl (by decide) (q0 := 0) rfl rfl) rfl rfl hl.1 rfl (lv_room (Nat.le_of_ble_eq_true rfl)) dL_law_371 ⟨Nat.le_of_ble_eq_true rfl, Nat.le_of_ble_eq_true rfl⟩) hP hD hS hA [0, 1, 2, 3, 4, 5, 6, 7, 8, 9, 10, 11] [12, 13, 14, 15, 16, 17, 18, 19, 20, 21, 22, 23, 24, 25, 26, 27, 28, 29, 30, 31, 32, 33, 34, 35, 36, 37, 38, 39, 40, 41, 42, 43, 44, 45, 46, 47, 48] [37, 38, 39, 40, 41, 42, 43, 44, 45, 46, 47, 48, 0, 1, 2, 3, 4, 5, 6, 7, 8, 9, 10, 11, 12, 13, 14, 15, 16, 17, 18, 19, 20, 21, 22, 23, 24, 25, 26, 27, 28, 29, 30, 31, 32, 33, 34, 35, 36] rfl rfl (by decide) (by decide) rfl (by decide) (fun H locs hP hD hS => ?_)
        refine lv_aload_n hx hb dL_law_374 rfl (lv_at hl 1 rfl) ?_
        refine lv_aload_n hx hb dL_law_375 rfl (lv_at hl 3 rfl) ?_
        refine lv_iload_n hx hb dL_law_376 rfl (lv_at hl 0 rfl) ?_
        refine lv_iconst (v := 1) hx hb dL_law_377 (by decide) ?_
        refine lv_iadd hx hb dL_law_378 ?_
        refine va_sld hx hb hX hbl hbA hS (by unfold vp_in; decide) dL_law_379 ?_
        refine lv_aload_n hx hb dL_law_380 rfl (lv_at hl 3 rfl) ?_
        refine lv_iload_n hx hb dL_law_381 rfl (lv_at hl 0 rfl) ?_
        refine lv_iconst (v := 2) hx hb dL_law_382 (by decide) ?_
        refine lv_iadd hx hb dL_law_383 ?_
        refine va_sld hx hb hX hbl hbA hS (by unfold vp_in; decide) dL_law_384 ?_
        refine lv_aload_n hx hb dL_law_385 rfl (lv_at hl 3 rfl) ?_
        refine lv_iload_n hx hb dL_law_386 rfl (lv_at hl 0 rfl) ?_
        refine lv_iconst (v := 3) hx hb dL_law_387 (by decide) ?_
        refine lv_iadd hx hb dL_law_388 ?_
        refine va_sld hx hb hX hbl hbA hS (by unfold vp_in; decide) dL_law_389 ?_
        refine ck_iD (wr := wX o_0 r tr pp h sl ++ (wR Y r q S0_X2 ++ (wR Y tr q1 S0_X2 ++ (wP Y pp tx S0_X1 ++ (wH h sa 0 ++ (wA Y sa 6 f ++ (wR Y r0 q0 S0_X2 ++ wA Y sl 2 (fun _ => none)))))))) (ws' := wX o_0 r tr pp h sl ++ (wR Y r q S0_X2 ++ (wR Y tr q1 S0_X2 ++ (wP Y pp tx S0_X1 ++ (wH h sa 0 ++ (wA Y sa 6 f ++ (wR Y r0 q0 S0_X2 ++ (wA Y sl 2 (fun _ => none) ++ wM Y o_8 qm S0_X4)))))))) (va_runV (As := [.int (xs (0 + 1 : Int32).toNatClampNeg), .int (xs (0 + 2 : Int32).toNatClampNeg), .int (xs (0 + 3 : Int32).toNatClampNeg)]) (rest := [.int (D_X3_pair S0_X2 (xs (0 + 1 : Int32).toNatClampNeg) (xs (0 + 2 : Int32).toNatClampNeg) (xs (0 + 3 : Int32).toNatClampNeg))]) ⟨hx, hb, hml, hown, hts⟩ (c_X4_pair l D Y H.size qm S0_X4 o_8 (xs (0 + 1 : Int32).toNatClampNeg) (xs (0 + 2 : Int32).toNatClampNeg) (xs (0 + 3 : Int32).toNatClampNeg)) (cwV 3 hts gL_law_X4_pair rfl rfl rfl (by decide +kernel) ⟨Nat.le_of_ble_eq_true rfl, Nat.le_of_ble_eq_true rfl⟩) (pst_V hK hP hD [39, 40, 41, 42, 43, 44, 45, 46, 47, 48] rfl (by decide) (q0 := 0) rfl rfl) rfl rfl hl.1 rfl (lv_room (Nat.le_of_ble_eq_true rfl)) dL_law_390 ⟨Nat.le_of_ble_eq_true rfl, Nat.le_of_ble_eq_true rfl⟩) hP hD hS hA [39, 40, 41, 42, 43, 44, 45, 46, 47, 48] [0, 1, 2, 3, 4, 5, 6, 7, 8, 9, 10, 11, 12, 13, 14, 15, 16, 17, 18, 19, 20, 21, 22, 23, 24, 25, 26, 27, 28, 29, 30, 31, 32, 33, 34, 35, 36, 37, 38] [0, 1, 2, 3, 4, 5, 6, 7, 8, 9, 10, 11, 12, 13, 14, 15, 16, 17, 18, 19, 20, 21, 22, 23, 24, 25, 26, 27, 28, 29, 30, 31, 32, 33, 34, 35, 36, 37, 38, 39, 40, 41, 42, 43, 44, 45, 46, 47, 48] rfl rfl (by decide) (by decide) rfl (by decide) (fun H locs hP hD hS => ?_)
        refine lv_icmp_eq (tgt := 684) hx hb dL_law_393 (by decide) (fun c_29 => ?_) (fun c_29 => ?_)
        · refine lv_iinc (v := 4) (lv' := [(3, .int 4), (2, .ref o_8), (1, .ref o_0), (0, .ref b)]) hx hb dL_law_684 hl (k := 0) rfl rfl (by decide) rfl (fun ls hl => ?_)
          refine lv_goto (tgt := 18) hx hb dL_law_687 (by decide) ?_
          refine lv_iload_n hx hb dL_law_18 rfl (lv_at hl 0 rfl) ?_
          refine lv_aload_n hx hb dL_law_19 rfl (lv_at hl 3 rfl) ?_
          refine va_slen hx hb hX hbl hbA hS dL_law_20 ?_
          refine lv_iconst (v := 4) hx hb dL_law_21 (by decide) ?_
          refine lv_isub hx hb dL_law_22 ?_
          refine lv_icmp_gt (tgt := 690) hx hb dL_law_23 (by decide) (fun c_30 => ?_) (fun c_30 => ?_)
          · refine lv_iconst (v := 1) hx hb dL_law_690 (by decide) ?_
            refine va_forget (fun q hq => hAi _ (hS.2.2 q hq)) ?_
            refine W.widen (k := 600000) (n := 7302250) (Nat.le_of_ble_eq_true rfl) (Nat.le_of_ble_eq_true rfl) ?_
            exact lw_ret hx hb hr hlocks dL_law_691
          · exact absurd c_30 (fun q => q (by decide))
        · exact absurd c_29 (fun q => q (eq_pair))
      rcases Decidable.em (((xs (0 : Int32).toNatClampNeg) &&& 31) = 8) with c_31 | c_31
      · refine lv_tableIn (off := 366) (tgt := 398) hx hb dL_law_32 (by rw [c_31]; decide) (by rw [c_31]; decide) (by rw [c_31]; rfl) (by decide) ?_
        refine lv_aload_n hx hb dL_law_398 rfl (lv_at hl 2 rfl) ?_
        refine lv_aload_n hx hb dL_law_399 rfl (lv_at hl 3 rfl) ?_
        refine lv_iload_n hx hb dL_law_400 rfl (lv_at hl 0 rfl) ?_
        refine lv_iconst (v := 1) hx hb dL_law_401 (by decide) ?_
        refine lv_iadd hx hb dL_law_402 ?_
        refine va_sld hx hb hX hbl hbA hS (by unfold vp_in; decide) dL_law_403 ?_
        refine lv_aload_n hx hb dL_law_404 rfl (lv_at hl 3 rfl) ?_
        refine lv_iload_n hx hb dL_law_405 rfl (lv_at hl 0 rfl) ?_
        refine lv_iconst (v := 2) hx hb dL_law_406 (by decide) ?_
        refine lv_iadd hx hb dL_law_407 ?_
        refine va_sld hx hb hX hbl hbA hS (by unfold vp_in; decide) dL_law_408 ?_
        refine ck_iD (wr := wR Y tr q1 S0_X2 ++ (wP Y pp tx S0_X1 ++ (wH h sa 0 ++ (wA Y sa 6 f ++ (wR Y r0 q0 S0_X2 ++ (wA Y sl 2 (fun _ => none) ++ wM Y o_8 qm S0_X4)))))) (ws' := wX o_0 r tr pp h sl ++ (wR Y r q S0_X2 ++ (wR Y tr q1 S0_X2 ++ (wP Y pp tx S0_X1 ++ (wH h sa 0 ++ (wA Y sa 6 f ++ (wR Y r0 q0 S0_X2 ++ (wA Y sl 2 (fun _ => none) ++ wM Y o_8 qm S0_X4)))))))) (va_runV (As := [.int (xs (0 + 1 : Int32).toNatClampNeg), .int (xs (0 + 2 : Int32).toNatClampNeg)]) (rest := []) ⟨hx, hb, hml, hown, hts⟩ (c_X3_partner l D Y H.size r tr pp h sl q S0_X2 o_0 (xs (0 + 1 : Int32).toNatClampNeg) (xs (0 + 2 : Int32).toNatClampNeg)) (cwV 2 hts gL_law_X3_partner rfl rfl rfl (by decide +kernel) ⟨Nat.le_of_ble_eq_true rfl, Nat.le_of_ble_eq_true rfl⟩) (pst_V hK hP hD [0, 1, 2, 3, 4, 5, 6, 7, 8, 9, 10, 11] rfl (by decide) (q0 := 0) rfl rfl) rfl rfl hl.1 rfl (lv_room (Nat.le_of_ble_eq_true rfl)) dL_law_409 ⟨Nat.le_of_ble_eq_true rfl, Nat.le_of_ble_eq_true rfl⟩) hP hD hS hA [0, 1, 2, 3, 4, 5, 6, 7, 8, 9, 10, 11] [12, 13, 14, 15, 16, 17, 18, 19, 20, 21, 22, 23, 24, 25, 26, 27, 28, 29, 30, 31, 32, 33, 34, 35, 36, 37, 38, 39, 40, 41, 42, 43, 44, 45, 46, 47, 48] [37, 38, 39, 40, 41, 42, 43, 44, 45, 46, 47, 48, 0, 1, 2, 3, 4, 5, 6, 7, 8, 9, 10, 11, 12, 13, 14, 15, 16, 17, 18, 19, 20, 21, 22, 23, 24, 25, 26, 27, 28, 29, 30, 31, 32, 33, 34, 35, 36] rfl rfl (by decide) (by decide) rfl (by decide) (fun H locs hP hD hS => ?_)
        refine lv_aload_n hx hb dL_law_412 rfl (lv_at hl 1 rfl) ?_
        refine lv_aload_n hx hb dL_law_413 rfl (lv_at hl 3 rfl) ?_
        refine lv_iload_n hx hb dL_law_414 rfl (lv_at hl 0 rfl) ?_
        refine lv_iconst (v := 1) hx hb dL_law_415 (by decide) ?_
        refine lv_iadd hx hb dL_law_416 ?_
        refine va_sld hx hb hX hbl hbA hS (by unfold vp_in; decide) dL_law_417 ?_
        refine lv_aload_n hx hb dL_law_418 rfl (lv_at hl 3 rfl) ?_
        refine lv_iload_n hx hb dL_law_419 rfl (lv_at hl 0 rfl) ?_
        refine lv_iconst (v := 2) hx hb dL_law_420 (by decide) ?_
        refine lv_iadd hx hb dL_law_421 ?_
        refine va_sld hx hb hX hbl hbA hS (by unfold vp_in; decide) dL_law_422 ?_
        refine ck_iD (wr := wX o_0 r tr pp h sl ++ (wR Y r q S0_X2 ++ (wR Y tr q1 S0_X2 ++ (wP Y pp tx S0_X1 ++ (wH h sa 0 ++ (wA Y sa 6 f ++ (wR Y r0 q0 S0_X2 ++ wA Y sl 2 (fun _ => none)))))))) (ws' := wX o_0 r tr pp h sl ++ (wR Y r q S0_X2 ++ (wR Y tr q1 S0_X2 ++ (wP Y pp tx S0_X1 ++ (wH h sa 0 ++ (wA Y sa 6 f ++ (wR Y r0 q0 S0_X2 ++ (wA Y sl 2 (fun _ => none) ++ wM Y o_8 qm S0_X4)))))))) (va_runV (As := [.int (xs (0 + 1 : Int32).toNatClampNeg), .int (xs (0 + 2 : Int32).toNatClampNeg)]) (rest := [.int (D_X3_partner S0_X2 (xs (0 + 1 : Int32).toNatClampNeg) (xs (0 + 2 : Int32).toNatClampNeg))]) ⟨hx, hb, hml, hown, hts⟩ (c_X4_partner l D Y H.size qm S0_X4 o_8 (xs (0 + 1 : Int32).toNatClampNeg) (xs (0 + 2 : Int32).toNatClampNeg)) (cwV 2 hts gL_law_X4_partner rfl rfl rfl (by decide +kernel) ⟨Nat.le_of_ble_eq_true rfl, Nat.le_of_ble_eq_true rfl⟩) (pst_V hK hP hD [39, 40, 41, 42, 43, 44, 45, 46, 47, 48] rfl (by decide) (q0 := 0) rfl rfl) rfl rfl hl.1 rfl (lv_room (Nat.le_of_ble_eq_true rfl)) dL_law_423 ⟨Nat.le_of_ble_eq_true rfl, Nat.le_of_ble_eq_true rfl⟩) hP hD hS hA [39, 40, 41, 42, 43, 44, 45, 46, 47, 48] [0, 1, 2, 3, 4, 5, 6, 7, 8, 9, 10, 11, 12, 13, 14, 15, 16, 17, 18, 19, 20, 21, 22, 23, 24, 25, 26, 27, 28, 29, 30, 31, 32, 33, 34, 35, 36, 37, 38] [0, 1, 2, 3, 4, 5, 6, 7, 8, 9, 10, 11, 12, 13, 14, 15, 16, 17, 18, 19, 20, 21, 22, 23, 24, 25, 26, 27, 28, 29, 30, 31, 32, 33, 34, 35, 36, 37, 38, 39, 40, 41, 42, 43, 44, 45, 46, 47, 48] rfl rfl (by decide) (by decide) rfl (by decide) (fun H locs hP hD hS => ?_)
        refine lv_icmp_eq (tgt := 684) hx hb dL_law_426 (by decide) (fun c_32 => ?_) (fun c_32 => ?_)
        · refine lv_iinc (v := 4) (lv' := [(3, .int 4), (2, .ref o_8), (1, .ref o_0), (0, .ref b)]) hx hb dL_law_684 hl (k := 0) rfl rfl (by decide) rfl (fun ls hl => ?_)
          refine lv_goto (tgt := 18) hx hb dL_law_687 (by decide) ?_
          refine lv_iload_n hx hb dL_law_18 rfl (lv_at hl 0 rfl) ?_
          refine lv_aload_n hx hb dL_law_19 rfl (lv_at hl 3 rfl) ?_
          refine va_slen hx hb hX hbl hbA hS dL_law_20 ?_
          refine lv_iconst (v := 4) hx hb dL_law_21 (by decide) ?_
          refine lv_isub hx hb dL_law_22 ?_
          refine lv_icmp_gt (tgt := 690) hx hb dL_law_23 (by decide) (fun c_33 => ?_) (fun c_33 => ?_)
          · refine lv_iconst (v := 1) hx hb dL_law_690 (by decide) ?_
            refine va_forget (fun q hq => hAi _ (hS.2.2 q hq)) ?_
            refine W.widen (k := 600000) (n := 7302250) (Nat.le_of_ble_eq_true rfl) (Nat.le_of_ble_eq_true rfl) ?_
            exact lw_ret hx hb hr hlocks dL_law_691
          · exact absurd c_33 (fun q => q (by decide))
        · exact absurd c_32 (fun q => q (eq_partner))
      rcases Decidable.em (((xs (0 : Int32).toNatClampNeg) &&& 31) = 9) with c_34 | c_34
      · refine lv_tableIn (off := 399) (tgt := 431) hx hb dL_law_32 (by rw [c_34]; decide) (by rw [c_34]; decide) (by rw [c_34]; rfl) (by decide) ?_
        refine lv_aload_n hx hb dL_law_431 rfl (lv_at hl 2 rfl) ?_
        refine lv_aload_n hx hb dL_law_432 rfl (lv_at hl 3 rfl) ?_
        refine lv_iload_n hx hb dL_law_433 rfl (lv_at hl 0 rfl) ?_
        refine lv_iconst (v := 1) hx hb dL_law_434 (by decide) ?_
        refine lv_iadd hx hb dL_law_435 ?_
        refine va_sld hx hb hX hbl hbA hS (by unfold vp_in; decide) dL_law_436 ?_
        refine ck_iD (wr := wR Y tr q1 S0_X2 ++ (wA Y sa 6 f ++ (wR Y r0 q0 S0_X2 ++ (wA Y sl 2 (fun _ => none) ++ wM Y o_8 qm S0_X4)))) (ws' := wX o_0 r tr pp h sl ++ (wR Y r q S0_X2 ++ (wR Y tr q1 S0_X2 ++ (wP Y pp tx S0_X1 ++ (wH h sa 0 ++ (wA Y sa 6 f ++ (wR Y r0 q0 S0_X2 ++ (wA Y sl 2 (fun _ => none) ++ wM Y o_8 qm S0_X4)))))))) (va_runV (As := [.int (xs (0 + 1 : Int32).toNatClampNeg)]) (rest := []) ⟨hx, hb, hml, hown, hts⟩ (c_X3_count l D Y H.size r tr pp h sl q tx sa S0_X2 S0_X1 0 o_0 (xs (0 + 1 : Int32).toNatClampNeg)) (cwV 1 hts gL_law_X3_count rfl rfl rfl (by decide +kernel) ⟨Nat.le_of_ble_eq_true rfl, Nat.le_of_ble_eq_true rfl⟩) (pst_V hK hP hD [0, 1, 2, 3, 4, 5, 6, 7, 8, 9, 10, 11, 23, 24, 25] rfl (by decide) (q0 := 0) rfl rfl) rfl rfl hl.1 rfl (lv_room (Nat.le_of_ble_eq_true rfl)) dL_law_437 ⟨Nat.le_of_ble_eq_true rfl, Nat.le_of_ble_eq_true rfl⟩) hP hD hS hA [0, 1, 2, 3, 4, 5, 6, 7, 8, 9, 10, 11, 23, 24, 25] [12, 13, 14, 15, 16, 17, 18, 19, 20, 21, 22, 26, 27, 28, 29, 30, 31, 32, 33, 34, 35, 36, 37, 38, 39, 40, 41, 42, 43, 44, 45, 46, 47, 48] [34, 35, 36, 37, 38, 39, 40, 41, 42, 43, 44, 45, 0, 1, 2, 3, 4, 5, 6, 7, 8, 9, 10, 46, 47, 48, 11, 12, 13, 14, 15, 16, 17, 18, 19, 20, 21, 22, 23, 24, 25, 26, 27, 28, 29, 30, 31, 32, 33] rfl rfl (by decide) (by decide) rfl (by decide) (fun H locs hP hD hS => ?_)
        refine lv_aload_n hx hb dL_law_440 rfl (lv_at hl 1 rfl) ?_
        refine lv_aload_n hx hb dL_law_441 rfl (lv_at hl 3 rfl) ?_
        refine lv_iload_n hx hb dL_law_442 rfl (lv_at hl 0 rfl) ?_
        refine lv_iconst (v := 1) hx hb dL_law_443 (by decide) ?_
        refine lv_iadd hx hb dL_law_444 ?_
        refine va_sld hx hb hX hbl hbA hS (by unfold vp_in; decide) dL_law_445 ?_
        refine ck_iD (wr := wX o_0 r tr pp h sl ++ (wR Y r q S0_X2 ++ (wR Y tr q1 S0_X2 ++ (wP Y pp tx S0_X1 ++ (wH h sa 0 ++ (wA Y sa 6 f ++ (wR Y r0 q0 S0_X2 ++ wA Y sl 2 (fun _ => none)))))))) (ws' := wX o_0 r tr pp h sl ++ (wR Y r q S0_X2 ++ (wR Y tr q1 S0_X2 ++ (wP Y pp tx S0_X1 ++ (wH h sa 0 ++ (wA Y sa 6 f ++ (wR Y r0 q0 S0_X2 ++ (wA Y sl 2 (fun _ => none) ++ wM Y o_8 qm S0_X4)))))))) (va_runV (As := [.int (xs (0 + 1 : Int32).toNatClampNeg)]) (rest := [.int (D_X3_count S0_X2 S0_X1 0 (xs (0 + 1 : Int32).toNatClampNeg))]) ⟨hx, hb, hml, hown, hts⟩ (c_X4_count l D Y H.size qm S0_X4 o_8 (xs (0 + 1 : Int32).toNatClampNeg)) (cwV 1 hts gL_law_X4_count rfl rfl rfl (by decide +kernel) ⟨Nat.le_of_ble_eq_true rfl, Nat.le_of_ble_eq_true rfl⟩) (pst_V hK hP hD [39, 40, 41, 42, 43, 44, 45, 46, 47, 48] rfl (by decide) (q0 := 0) rfl rfl) rfl rfl hl.1 rfl (lv_room (Nat.le_of_ble_eq_true rfl)) dL_law_446 ⟨Nat.le_of_ble_eq_true rfl, Nat.le_of_ble_eq_true rfl⟩) hP hD hS hA [39, 40, 41, 42, 43, 44, 45, 46, 47, 48] [0, 1, 2, 3, 4, 5, 6, 7, 8, 9, 10, 11, 12, 13, 14, 15, 16, 17, 18, 19, 20, 21, 22, 23, 24, 25, 26, 27, 28, 29, 30, 31, 32, 33, 34, 35, 36, 37, 38] [0, 1, 2, 3, 4, 5, 6, 7, 8, 9, 10, 11, 12, 13, 14, 15, 16, 17, 18, 19, 20, 21, 22, 23, 24, 25, 26, 27, 28, 29, 30, 31, 32, 33, 34, 35, 36, 37, 38, 39, 40, 41, 42, 43, 44, 45, 46, 47, 48] rfl rfl (by decide) (by decide) rfl (by decide) (fun H locs hP hD hS => ?_)
        refine lv_icmp_eq (tgt := 684) hx hb dL_law_449 (by decide) (fun c_35 => ?_) (fun c_35 => ?_)
        · refine lv_iinc (v := 4) (lv' := [(3, .int 4), (2, .ref o_8), (1, .ref o_0), (0, .ref b)]) hx hb dL_law_684 hl (k := 0) rfl rfl (by decide) rfl (fun ls hl => ?_)
          refine lv_goto (tgt := 18) hx hb dL_law_687 (by decide) ?_
          refine lv_iload_n hx hb dL_law_18 rfl (lv_at hl 0 rfl) ?_
          refine lv_aload_n hx hb dL_law_19 rfl (lv_at hl 3 rfl) ?_
          refine va_slen hx hb hX hbl hbA hS dL_law_20 ?_
          refine lv_iconst (v := 4) hx hb dL_law_21 (by decide) ?_
          refine lv_isub hx hb dL_law_22 ?_
          refine lv_icmp_gt (tgt := 690) hx hb dL_law_23 (by decide) (fun c_36 => ?_) (fun c_36 => ?_)
          · refine lv_iconst (v := 1) hx hb dL_law_690 (by decide) ?_
            refine va_forget (fun q hq => hAi _ (hS.2.2 q hq)) ?_
            refine W.widen (k := 600000) (n := 7302250) (Nat.le_of_ble_eq_true rfl) (Nat.le_of_ble_eq_true rfl) ?_
            exact lw_ret hx hb hr hlocks dL_law_691
          · exact absurd c_36 (fun q => q (by decide))
        · exact absurd c_35 (fun q => q (eq_count))
      rcases Decidable.em (((xs (0 : Int32).toNatClampNeg) &&& 31) = 10) with c_37 | c_37
      · refine lv_tableIn (off := 422) (tgt := 454) hx hb dL_law_32 (by rw [c_37]; decide) (by rw [c_37]; decide) (by rw [c_37]; rfl) (by decide) ?_
        refine lv_aload_n hx hb dL_law_454 rfl (lv_at hl 2 rfl) ?_
        refine lv_aload_n hx hb dL_law_455 rfl (lv_at hl 3 rfl) ?_
        refine lv_iload_n hx hb dL_law_456 rfl (lv_at hl 0 rfl) ?_
        refine lv_iconst (v := 1) hx hb dL_law_457 (by decide) ?_
        refine lv_iadd hx hb dL_law_458 ?_
        refine va_sld hx hb hX hbl hbA hS (by unfold vp_in; decide) dL_law_459 ?_
        refine lv_aload_n hx hb dL_law_460 rfl (lv_at hl 3 rfl) ?_
        refine lv_iload_n hx hb dL_law_461 rfl (lv_at hl 0 rfl) ?_
        refine lv_iconst (v := 2) hx hb dL_law_462 (by decide) ?_
        refine lv_iadd hx hb dL_law_463 ?_
        refine va_sld hx hb hX hbl hbA hS (by unfold vp_in; decide) dL_law_464 ?_
        refine ck_iD (wr := wR Y tr q1 S0_X2 ++ (wP Y pp tx S0_X1 ++ (wH h sa 0 ++ (wA Y sa 6 f ++ (wR Y r0 q0 S0_X2 ++ (wA Y sl 2 (fun _ => none) ++ wM Y o_8 qm S0_X4)))))) (ws' := wX o_0 r tr pp h sl ++ (wR Y r q S0_X2 ++ (wR Y tr q1 S0_X2 ++ (wP Y pp tx S0_X1 ++ (wH h sa 0 ++ (wA Y sa 6 f ++ (wR Y r0 q0 S0_X2 ++ (wA Y sl 2 (fun _ => none) ++ wM Y o_8 qm S0_X4)))))))) (va_runV (As := [.int (xs (0 + 1 : Int32).toNatClampNeg), .int (xs (0 + 2 : Int32).toNatClampNeg)]) (rest := []) ⟨hx, hb, hml, hown, hts⟩ (c_X3_ifCalled l D Y H.size r tr pp h sl q S0_X2 o_0 (xs (0 + 1 : Int32).toNatClampNeg) (xs (0 + 2 : Int32).toNatClampNeg)) (cwV 2 hts gL_law_X3_ifCalled rfl rfl rfl (by decide +kernel) ⟨Nat.le_of_ble_eq_true rfl, Nat.le_of_ble_eq_true rfl⟩) (pst_V hK hP hD [0, 1, 2, 3, 4, 5, 6, 7, 8, 9, 10, 11] rfl (by decide) (q0 := 0) rfl rfl) rfl rfl hl.1 rfl (lv_room (Nat.le_of_ble_eq_true rfl)) dL_law_465 ⟨Nat.le_of_ble_eq_true rfl, Nat.le_of_ble_eq_true rfl⟩) hP hD hS hA [0, 1, 2, 3, 4, 5, 6, 7, 8, 9, 10, 11] [12, 13, 14, 15, 16, 17, 18, 19, 20, 21, 22, 23, 24, 25, 26, 27, 28, 29, 30, 31, 32, 33, 34, 35, 36, 37, 38, 39, 40, 41, 42, 43, 44, 45, 46, 47, 48] [37, 38, 39, 40, 41, 42, 43, 44, 45, 46, 47, 48, 0, 1, 2, 3, 4, 5, 6, 7, 8, 9, 10, 11, 12, 13, 14, 15, 16, 17, 18, 19, 20, 21, 22, 23, 24, 25, 26, 27, 28, 29, 30, 31, 32, 33, 34, 35, 36] rfl rfl (by decide) (by decide) rfl (by decide) (fun H locs hP hD hS => ?_)
        refine lv_aload_n hx hb dL_law_468 rfl (lv_at hl 1 rfl) ?_
        refine lv_aload_n hx hb dL_law_469 rfl (lv_at hl 3 rfl) ?_
        refine lv_iload_n hx hb dL_law_470 rfl (lv_at hl 0 rfl) ?_
        refine lv_iconst (v := 1) hx hb dL_law_471 (by decide) ?_
        refine lv_iadd hx hb dL_law_472 ?_
        refine va_sld hx hb hX hbl hbA hS (by unfold vp_in; decide) dL_law_473 ?_
        refine lv_aload_n hx hb dL_law_474 rfl (lv_at hl 3 rfl) ?_
        refine lv_iload_n hx hb dL_law_475 rfl (lv_at hl 0 rfl) ?_
        refine lv_iconst (v := 2) hx hb dL_law_476 (by decide) ?_
        refine lv_iadd hx hb dL_law_477 ?_
        refine va_sld hx hb hX hbl hbA hS (by unfold vp_in; decide) dL_law_478 ?_
        refine ck_iD (wr := wX o_0 r tr pp h sl ++ (wR Y r q S0_X2 ++ (wR Y tr q1 S0_X2 ++ (wP Y pp tx S0_X1 ++ (wH h sa 0 ++ (wA Y sa 6 f ++ (wR Y r0 q0 S0_X2 ++ wA Y sl 2 (fun _ => none)))))))) (ws' := wX o_0 r tr pp h sl ++ (wR Y r q S0_X2 ++ (wR Y tr q1 S0_X2 ++ (wP Y pp tx S0_X1 ++ (wH h sa 0 ++ (wA Y sa 6 f ++ (wR Y r0 q0 S0_X2 ++ (wA Y sl 2 (fun _ => none) ++ wM Y o_8 qm S0_X4)))))))) (va_runV (As := [.int (xs (0 + 1 : Int32).toNatClampNeg), .int (xs (0 + 2 : Int32).toNatClampNeg)]) (rest := [.int (D_X3_ifCalled S0_X2 (xs (0 + 1 : Int32).toNatClampNeg) (xs (0 + 2 : Int32).toNatClampNeg))]) ⟨hx, hb, hml, hown, hts⟩ (c_X4_ifCalled l D Y H.size qm S0_X4 o_8 (xs (0 + 1 : Int32).toNatClampNeg) (xs (0 + 2 : Int32).toNatClampNeg)) (cwV 2 hts gL_law_X4_ifCalled rfl rfl rfl (by decide +kernel) ⟨Nat.le_of_ble_eq_true rfl, Nat.le_of_ble_eq_true rfl⟩) (pst_V hK hP hD [39, 40, 41, 42, 43, 44, 45, 46, 47, 48] rfl (by decide) (q0 := 0) rfl rfl) rfl rfl hl.1 rfl (lv_room (Nat.le_of_ble_eq_true rfl)) dL_law_479 ⟨Nat.le_of_ble_eq_true rfl, Nat.le_of_ble_eq_true rfl⟩) hP hD hS hA [39, 40, 41, 42, 43, 44, 45, 46, 47, 48] [0, 1, 2, 3, 4, 5, 6, 7, 8, 9, 10, 11, 12, 13, 14, 15, 16, 17, 18, 19, 20, 21, 22, 23, 24, 25, 26, 27, 28, 29, 30, 31, 32, 33, 34, 35, 36, 37, 38] [0, 1, 2, 3, 4, 5, 6, 7, 8, 9, 10, 11, 12, 13, 14, 15, 16, 17, 18, 19, 20, 21, 22, 23, 24, 25, 26, 27, 28, 29, 30, 31, 32, 33, 34, 35, 36, 37, 38, 39, 40, 41, 42, 43, 44, 45, 46, 47, 48] rfl rfl (by decide) (by decide) rfl (by decide) (fun H locs hP hD hS => ?_)
        refine lv_icmp_eq (tgt := 684) hx hb dL_law_482 (by decide) (fun c_38 => ?_) (fun c_38 => ?_)
        · refine lv_iinc (v := 4) (lv' := [(3, .int 4), (2, .ref o_8), (1, .ref o_0), (0, .ref b)]) hx hb dL_law_684 hl (k := 0) rfl rfl (by decide) rfl (fun ls hl => ?_)
          refine lv_goto (tgt := 18) hx hb dL_law_687 (by decide) ?_
          refine lv_iload_n hx hb dL_law_18 rfl (lv_at hl 0 rfl) ?_
          refine lv_aload_n hx hb dL_law_19 rfl (lv_at hl 3 rfl) ?_
          refine va_slen hx hb hX hbl hbA hS dL_law_20 ?_
          refine lv_iconst (v := 4) hx hb dL_law_21 (by decide) ?_
          refine lv_isub hx hb dL_law_22 ?_
          refine lv_icmp_gt (tgt := 690) hx hb dL_law_23 (by decide) (fun c_39 => ?_) (fun c_39 => ?_)
          · refine lv_iconst (v := 1) hx hb dL_law_690 (by decide) ?_
            refine va_forget (fun q hq => hAi _ (hS.2.2 q hq)) ?_
            refine W.widen (k := 600000) (n := 7302250) (Nat.le_of_ble_eq_true rfl) (Nat.le_of_ble_eq_true rfl) ?_
            exact lw_ret hx hb hr hlocks dL_law_691
          · exact absurd c_39 (fun q => q (by decide))
        · exact absurd c_38 (fun q => q (eq_ifCalled))
      rcases Decidable.em (((xs (0 : Int32).toNatClampNeg) &&& 31) = 11) with c_40 | c_40
      · refine lv_tableIn (off := 455) (tgt := 487) hx hb dL_law_32 (by rw [c_40]; decide) (by rw [c_40]; decide) (by rw [c_40]; rfl) (by decide) ?_
        refine lv_aload_n hx hb dL_law_487 rfl (lv_at hl 2 rfl) ?_
        refine lv_aload_n hx hb dL_law_488 rfl (lv_at hl 3 rfl) ?_
        refine lv_iload_n hx hb dL_law_489 rfl (lv_at hl 0 rfl) ?_
        refine lv_iconst (v := 1) hx hb dL_law_490 (by decide) ?_
        refine lv_iadd hx hb dL_law_491 ?_
        refine va_sld hx hb hX hbl hbA hS (by unfold vp_in; decide) dL_law_492 ?_
        refine ck_iD (wr := wR Y tr q1 S0_X2 ++ (wP Y pp tx S0_X1 ++ (wH h sa 0 ++ (wA Y sa 6 f ++ (wR Y r0 q0 S0_X2 ++ (wA Y sl 2 (fun _ => none) ++ wM Y o_8 qm S0_X4)))))) (ws' := wX o_0 r tr pp h sl ++ (wR Y r q S0_X2 ++ (wR Y tr q1 S0_X2 ++ (wP Y pp tx S0_X1 ++ (wH h sa 0 ++ (wA Y sa 6 f ++ (wR Y r0 q0 S0_X2 ++ (wA Y sl 2 (fun _ => none) ++ wM Y o_8 qm S0_X4)))))))) (va_runV (As := [.int (xs (0 + 1 : Int32).toNatClampNeg)]) (rest := []) ⟨hx, hb, hml, hown, hts⟩ (c_X3_bestCall l D Y H.size r tr pp h sl q S0_X2 o_0 (xs (0 + 1 : Int32).toNatClampNeg)) (cwV 1 hts gL_law_X3_bestCall rfl rfl rfl (by decide +kernel) ⟨Nat.le_of_ble_eq_true rfl, Nat.le_of_ble_eq_true rfl⟩) (pst_V hK hP hD [0, 1, 2, 3, 4, 5, 6, 7, 8, 9, 10, 11] rfl (by decide) (q0 := 0) rfl rfl) rfl rfl hl.1 rfl (lv_room (Nat.le_of_ble_eq_true rfl)) dL_law_493 ⟨Nat.le_of_ble_eq_true rfl, Nat.le_of_ble_eq_true rfl⟩) hP hD hS hA [0, 1, 2, 3, 4, 5, 6, 7, 8, 9, 10, 11] [12, 13, 14, 15, 16, 17, 18, 19, 20, 21, 22, 23, 24, 25, 26, 27, 28, 29, 30, 31, 32, 33, 34, 35, 36, 37, 38, 39, 40, 41, 42, 43, 44, 45, 46, 47, 48] [37, 38, 39, 40, 41, 42, 43, 44, 45, 46, 47, 48, 0, 1, 2, 3, 4, 5, 6, 7, 8, 9, 10, 11, 12, 13, 14, 15, 16, 17, 18, 19, 20, 21, 22, 23, 24, 25, 26, 27, 28, 29, 30, 31, 32, 33, 34, 35, 36] rfl rfl (by decide) (by decide) rfl (by decide) (fun H locs hP hD hS => ?_)
        refine lv_aload_n hx hb dL_law_496 rfl (lv_at hl 1 rfl) ?_
        refine lv_aload_n hx hb dL_law_497 rfl (lv_at hl 3 rfl) ?_
        refine lv_iload_n hx hb dL_law_498 rfl (lv_at hl 0 rfl) ?_
        refine lv_iconst (v := 1) hx hb dL_law_499 (by decide) ?_
        refine lv_iadd hx hb dL_law_500 ?_
        refine va_sld hx hb hX hbl hbA hS (by unfold vp_in; decide) dL_law_501 ?_
        refine ck_iD (wr := wX o_0 r tr pp h sl ++ (wR Y r q S0_X2 ++ (wR Y tr q1 S0_X2 ++ (wP Y pp tx S0_X1 ++ (wH h sa 0 ++ (wA Y sa 6 f ++ (wR Y r0 q0 S0_X2 ++ wA Y sl 2 (fun _ => none)))))))) (ws' := wX o_0 r tr pp h sl ++ (wR Y r q S0_X2 ++ (wR Y tr q1 S0_X2 ++ (wP Y pp tx S0_X1 ++ (wH h sa 0 ++ (wA Y sa 6 f ++ (wR Y r0 q0 S0_X2 ++ (wA Y sl 2 (fun _ => none) ++ wM Y o_8 qm S0_X4)))))))) (va_runV (As := [.int (xs (0 + 1 : Int32).toNatClampNeg)]) (rest := [.int (D_X3_bestCall S0_X2 (xs (0 + 1 : Int32).toNatClampNeg))]) ⟨hx, hb, hml, hown, hts⟩ (c_X4_bestCall l D Y H.size qm S0_X4 o_8 (xs (0 + 1 : Int32).toNatClampNeg)) (cwV 1 hts gL_law_X4_bestCall rfl rfl rfl (by decide +kernel) ⟨Nat.le_of_ble_eq_true rfl, Nat.le_of_ble_eq_true rfl⟩) (pst_V hK hP hD [39, 40, 41, 42, 43, 44, 45, 46, 47, 48] rfl (by decide) (q0 := 0) rfl rfl) rfl rfl hl.1 rfl (lv_room (Nat.le_of_ble_eq_true rfl)) dL_law_502 ⟨Nat.le_of_ble_eq_true rfl, Nat.le_of_ble_eq_true rfl⟩) hP hD hS hA [39, 40, 41, 42, 43, 44, 45, 46, 47, 48] [0, 1, 2, 3, 4, 5, 6, 7, 8, 9, 10, 11, 12, 13, 14, 15, 16, 17, 18, 19, 20, 21, 22, 23, 24, 25, 26, 27, 28, 29, 30, 31, 32, 33, 34, 35, 36, 37, 38] [0, 1, 2, 3, 4, 5, 6, 7, 8, 9, 10, 11, 12, 13, 14, 15, 16, 17, 18, 19, 20, 21, 22, 23, 24, 25, 26, 27, 28, 29, 30, 31, 32, 33, 34, 35, 36, 37, 38, 39, 40, 41, 42, 43, 44, 45, 46, 47, 48] rfl rfl (by decide) (by decide) rfl (by decide) (fun H locs hP hD hS => ?_)
        refine lv_icmp_eq (tgt := 684) hx hb dL_law_505 (by decide) (fun c_41 => ?_) (fun c_41 => ?_)
        · refine lv_iinc (v := 4) (lv' := [(3, .int 4), (2, .ref o_8), (1, .ref o_0), (0, .ref b)]) hx hb dL_law_684 hl (k := 0) rfl rfl (by decide) rfl (fun ls hl => ?_)
          refine lv_goto (tgt := 18) hx hb dL_law_687 (by decide) ?_
          refine lv_iload_n hx hb dL_law_18 rfl (lv_at hl 0 rfl) ?_
          refine lv_aload_n hx hb dL_law_19 rfl (lv_at hl 3 rfl) ?_
          refine va_slen hx hb hX hbl hbA hS dL_law_20 ?_
          refine lv_iconst (v := 4) hx hb dL_law_21 (by decide) ?_
          refine lv_isub hx hb dL_law_22 ?_
          refine lv_icmp_gt (tgt := 690) hx hb dL_law_23 (by decide) (fun c_42 => ?_) (fun c_42 => ?_)
          · refine lv_iconst (v := 1) hx hb dL_law_690 (by decide) ?_
            refine va_forget (fun q hq => hAi _ (hS.2.2 q hq)) ?_
            refine W.widen (k := 600000) (n := 7302250) (Nat.le_of_ble_eq_true rfl) (Nat.le_of_ble_eq_true rfl) ?_
            exact lw_ret hx hb hr hlocks dL_law_691
          · exact absurd c_42 (fun q => q (by decide))
        · exact absurd c_41 (fun q => q (eq_bestCall))
      rcases Decidable.em (((xs (0 : Int32).toNatClampNeg) &&& 31) = 12) with c_43 | c_43
      · refine lv_tableIn (off := 478) (tgt := 510) hx hb dL_law_32 (by rw [c_43]; decide) (by rw [c_43]; decide) (by rw [c_43]; rfl) (by decide) ?_
        refine lv_aload_n hx hb dL_law_510 rfl (lv_at hl 2 rfl) ?_
        refine lv_aload_n hx hb dL_law_511 rfl (lv_at hl 3 rfl) ?_
        refine lv_iload_n hx hb dL_law_512 rfl (lv_at hl 0 rfl) ?_
        refine lv_iconst (v := 1) hx hb dL_law_513 (by decide) ?_
        refine lv_iadd hx hb dL_law_514 ?_
        refine va_sld hx hb hX hbl hbA hS (by unfold vp_in; decide) dL_law_515 ?_
        refine ck_iD (wr := wR Y tr q1 S0_X2 ++ (wP Y pp tx S0_X1 ++ (wH h sa 0 ++ (wA Y sa 6 f ++ (wR Y r0 q0 S0_X2 ++ (wA Y sl 2 (fun _ => none) ++ wM Y o_8 qm S0_X4)))))) (ws' := wX o_0 r tr pp h sl ++ (wR Y r q S0_X2 ++ (wR Y tr q1 S0_X2 ++ (wP Y pp tx S0_X1 ++ (wH h sa 0 ++ (wA Y sa 6 f ++ (wR Y r0 q0 S0_X2 ++ (wA Y sl 2 (fun _ => none) ++ wM Y o_8 qm S0_X4)))))))) (va_runV (As := [.int (xs (0 + 1 : Int32).toNatClampNeg)]) (rest := []) ⟨hx, hb, hml, hown, hts⟩ (c_X3_fewestRounds l D Y H.size r tr pp h sl q S0_X2 o_0 (xs (0 + 1 : Int32).toNatClampNeg)) (cwV 1 hts gL_law_X3_fewestRounds rfl rfl rfl (by decide +kernel) ⟨Nat.le_of_ble_eq_true rfl, Nat.le_of_ble_eq_true rfl⟩) (pst_V hK hP hD [0, 1, 2, 3, 4, 5, 6, 7, 8, 9, 10, 11] rfl (by decide) (q0 := 0) rfl rfl) rfl rfl hl.1 rfl (lv_room (Nat.le_of_ble_eq_true rfl)) dL_law_516 ⟨Nat.le_of_ble_eq_true rfl, Nat.le_of_ble_eq_true rfl⟩) hP hD hS hA [0, 1, 2, 3, 4, 5, 6, 7, 8, 9, 10, 11] [12, 13, 14, 15, 16, 17, 18, 19, 20, 21, 22, 23, 24, 25, 26, 27, 28, 29, 30, 31, 32, 33, 34, 35, 36, 37, 38, 39, 40, 41, 42, 43, 44, 45, 46, 47, 48] [37, 38, 39, 40, 41, 42, 43, 44, 45, 46, 47, 48, 0, 1, 2, 3, 4, 5, 6, 7, 8, 9, 10, 11, 12, 13, 14, 15, 16, 17, 18, 19, 20, 21, 22, 23, 24, 25, 26, 27, 28, 29, 30, 31, 32, 33, 34, 35, 36] rfl rfl (by decide) (by decide) rfl (by decide) (fun H locs hP hD hS => ?_)
        refine lv_aload_n hx hb dL_law_519 rfl (lv_at hl 1 rfl) ?_
        refine lv_aload_n hx hb dL_law_520 rfl (lv_at hl 3 rfl) ?_
        refine lv_iload_n hx hb dL_law_521 rfl (lv_at hl 0 rfl) ?_
        refine lv_iconst (v := 1) hx hb dL_law_522 (by decide) ?_
        refine lv_iadd hx hb dL_law_523 ?_
        refine va_sld hx hb hX hbl hbA hS (by unfold vp_in; decide) dL_law_524 ?_
        refine ck_iD (wr := wX o_0 r tr pp h sl ++ (wR Y r q S0_X2 ++ (wR Y tr q1 S0_X2 ++ (wP Y pp tx S0_X1 ++ (wH h sa 0 ++ (wA Y sa 6 f ++ (wR Y r0 q0 S0_X2 ++ wA Y sl 2 (fun _ => none)))))))) (ws' := wX o_0 r tr pp h sl ++ (wR Y r q S0_X2 ++ (wR Y tr q1 S0_X2 ++ (wP Y pp tx S0_X1 ++ (wH h sa 0 ++ (wA Y sa 6 f ++ (wR Y r0 q0 S0_X2 ++ (wA Y sl 2 (fun _ => none) ++ wM Y o_8 qm S0_X4)))))))) (va_runV (As := [.int (xs (0 + 1 : Int32).toNatClampNeg)]) (rest := [.int (D_X3_fewestRounds S0_X2 (xs (0 + 1 : Int32).toNatClampNeg))]) ⟨hx, hb, hml, hown, hts⟩ (c_X4_fewestRounds l D Y H.size qm S0_X4 o_8 (xs (0 + 1 : Int32).toNatClampNeg)) (cwV 1 hts gL_law_X4_fewestRounds rfl rfl rfl (by decide +kernel) ⟨Nat.le_of_ble_eq_true rfl, Nat.le_of_ble_eq_true rfl⟩) (pst_V hK hP hD [39, 40, 41, 42, 43, 44, 45, 46, 47, 48] rfl (by decide) (q0 := 0) rfl rfl) rfl rfl hl.1 rfl (lv_room (Nat.le_of_ble_eq_true rfl)) dL_law_525 ⟨Nat.le_of_ble_eq_true rfl, Nat.le_of_ble_eq_true rfl⟩) hP hD hS hA [39, 40, 41, 42, 43, 44, 45, 46, 47, 48] [0, 1, 2, 3, 4, 5, 6, 7, 8, 9, 10, 11, 12, 13, 14, 15, 16, 17, 18, 19, 20, 21, 22, 23, 24, 25, 26, 27, 28, 29, 30, 31, 32, 33, 34, 35, 36, 37, 38] [0, 1, 2, 3, 4, 5, 6, 7, 8, 9, 10, 11, 12, 13, 14, 15, 16, 17, 18, 19, 20, 21, 22, 23, 24, 25, 26, 27, 28, 29, 30, 31, 32, 33, 34, 35, 36, 37, 38, 39, 40, 41, 42, 43, 44, 45, 46, 47, 48] rfl rfl (by decide) (by decide) rfl (by decide) (fun H locs hP hD hS => ?_)
        refine lv_icmp_eq (tgt := 684) hx hb dL_law_528 (by decide) (fun c_44 => ?_) (fun c_44 => ?_)
        · refine lv_iinc (v := 4) (lv' := [(3, .int 4), (2, .ref o_8), (1, .ref o_0), (0, .ref b)]) hx hb dL_law_684 hl (k := 0) rfl rfl (by decide) rfl (fun ls hl => ?_)
          refine lv_goto (tgt := 18) hx hb dL_law_687 (by decide) ?_
          refine lv_iload_n hx hb dL_law_18 rfl (lv_at hl 0 rfl) ?_
          refine lv_aload_n hx hb dL_law_19 rfl (lv_at hl 3 rfl) ?_
          refine va_slen hx hb hX hbl hbA hS dL_law_20 ?_
          refine lv_iconst (v := 4) hx hb dL_law_21 (by decide) ?_
          refine lv_isub hx hb dL_law_22 ?_
          refine lv_icmp_gt (tgt := 690) hx hb dL_law_23 (by decide) (fun c_45 => ?_) (fun c_45 => ?_)
          · refine lv_iconst (v := 1) hx hb dL_law_690 (by decide) ?_
            refine va_forget (fun q hq => hAi _ (hS.2.2 q hq)) ?_
            refine W.widen (k := 600000) (n := 7302250) (Nat.le_of_ble_eq_true rfl) (Nat.le_of_ble_eq_true rfl) ?_
            exact lw_ret hx hb hr hlocks dL_law_691
          · exact absurd c_45 (fun q => q (by decide))
        · exact absurd c_44 (fun q => q (eq_fewestRounds))
      rcases Decidable.em (((xs (0 : Int32).toNatClampNeg) &&& 31) = 13) with c_46 | c_46
      · refine lv_tableIn (off := 501) (tgt := 533) hx hb dL_law_32 (by rw [c_46]; decide) (by rw [c_46]; decide) (by rw [c_46]; rfl) (by decide) ?_
        refine lv_aload_n hx hb dL_law_533 rfl (lv_at hl 2 rfl) ?_
        refine ck_iD (wr := wP Y pp tx S0_X1 ++ (wH h sa 0 ++ (wA Y sa 6 f ++ (wR Y r0 q0 S0_X2 ++ (wA Y sl 2 (fun _ => none) ++ wM Y o_8 qm S0_X4))))) (ws' := wX o_0 r tr pp h sl ++ (wR Y r q S0_X2 ++ (wR Y tr q1 ((D_X3_untilAllMet S0_X2 S0_X2).2) ++ (wP Y pp tx S0_X1 ++ (wH h sa 0 ++ (wA Y sa 6 f ++ (wR Y r0 q0 S0_X2 ++ (wA Y sl 2 (fun _ => none) ++ wM Y o_8 qm S0_X4)))))))) (va_runV (As := []) (rest := []) ⟨hx, hb, hml, hown, hts⟩ (c_X3_untilAllMet l D Y H.size r tr pp h sl q q1 S0_X2 S0_X2 o_0) (cwV 0 hts gL_law_X3_untilAllMet rfl rfl rfl (by decide +kernel) ⟨Nat.le_of_ble_eq_true rfl, Nat.le_of_ble_eq_true rfl⟩) (pst_V hK hP hD [0, 1, 2, 3, 4, 5, 6, 7, 8, 9, 10, 11, 12, 13, 14, 15, 16, 17, 18, 19, 20, 21, 22] rfl (by decide) (q0 := 0) rfl rfl) rfl rfl hl.1 rfl (lv_room (Nat.le_of_ble_eq_true rfl)) dL_law_534 ⟨Nat.le_of_ble_eq_true rfl, Nat.le_of_ble_eq_true rfl⟩) hP hD hS hA [0, 1, 2, 3, 4, 5, 6, 7, 8, 9, 10, 11, 12, 13, 14, 15, 16, 17, 18, 19, 20, 21, 22] [23, 24, 25, 26, 27, 28, 29, 30, 31, 32, 33, 34, 35, 36, 37, 38, 39, 40, 41, 42, 43, 44, 45, 46, 47, 48] [26, 27, 28, 29, 30, 31, 32, 33, 34, 35, 36, 37, 38, 39, 40, 41, 42, 43, 44, 45, 46, 47, 48, 0, 1, 2, 3, 4, 5, 6, 7, 8, 9, 10, 11, 12, 13, 14, 15, 16, 17, 18, 19, 20, 21, 22, 23, 24, 25] rfl rfl (by decide) (by decide) rfl (by decide) (fun H locs hP hD hS => ?_)
        obtain ⟨S_26, eS_26⟩ : ∃ z9, (D_X3_untilAllMet S0_X2 S0_X2).2 = z9 := ⟨_, rfl⟩
        rw [eS_26] at hP hD
        refine lv_aload_n hx hb dL_law_537 rfl (lv_at hl 1 rfl) ?_
        refine ck_iD (wr := wX o_0 r tr pp h sl ++ (wR Y r q S0_X2 ++ (wR Y tr q1 S_26 ++ (wP Y pp tx S0_X1 ++ (wH h sa 0 ++ (wA Y sa 6 f ++ (wR Y r0 q0 S0_X2 ++ wA Y sl 2 (fun _ => none)))))))) (ws' := wX o_0 r tr pp h sl ++ (wR Y r q S0_X2 ++ (wR Y tr q1 S_26 ++ (wP Y pp tx S0_X1 ++ (wH h sa 0 ++ (wA Y sa 6 f ++ (wR Y r0 q0 S0_X2 ++ (wA Y sl 2 (fun _ => none) ++ wM Y o_8 qm ((D_X4_untilAllMet S0_X4).2))))))))) (va_runV (As := []) (rest := [.int ((D_X3_untilAllMet S0_X2 S0_X2).1)]) ⟨hx, hb, hml, hown, hts⟩ (c_X4_untilAllMet l D Y H.size qm S0_X4 o_8) (cwV 0 hts gL_law_X4_untilAllMet rfl rfl rfl (by decide +kernel) ⟨Nat.le_of_ble_eq_true rfl, Nat.le_of_ble_eq_true rfl⟩) (pst_V hK hP hD [39, 40, 41, 42, 43, 44, 45, 46, 47, 48] rfl (by decide) (q0 := 0) rfl rfl) rfl rfl hl.1 rfl (lv_room (Nat.le_of_ble_eq_true rfl)) dL_law_538 ⟨Nat.le_of_ble_eq_true rfl, Nat.le_of_ble_eq_true rfl⟩) hP hD hS hA [39, 40, 41, 42, 43, 44, 45, 46, 47, 48] [0, 1, 2, 3, 4, 5, 6, 7, 8, 9, 10, 11, 12, 13, 14, 15, 16, 17, 18, 19, 20, 21, 22, 23, 24, 25, 26, 27, 28, 29, 30, 31, 32, 33, 34, 35, 36, 37, 38] [0, 1, 2, 3, 4, 5, 6, 7, 8, 9, 10, 11, 12, 13, 14, 15, 16, 17, 18, 19, 20, 21, 22, 23, 24, 25, 26, 27, 28, 29, 30, 31, 32, 33, 34, 35, 36, 37, 38, 39, 40, 41, 42, 43, 44, 45, 46, 47, 48] rfl rfl (by decide) (by decide) rfl (by decide) (fun H locs hP hD hS => ?_)
        obtain ⟨S_27, eS_27⟩ : ∃ z9, (D_X4_untilAllMet S0_X4).2 = z9 := ⟨_, rfl⟩
        rw [eS_27] at hP hD
        refine lv_icmp_eq (tgt := 684) hx hb dL_law_541 (by decide) (fun c_47 => ?_) (fun c_47 => ?_)
        · refine lv_iinc (v := 4) (lv' := [(3, .int 4), (2, .ref o_8), (1, .ref o_0), (0, .ref b)]) hx hb dL_law_684 hl (k := 0) rfl rfl (by decide) rfl (fun ls hl => ?_)
          refine lv_goto (tgt := 18) hx hb dL_law_687 (by decide) ?_
          refine lv_iload_n hx hb dL_law_18 rfl (lv_at hl 0 rfl) ?_
          refine lv_aload_n hx hb dL_law_19 rfl (lv_at hl 3 rfl) ?_
          refine va_slen hx hb hX hbl hbA hS dL_law_20 ?_
          refine lv_iconst (v := 4) hx hb dL_law_21 (by decide) ?_
          refine lv_isub hx hb dL_law_22 ?_
          refine lv_icmp_gt (tgt := 690) hx hb dL_law_23 (by decide) (fun c_48 => ?_) (fun c_48 => ?_)
          · refine lv_iconst (v := 1) hx hb dL_law_690 (by decide) ?_
            refine va_forget (fun q hq => hAi _ (hS.2.2 q hq)) ?_
            refine W.widen (k := 600000) (n := 7302250) (Nat.le_of_ble_eq_true rfl) (Nat.le_of_ble_eq_true rfl) ?_
            exact lw_ret hx hb hr hlocks dL_law_691
          · exact absurd c_48 (fun q => q (by decide))
        · exact absurd c_47 (fun q => q (eq_untilAllMet))
      rcases Decidable.em (((xs (0 : Int32).toNatClampNeg) &&& 31) = 14) with c_49 | c_49
      · refine lv_tableIn (off := 514) (tgt := 546) hx hb dL_law_32 (by rw [c_49]; decide) (by rw [c_49]; decide) (by rw [c_49]; rfl) (by decide) ?_
        refine lv_aload_n hx hb dL_law_546 rfl (lv_at hl 2 rfl) ?_
        refine lv_aload_n hx hb dL_law_547 rfl (lv_at hl 3 rfl) ?_
        refine lv_iload_n hx hb dL_law_548 rfl (lv_at hl 0 rfl) ?_
        refine lv_iconst (v := 1) hx hb dL_law_549 (by decide) ?_
        refine lv_iadd hx hb dL_law_550 ?_
        refine va_sld hx hb hX hbl hbA hS (by unfold vp_in; decide) dL_law_551 ?_
        refine lv_i2l (v := (xs (0 + 1 : Int32).toNatClampNeg).toInt64) hx hb dL_law_552 rfl ?_
        refine lv_bipush (v := 32) hx hb dL_law_553 (by decide) ?_
        refine lv_lshl (v := ((xs (0 + 1 : Int32).toNatClampNeg).toInt64) <<< ((32 : Int32).toInt64 &&& 63)) hx hb dL_law_555 rfl ?_
        refine lv_aload_n hx hb dL_law_556 rfl (lv_at hl 3 rfl) ?_
        refine lv_iload_n hx hb dL_law_557 rfl (lv_at hl 0 rfl) ?_
        refine lv_iconst (v := 2) hx hb dL_law_558 (by decide) ?_
        refine lv_iadd hx hb dL_law_559 ?_
        refine va_sld hx hb hX hbl hbA hS (by unfold vp_in; decide) dL_law_560 ?_
        refine lv_i2l (v := (xs (0 + 2 : Int32).toNatClampNeg).toInt64) hx hb dL_law_561 rfl ?_
        refine lv_ldc2 (v := 4294967295) hx hb hown (hts (.constantLong RL 74 (4294967295)) (by decide +kernel)) dL_law_562 ?_
        refine lv_land hx hb dL_law_565 ?_
        refine lv_lor hx hb dL_law_566 ?_
        refine ck_iD (wr := wR Y r q S0_X2 ++ (wR Y tr q1 S0_X2 ++ (wH h sa 0 ++ (wA Y sa 6 f ++ (wR Y r0 q0 S0_X2 ++ (wA Y sl 2 (fun _ => none) ++ wM Y o_8 qm S0_X4)))))) (ws' := wX o_0 r tr pp h sl ++ (wR Y r q S0_X2 ++ (wR Y tr q1 S0_X2 ++ (wP Y pp tx ((D_X3_put S0_X1 ((((xs (0 + 1 : Int32).toNatClampNeg).toInt64) <<< ((32 : Int32).toInt64 &&& 63)) ||| (((xs (0 + 2 : Int32).toNatClampNeg).toInt64) &&& 4294967295))).2) ++ (wH h sa 0 ++ (wA Y sa 6 f ++ (wR Y r0 q0 S0_X2 ++ (wA Y sl 2 (fun _ => none) ++ wM Y o_8 qm S0_X4)))))))) (va_runV (As := [.long ((((xs (0 + 1 : Int32).toNatClampNeg).toInt64) <<< ((32 : Int32).toInt64 &&& 63)) ||| (((xs (0 + 2 : Int32).toNatClampNeg).toInt64) &&& 4294967295))]) (rest := []) ⟨hx, hb, hml, hown, hts⟩ (c_X3_put l D Y H.size r tr pp h sl tx S0_X1 o_0 ((((xs (0 + 1 : Int32).toNatClampNeg).toInt64) <<< ((32 : Int32).toInt64 &&& 63)) ||| (((xs (0 + 2 : Int32).toNatClampNeg).toInt64) &&& 4294967295)) rfl) (cwV 1 hts gL_law_X3_put rfl rfl rfl (by decide +kernel) ⟨Nat.le_of_ble_eq_true rfl, Nat.le_of_ble_eq_true rfl⟩) (pst_V hK hP hD [0, 23, 24] rfl (by decide) (q0 := 0) rfl rfl) rfl rfl hl.1 rfl (lv_room (Nat.le_of_ble_eq_true rfl)) dL_law_567 ⟨Nat.le_of_ble_eq_true rfl, Nat.le_of_ble_eq_true rfl⟩) hP hD hS hA [0, 23, 24] [1, 2, 3, 4, 5, 6, 7, 8, 9, 10, 11, 12, 13, 14, 15, 16, 17, 18, 19, 20, 21, 22, 25, 26, 27, 28, 29, 30, 31, 32, 33, 34, 35, 36, 37, 38, 39, 40, 41, 42, 43, 44, 45, 46, 47, 48] [46, 0, 1, 2, 3, 4, 5, 6, 7, 8, 9, 10, 11, 12, 13, 14, 15, 16, 17, 18, 19, 20, 21, 47, 48, 22, 23, 24, 25, 26, 27, 28, 29, 30, 31, 32, 33, 34, 35, 36, 37, 38, 39, 40, 41, 42, 43, 44, 45] rfl rfl (by decide) (by decide) rfl (by decide) (fun H locs hP hD hS => ?_)
        obtain ⟨S_28, eS_28⟩ : ∃ z9, (D_X3_put S0_X1 ((((xs (0 + 1 : Int32).toNatClampNeg).toInt64) <<< ((32 : Int32).toInt64 &&& 63)) ||| (((xs (0 + 2 : Int32).toNatClampNeg).toInt64) &&& 4294967295))).2 = z9 := ⟨_, rfl⟩
        rw [eS_28] at hP hD
        refine lv_aload_n hx hb dL_law_570 rfl (lv_at hl 1 rfl) ?_
        refine lv_aload_n hx hb dL_law_571 rfl (lv_at hl 3 rfl) ?_
        refine lv_iload_n hx hb dL_law_572 rfl (lv_at hl 0 rfl) ?_
        refine lv_iconst (v := 1) hx hb dL_law_573 (by decide) ?_
        refine lv_iadd hx hb dL_law_574 ?_
        refine va_sld hx hb hX hbl hbA hS (by unfold vp_in; decide) dL_law_575 ?_
        refine lv_i2l (v := (xs (0 + 1 : Int32).toNatClampNeg).toInt64) hx hb dL_law_576 rfl ?_
        refine lv_bipush (v := 32) hx hb dL_law_577 (by decide) ?_
        refine lv_lshl (v := ((xs (0 + 1 : Int32).toNatClampNeg).toInt64) <<< ((32 : Int32).toInt64 &&& 63)) hx hb dL_law_579 rfl ?_
        refine lv_aload_n hx hb dL_law_580 rfl (lv_at hl 3 rfl) ?_
        refine lv_iload_n hx hb dL_law_581 rfl (lv_at hl 0 rfl) ?_
        refine lv_iconst (v := 2) hx hb dL_law_582 (by decide) ?_
        refine lv_iadd hx hb dL_law_583 ?_
        refine va_sld hx hb hX hbl hbA hS (by unfold vp_in; decide) dL_law_584 ?_
        refine lv_i2l (v := (xs (0 + 2 : Int32).toNatClampNeg).toInt64) hx hb dL_law_585 rfl ?_
        refine lv_ldc2 (v := 4294967295) hx hb hown (hts (.constantLong RL 74 (4294967295)) (by decide +kernel)) dL_law_586 ?_
        refine lv_land hx hb dL_law_589 ?_
        refine lv_lor hx hb dL_law_590 ?_
        refine ck_iD (wr := wX o_0 r tr pp h sl ++ (wR Y r q S0_X2 ++ (wR Y tr q1 S0_X2 ++ (wP Y pp tx S_28 ++ (wH h sa 0 ++ (wA Y sa 6 f ++ (wR Y r0 q0 S0_X2 ++ wA Y sl 2 (fun _ => none)))))))) (ws' := wX o_0 r tr pp h sl ++ (wR Y r q S0_X2 ++ (wR Y tr q1 S0_X2 ++ (wP Y pp tx S_28 ++ (wH h sa 0 ++ (wA Y sa 6 f ++ (wR Y r0 q0 S0_X2 ++ (wA Y sl 2 (fun _ => none) ++ wM Y o_8 qm ((D_X4_put S0_X4 ((((xs (0 + 1 : Int32).toNatClampNeg).toInt64) <<< ((32 : Int32).toInt64 &&& 63)) ||| (((xs (0 + 2 : Int32).toNatClampNeg).toInt64) &&& 4294967295))).2))))))))) (va_runV (As := [.long ((((xs (0 + 1 : Int32).toNatClampNeg).toInt64) <<< ((32 : Int32).toInt64 &&& 63)) ||| (((xs (0 + 2 : Int32).toNatClampNeg).toInt64) &&& 4294967295))]) (rest := [.int ((D_X3_put S0_X1 ((((xs (0 + 1 : Int32).toNatClampNeg).toInt64) <<< ((32 : Int32).toInt64 &&& 63)) ||| (((xs (0 + 2 : Int32).toNatClampNeg).toInt64) &&& 4294967295))).1)]) ⟨hx, hb, hml, hown, hts⟩ (c_X4_put l D Y H.size qm S0_X4 o_8 ((((xs (0 + 1 : Int32).toNatClampNeg).toInt64) <<< ((32 : Int32).toInt64 &&& 63)) ||| (((xs (0 + 2 : Int32).toNatClampNeg).toInt64) &&& 4294967295)) rfl) (cwV 1 hts gL_law_X4_put rfl rfl rfl (by decide +kernel) ⟨Nat.le_of_ble_eq_true rfl, Nat.le_of_ble_eq_true rfl⟩) (pst_V hK hP hD [39, 40, 41, 42, 43, 44, 45, 46, 47, 48] rfl (by decide) (q0 := 0) rfl rfl) rfl rfl hl.1 rfl (lv_room (Nat.le_of_ble_eq_true rfl)) dL_law_591 ⟨Nat.le_of_ble_eq_true rfl, Nat.le_of_ble_eq_true rfl⟩) hP hD hS hA [39, 40, 41, 42, 43, 44, 45, 46, 47, 48] [0, 1, 2, 3, 4, 5, 6, 7, 8, 9, 10, 11, 12, 13, 14, 15, 16, 17, 18, 19, 20, 21, 22, 23, 24, 25, 26, 27, 28, 29, 30, 31, 32, 33, 34, 35, 36, 37, 38] [0, 1, 2, 3, 4, 5, 6, 7, 8, 9, 10, 11, 12, 13, 14, 15, 16, 17, 18, 19, 20, 21, 22, 23, 24, 25, 26, 27, 28, 29, 30, 31, 32, 33, 34, 35, 36, 37, 38, 39, 40, 41, 42, 43, 44, 45, 46, 47, 48] rfl rfl (by decide) (by decide) rfl (by decide) (fun H locs hP hD hS => ?_)
        obtain ⟨S_29, eS_29⟩ : ∃ z9, (D_X4_put S0_X4 ((((xs (0 + 1 : Int32).toNatClampNeg).toInt64) <<< ((32 : Int32).toInt64 &&& 63)) ||| (((xs (0 + 2 : Int32).toNatClampNeg).toInt64) &&& 4294967295))).2 = z9 := ⟨_, rfl⟩
        rw [eS_29] at hP hD
        refine lv_icmp_eq (tgt := 684) hx hb dL_law_594 (by decide) (fun c_50 => ?_) (fun c_50 => ?_)
        · refine lv_iinc (v := 4) (lv' := [(3, .int 4), (2, .ref o_8), (1, .ref o_0), (0, .ref b)]) hx hb dL_law_684 hl (k := 0) rfl rfl (by decide) rfl (fun ls hl => ?_)
          refine lv_goto (tgt := 18) hx hb dL_law_687 (by decide) ?_
          refine lv_iload_n hx hb dL_law_18 rfl (lv_at hl 0 rfl) ?_
          refine lv_aload_n hx hb dL_law_19 rfl (lv_at hl 3 rfl) ?_
          refine va_slen hx hb hX hbl hbA hS dL_law_20 ?_
          refine lv_iconst (v := 4) hx hb dL_law_21 (by decide) ?_
          refine lv_isub hx hb dL_law_22 ?_
          refine lv_icmp_gt (tgt := 690) hx hb dL_law_23 (by decide) (fun c_51 => ?_) (fun c_51 => ?_)
          · refine lv_iconst (v := 1) hx hb dL_law_690 (by decide) ?_
            refine va_forget (fun q hq => hAi _ (hS.2.2 q hq)) ?_
            refine W.widen (k := 600000) (n := 7302250) (Nat.le_of_ble_eq_true rfl) (Nat.le_of_ble_eq_true rfl) ?_
            exact lw_ret hx hb hr hlocks dL_law_691
          · exact absurd c_51 (fun q => q (by decide))
        · exact absurd c_50 (fun q => q (eq_put))
      rcases Decidable.em (((xs (0 : Int32).toNatClampNeg) &&& 31) = 15) with c_52 | c_52
      · refine lv_tableIn (off := 567) (tgt := 599) hx hb dL_law_32 (by rw [c_52]; decide) (by rw [c_52]; decide) (by rw [c_52]; rfl) (by decide) ?_
        refine lv_aload_n hx hb dL_law_599 rfl (lv_at hl 2 rfl) ?_
        refine ck_iD (wr := wR Y r q S0_X2 ++ (wR Y tr q1 S0_X2 ++ (wH h sa 0 ++ (wA Y sa 6 f ++ (wR Y r0 q0 S0_X2 ++ (wA Y sl 2 (fun _ => none) ++ wM Y o_8 qm S0_X4)))))) (ws' := wX o_0 r tr pp h sl ++ (wR Y r q S0_X2 ++ (wR Y tr q1 S0_X2 ++ (wP Y pp tx ((D_X3_wipe S0_X1).2) ++ (wH h sa 0 ++ (wA Y sa 6 f ++ (wR Y r0 q0 S0_X2 ++ (wA Y sl 2 (fun _ => none) ++ wM Y o_8 qm S0_X4)))))))) (va_runV (As := []) (rest := []) ⟨hx, hb, hml, hown, hts⟩ (c_X3_wipe l D Y H.size r tr pp h sl tx S0_X1 o_0) (cwV 0 hts gL_law_X3_wipe rfl rfl rfl (by decide +kernel) ⟨Nat.le_of_ble_eq_true rfl, Nat.le_of_ble_eq_true rfl⟩) (pst_V hK hP hD [0, 23, 24] rfl (by decide) (q0 := 0) rfl rfl) rfl rfl hl.1 rfl (lv_room (Nat.le_of_ble_eq_true rfl)) dL_law_600 ⟨Nat.le_of_ble_eq_true rfl, Nat.le_of_ble_eq_true rfl⟩) hP hD hS hA [0, 23, 24] [1, 2, 3, 4, 5, 6, 7, 8, 9, 10, 11, 12, 13, 14, 15, 16, 17, 18, 19, 20, 21, 22, 25, 26, 27, 28, 29, 30, 31, 32, 33, 34, 35, 36, 37, 38, 39, 40, 41, 42, 43, 44, 45, 46, 47, 48] [46, 0, 1, 2, 3, 4, 5, 6, 7, 8, 9, 10, 11, 12, 13, 14, 15, 16, 17, 18, 19, 20, 21, 47, 48, 22, 23, 24, 25, 26, 27, 28, 29, 30, 31, 32, 33, 34, 35, 36, 37, 38, 39, 40, 41, 42, 43, 44, 45] rfl rfl (by decide) (by decide) rfl (by decide) (fun H locs hP hD hS => ?_)
        obtain ⟨S_30, eS_30⟩ : ∃ z9, (D_X3_wipe S0_X1).2 = z9 := ⟨_, rfl⟩
        rw [eS_30] at hP hD
        refine lv_aload_n hx hb dL_law_603 rfl (lv_at hl 1 rfl) ?_
        refine ck_iD (wr := wX o_0 r tr pp h sl ++ (wR Y r q S0_X2 ++ (wR Y tr q1 S0_X2 ++ (wP Y pp tx S_30 ++ (wH h sa 0 ++ (wA Y sa 6 f ++ (wR Y r0 q0 S0_X2 ++ wA Y sl 2 (fun _ => none)))))))) (ws' := wX o_0 r tr pp h sl ++ (wR Y r q S0_X2 ++ (wR Y tr q1 S0_X2 ++ (wP Y pp tx S_30 ++ (wH h sa 0 ++ (wA Y sa 6 f ++ (wR Y r0 q0 S0_X2 ++ (wA Y sl 2 (fun _ => none) ++ wM Y o_8 qm ((D_X4_wipe S0_X4).2))))))))) (va_runV (As := []) (rest := [.int ((D_X3_wipe S0_X1).1)]) ⟨hx, hb, hml, hown, hts⟩ (c_X4_wipe l D Y H.size qm S0_X4 o_8) (cwV 0 hts gL_law_X4_wipe rfl rfl rfl (by decide +kernel) ⟨Nat.le_of_ble_eq_true rfl, Nat.le_of_ble_eq_true rfl⟩) (pst_V hK hP hD [39, 40, 41, 42, 43, 44, 45, 46, 47, 48] rfl (by decide) (q0 := 0) rfl rfl) rfl rfl hl.1 rfl (lv_room (Nat.le_of_ble_eq_true rfl)) dL_law_604 ⟨Nat.le_of_ble_eq_true rfl, Nat.le_of_ble_eq_true rfl⟩) hP hD hS hA [39, 40, 41, 42, 43, 44, 45, 46, 47, 48] [0, 1, 2, 3, 4, 5, 6, 7, 8, 9, 10, 11, 12, 13, 14, 15, 16, 17, 18, 19, 20, 21, 22, 23, 24, 25, 26, 27, 28, 29, 30, 31, 32, 33, 34, 35, 36, 37, 38] [0, 1, 2, 3, 4, 5, 6, 7, 8, 9, 10, 11, 12, 13, 14, 15, 16, 17, 18, 19, 20, 21, 22, 23, 24, 25, 26, 27, 28, 29, 30, 31, 32, 33, 34, 35, 36, 37, 38, 39, 40, 41, 42, 43, 44, 45, 46, 47, 48] rfl rfl (by decide) (by decide) rfl (by decide) (fun H locs hP hD hS => ?_)
        obtain ⟨S_31, eS_31⟩ : ∃ z9, (D_X4_wipe S0_X4).2 = z9 := ⟨_, rfl⟩
        rw [eS_31] at hP hD
        refine lv_icmp_eq (tgt := 684) hx hb dL_law_607 (by decide) (fun c_53 => ?_) (fun c_53 => ?_)
        · refine lv_iinc (v := 4) (lv' := [(3, .int 4), (2, .ref o_8), (1, .ref o_0), (0, .ref b)]) hx hb dL_law_684 hl (k := 0) rfl rfl (by decide) rfl (fun ls hl => ?_)
          refine lv_goto (tgt := 18) hx hb dL_law_687 (by decide) ?_
          refine lv_iload_n hx hb dL_law_18 rfl (lv_at hl 0 rfl) ?_
          refine lv_aload_n hx hb dL_law_19 rfl (lv_at hl 3 rfl) ?_
          refine va_slen hx hb hX hbl hbA hS dL_law_20 ?_
          refine lv_iconst (v := 4) hx hb dL_law_21 (by decide) ?_
          refine lv_isub hx hb dL_law_22 ?_
          refine lv_icmp_gt (tgt := 690) hx hb dL_law_23 (by decide) (fun c_54 => ?_) (fun c_54 => ?_)
          · refine lv_iconst (v := 1) hx hb dL_law_690 (by decide) ?_
            refine va_forget (fun q hq => hAi _ (hS.2.2 q hq)) ?_
            refine W.widen (k := 600000) (n := 7302250) (Nat.le_of_ble_eq_true rfl) (Nat.le_of_ble_eq_true rfl) ?_
            exact lw_ret hx hb hr hlocks dL_law_691
          · exact absurd c_54 (fun q => q (by decide))
        · exact absurd c_53 (fun q => q (eq_wipe))
      rcases Decidable.em (((xs (0 : Int32).toNatClampNeg) &&& 31) = 16) with c_55 | c_55
      · refine lv_tableIn (off := 580) (tgt := 612) hx hb dL_law_32 (by rw [c_55]; decide) (by rw [c_55]; decide) (by rw [c_55]; rfl) (by decide) ?_
        refine lv_aload_n hx hb dL_law_612 rfl (lv_at hl 2 rfl) ?_
        refine ck_iD (wr := wR Y r q S0_X2 ++ (wR Y tr q1 S0_X2 ++ (wH h sa 0 ++ (wA Y sa 6 f ++ (wR Y r0 q0 S0_X2 ++ (wA Y sl 2 (fun _ => none) ++ wM Y o_8 qm S0_X4)))))) (ws' := wX o_0 r tr pp h sl ++ (wR Y r q S0_X2 ++ (wR Y tr q1 S0_X2 ++ (wP Y pp tx S0_X1 ++ (wH h sa 0 ++ (wA Y sa 6 f ++ (wR Y r0 q0 S0_X2 ++ (wA Y sl 2 (fun _ => none) ++ wM Y o_8 qm S0_X4)))))))) (va_runV (As := []) (rest := []) ⟨hx, hb, hml, hown, hts⟩ (c_X3_fault l D Y H.size r tr pp h sl tx S0_X1 o_0 rfl) (cwV 0 hts gL_law_X3_fault rfl rfl rfl (by decide +kernel) ⟨Nat.le_of_ble_eq_true rfl, Nat.le_of_ble_eq_true rfl⟩) (pst_V hK hP hD [0, 23, 24] rfl (by decide) (q0 := 0) rfl rfl) rfl rfl hl.1 rfl (lv_room (Nat.le_of_ble_eq_true rfl)) dL_law_613 ⟨Nat.le_of_ble_eq_true rfl, Nat.le_of_ble_eq_true rfl⟩) hP hD hS hA [0, 23, 24] [1, 2, 3, 4, 5, 6, 7, 8, 9, 10, 11, 12, 13, 14, 15, 16, 17, 18, 19, 20, 21, 22, 25, 26, 27, 28, 29, 30, 31, 32, 33, 34, 35, 36, 37, 38, 39, 40, 41, 42, 43, 44, 45, 46, 47, 48] [46, 0, 1, 2, 3, 4, 5, 6, 7, 8, 9, 10, 11, 12, 13, 14, 15, 16, 17, 18, 19, 20, 21, 47, 48, 22, 23, 24, 25, 26, 27, 28, 29, 30, 31, 32, 33, 34, 35, 36, 37, 38, 39, 40, 41, 42, 43, 44, 45] rfl rfl (by decide) (by decide) rfl (by decide) (fun H locs hP hD hS => ?_)
        refine lv_aload_n hx hb dL_law_616 rfl (lv_at hl 1 rfl) ?_
        refine ck_iD (wr := wX o_0 r tr pp h sl ++ (wR Y r q S0_X2 ++ (wR Y tr q1 S0_X2 ++ (wP Y pp tx S0_X1 ++ (wH h sa 0 ++ (wA Y sa 6 f ++ (wR Y r0 q0 S0_X2 ++ wA Y sl 2 (fun _ => none)))))))) (ws' := wX o_0 r tr pp h sl ++ (wR Y r q S0_X2 ++ (wR Y tr q1 S0_X2 ++ (wP Y pp tx S0_X1 ++ (wH h sa 0 ++ (wA Y sa 6 f ++ (wR Y r0 q0 S0_X2 ++ (wA Y sl 2 (fun _ => none) ++ wM Y o_8 qm ((D_X4_fault S0_X4).2))))))))) (va_runV (As := []) (rest := [.int (D_X3_fault S0_X1)]) ⟨hx, hb, hml, hown, hts⟩ (c_X4_fault l D Y H.size qm S0_X4 o_8 rfl) (cwV 0 hts gL_law_X4_fault rfl rfl rfl (by decide +kernel) ⟨Nat.le_of_ble_eq_true rfl, Nat.le_of_ble_eq_true rfl⟩) (pst_V hK hP hD [39, 40, 41, 42, 43, 44, 45, 46, 47, 48] rfl (by decide) (q0 := 0) rfl rfl) rfl rfl hl.1 rfl (lv_room (Nat.le_of_ble_eq_true rfl)) dL_law_617 ⟨Nat.le_of_ble_eq_true rfl, Nat.le_of_ble_eq_true rfl⟩) hP hD hS hA [39, 40, 41, 42, 43, 44, 45, 46, 47, 48] [0, 1, 2, 3, 4, 5, 6, 7, 8, 9, 10, 11, 12, 13, 14, 15, 16, 17, 18, 19, 20, 21, 22, 23, 24, 25, 26, 27, 28, 29, 30, 31, 32, 33, 34, 35, 36, 37, 38] [0, 1, 2, 3, 4, 5, 6, 7, 8, 9, 10, 11, 12, 13, 14, 15, 16, 17, 18, 19, 20, 21, 22, 23, 24, 25, 26, 27, 28, 29, 30, 31, 32, 33, 34, 35, 36, 37, 38, 39, 40, 41, 42, 43, 44, 45, 46, 47, 48] rfl rfl (by decide) (by decide) rfl (by decide) (fun H locs hP hD hS => ?_)
        obtain ⟨S_32, eS_32⟩ : ∃ z9, (D_X4_fault S0_X4).2 = z9 := ⟨_, rfl⟩
        rw [eS_32] at hP hD
        refine lv_icmp_eq (tgt := 684) hx hb dL_law_620 (by decide) (fun c_56 => ?_) (fun c_56 => ?_)
        · refine lv_iinc (v := 4) (lv' := [(3, .int 4), (2, .ref o_8), (1, .ref o_0), (0, .ref b)]) hx hb dL_law_684 hl (k := 0) rfl rfl (by decide) rfl (fun ls hl => ?_)
          refine lv_goto (tgt := 18) hx hb dL_law_687 (by decide) ?_
          refine lv_iload_n hx hb dL_law_18 rfl (lv_at hl 0 rfl) ?_
          refine lv_aload_n hx hb dL_law_19 rfl (lv_at hl 3 rfl) ?_
          refine va_slen hx hb hX hbl hbA hS dL_law_20 ?_
          refine lv_iconst (v := 4) hx hb dL_law_21 (by decide) ?_
          refine lv_isub hx hb dL_law_22 ?_
          refine lv_icmp_gt (tgt := 690) hx hb dL_law_23 (by decide) (fun c_57 => ?_) (fun c_57 => ?_)
          · refine lv_iconst (v := 1) hx hb dL_law_690 (by decide) ?_
            refine va_forget (fun q hq => hAi _ (hS.2.2 q hq)) ?_
            refine W.widen (k := 600000) (n := 7302250) (Nat.le_of_ble_eq_true rfl) (Nat.le_of_ble_eq_true rfl) ?_
            exact lw_ret hx hb hr hlocks dL_law_691
          · exact absurd c_57 (fun q => q (by decide))
        · exact absurd c_56 (fun q => q (eq_fault))
      rcases Decidable.em (((xs (0 : Int32).toNatClampNeg) &&& 31) = 17) with c_58 | c_58
      · refine lv_tableIn (off := 593) (tgt := 625) hx hb dL_law_32 (by rw [c_58]; decide) (by rw [c_58]; decide) (by rw [c_58]; rfl) (by decide) ?_
        refine lv_aload_n hx hb dL_law_625 rfl (lv_at hl 2 rfl) ?_
        refine ck_iD (wr := wR Y r q S0_X2 ++ (wR Y tr q1 S0_X2 ++ (wP Y pp tx S0_X1 ++ (wA Y sa 6 f ++ (wR Y r0 q0 S0_X2 ++ (wA Y sl 2 (fun _ => none) ++ wM Y o_8 qm S0_X4)))))) (ws' := wX o_0 r tr pp h sl ++ (wR Y r q S0_X2 ++ (wR Y tr q1 S0_X2 ++ (wP Y pp tx S0_X1 ++ (wH h sa 0 ++ (wA Y sa 6 f ++ (wR Y r0 q0 S0_X2 ++ (wA Y sl 2 (fun _ => none) ++ wM Y o_8 qm S0_X4)))))))) (va_runV (As := []) (rest := []) ⟨hx, hb, hml, hown, hts⟩ (c_X3_undo l D Y H.size r tr pp h sl sa 0 o_0 rfl) (cwV 0 hts gL_law_X3_undo rfl rfl rfl (by decide +kernel) ⟨Nat.le_of_ble_eq_true rfl, Nat.le_of_ble_eq_true rfl⟩) (pst_V hK hP hD [0, 25] rfl (by decide) (q0 := 0) rfl rfl) rfl rfl hl.1 rfl (lv_room (Nat.le_of_ble_eq_true rfl)) dL_law_626 ⟨Nat.le_of_ble_eq_true rfl, Nat.le_of_ble_eq_true rfl⟩) hP hD hS hA [0, 25] [1, 2, 3, 4, 5, 6, 7, 8, 9, 10, 11, 12, 13, 14, 15, 16, 17, 18, 19, 20, 21, 22, 23, 24, 26, 27, 28, 29, 30, 31, 32, 33, 34, 35, 36, 37, 38, 39, 40, 41, 42, 43, 44, 45, 46, 47, 48] [47, 0, 1, 2, 3, 4, 5, 6, 7, 8, 9, 10, 11, 12, 13, 14, 15, 16, 17, 18, 19, 20, 21, 22, 23, 48, 24, 25, 26, 27, 28, 29, 30, 31, 32, 33, 34, 35, 36, 37, 38, 39, 40, 41, 42, 43, 44, 45, 46] rfl rfl (by decide) (by decide) rfl (by decide) (fun H locs hP hD hS => ?_)
        refine lv_aload_n hx hb dL_law_629 rfl (lv_at hl 1 rfl) ?_
        refine ck_iD (wr := wX o_0 r tr pp h sl ++ (wR Y r q S0_X2 ++ (wR Y tr q1 S0_X2 ++ (wP Y pp tx S0_X1 ++ (wH h sa 0 ++ (wA Y sa 6 f ++ (wR Y r0 q0 S0_X2 ++ wA Y sl 2 (fun _ => none)))))))) (ws' := wX o_0 r tr pp h sl ++ (wR Y r q S0_X2 ++ (wR Y tr q1 S0_X2 ++ (wP Y pp tx S0_X1 ++ (wH h sa 0 ++ (wA Y sa 6 f ++ (wR Y r0 q0 S0_X2 ++ (wA Y sl 2 (fun _ => none) ++ wM Y o_8 qm S0_X4)))))))) (va_runV (As := []) (rest := [.int (D_X3_undo 0)]) ⟨hx, hb, hml, hown, hts⟩ (c_X4_undo l D Y H.size qm S0_X4 o_8 rfl) (cwV 0 hts gL_law_X4_undo rfl rfl rfl (by decide +kernel) ⟨Nat.le_of_ble_eq_true rfl, Nat.le_of_ble_eq_true rfl⟩) (pst_V hK hP hD [39, 40, 41, 42, 43, 44, 45, 46, 47, 48] rfl (by decide) (q0 := 0) rfl rfl) rfl rfl hl.1 rfl (lv_room (Nat.le_of_ble_eq_true rfl)) dL_law_630 ⟨Nat.le_of_ble_eq_true rfl, Nat.le_of_ble_eq_true rfl⟩) hP hD hS hA [39, 40, 41, 42, 43, 44, 45, 46, 47, 48] [0, 1, 2, 3, 4, 5, 6, 7, 8, 9, 10, 11, 12, 13, 14, 15, 16, 17, 18, 19, 20, 21, 22, 23, 24, 25, 26, 27, 28, 29, 30, 31, 32, 33, 34, 35, 36, 37, 38] [0, 1, 2, 3, 4, 5, 6, 7, 8, 9, 10, 11, 12, 13, 14, 15, 16, 17, 18, 19, 20, 21, 22, 23, 24, 25, 26, 27, 28, 29, 30, 31, 32, 33, 34, 35, 36, 37, 38, 39, 40, 41, 42, 43, 44, 45, 46, 47, 48] rfl rfl (by decide) (by decide) rfl (by decide) (fun H locs hP hD hS => ?_)
        refine lv_icmp_eq (tgt := 684) hx hb dL_law_633 (by decide) (fun c_59 => ?_) (fun c_59 => ?_)
        · refine lv_iinc (v := 4) (lv' := [(3, .int 4), (2, .ref o_8), (1, .ref o_0), (0, .ref b)]) hx hb dL_law_684 hl (k := 0) rfl rfl (by decide) rfl (fun ls hl => ?_)
          refine lv_goto (tgt := 18) hx hb dL_law_687 (by decide) ?_
          refine lv_iload_n hx hb dL_law_18 rfl (lv_at hl 0 rfl) ?_
          refine lv_aload_n hx hb dL_law_19 rfl (lv_at hl 3 rfl) ?_
          refine va_slen hx hb hX hbl hbA hS dL_law_20 ?_
          refine lv_iconst (v := 4) hx hb dL_law_21 (by decide) ?_
          refine lv_isub hx hb dL_law_22 ?_
          refine lv_icmp_gt (tgt := 690) hx hb dL_law_23 (by decide) (fun c_60 => ?_) (fun c_60 => ?_)
          · refine lv_iconst (v := 1) hx hb dL_law_690 (by decide) ?_
            refine va_forget (fun q hq => hAi _ (hS.2.2 q hq)) ?_
            refine W.widen (k := 600000) (n := 7302250) (Nat.le_of_ble_eq_true rfl) (Nat.le_of_ble_eq_true rfl) ?_
            exact lw_ret hx hb hr hlocks dL_law_691
          · exact absurd c_60 (fun q => q (by decide))
        · exact absurd c_59 (fun q => q (eq_undo))
      rcases Decidable.em (((xs (0 : Int32).toNatClampNeg) &&& 31) = 18) with c_61 | c_61
      · refine lv_tableIn (off := 606) (tgt := 638) hx hb dL_law_32 (by rw [c_61]; decide) (by rw [c_61]; decide) (by rw [c_61]; rfl) (by decide) ?_
        refine lv_aload_n hx hb dL_law_638 rfl (lv_at hl 2 rfl) ?_
        refine lv_aload_n hx hb dL_law_639 rfl (lv_at hl 3 rfl) ?_
        refine lv_iload_n hx hb dL_law_640 rfl (lv_at hl 0 rfl) ?_
        refine lv_iconst (v := 1) hx hb dL_law_641 (by decide) ?_
        refine lv_iadd hx hb dL_law_642 ?_
        refine va_sld hx hb hX hbl hbA hS (by unfold vp_in; decide) dL_law_643 ?_
        refine ck_i (wr := wR Y tr q1 S0_X2 ++ (wP Y pp tx S0_X1 ++ (wH h sa 0 ++ (wA Y sa 6 f ++ (wR Y r0 q0 S0_X2 ++ wM Y o_8 qm S0_X4))))) (va_runV (As := [.int (xs (0 + 1 : Int32).toNatClampNeg)]) (rest := []) ⟨hx, hb, hml, hown, hts⟩ (c_X3_save l D Y H.size r tr pp h sl q S0_X2 (fun _ => none) o_0 (xs (0 + 1 : Int32).toNatClampNeg) (fun _ => rfl)) (cwV 1 hts gL_law_X3_save rfl rfl rfl (by decide +kernel) ⟨Nat.le_of_ble_eq_true rfl, Nat.le_of_ble_eq_true rfl⟩) (pst_V hK hP hD [0, 1, 2, 3, 4, 5, 6, 7, 8, 9, 10, 11, 38] rfl (by decide) (q0 := 0) rfl rfl) rfl rfl hl.1 rfl (lv_room (Nat.le_of_ble_eq_true rfl)) dL_law_644 ⟨Nat.le_of_ble_eq_true rfl, Nat.le_of_ble_eq_true rfl⟩) hP hD hS hA [0, 1, 2, 3, 4, 5, 6, 7, 8, 9, 10, 11, 38] [12, 13, 14, 15, 16, 17, 18, 19, 20, 21, 22, 23, 24, 25, 26, 27, 28, 29, 30, 31, 32, 33, 34, 35, 36, 37, 39, 40, 41, 42, 43, 44, 45, 46, 47, 48] rfl rfl (by decide) (by decide) (fun r9 w9 H locs hq9 hP hD hS => ?_)
        obtain rfl : r9 = D_X3_save S0_X2 (fun _ => none) (xs (0 + 1 : Int32).toNatClampNeg) := hq9
        have hP := va_left hP
        have hD := vd_left hD
        refine W.widen (k := 115) (n := 6158) (Nat.le_of_ble_eq_true rfl) (Nat.le_of_ble_eq_true rfl) ?_
        refine lv_aload_n hx hb dL_law_647 rfl (lv_at hl 1 rfl) ?_
        refine lv_aload_n hx hb dL_law_648 rfl (lv_at hl 3 rfl) ?_
        refine lv_iload_n hx hb dL_law_649 rfl (lv_at hl 0 rfl) ?_
        refine lv_iconst (v := 1) hx hb dL_law_650 (by decide) ?_
        refine lv_iadd hx hb dL_law_651 ?_
        refine va_sld hx hb hX hbl hbA hS (by unfold vp_in; decide) dL_law_652 ?_
        refine ck_iD (wr := wR Y tr q1 S0_X2 ++ (wP Y pp tx S0_X1 ++ (wH h sa 0 ++ (wA Y sa 6 f ++ wR Y r0 q0 S0_X2)))) (ws' := wR Y tr q1 S0_X2 ++ (wP Y pp tx S0_X1 ++ (wH h sa 0 ++ (wA Y sa 6 f ++ (wR Y r0 q0 S0_X2 ++ wM Y o_8 qm ((D_X4_save S0_X4 (xs (0 + 1 : Int32).toNatClampNeg)).2)))))) (va_runV (As := [.int (xs (0 + 1 : Int32).toNatClampNeg)]) (rest := [.int (D_X3_save S0_X2 (fun _ => none) (xs (0 + 1 : Int32).toNatClampNeg))]) ⟨hx, hb, hml, hown, hts⟩ (c_X4_save l D Y H.size qm S0_X4 o_8 (xs (0 + 1 : Int32).toNatClampNeg)) (cwV 1 hts gL_law_X4_save rfl rfl rfl (by decide +kernel) ⟨Nat.le_of_ble_eq_true rfl, Nat.le_of_ble_eq_true rfl⟩) (pst_V hK hP hD [26, 27, 28, 29, 30, 31, 32, 33, 34, 35] rfl (by decide) (q0 := 0) rfl rfl) rfl rfl hl.1 rfl (lv_room (Nat.le_of_ble_eq_true rfl)) dL_law_653 ⟨Nat.le_of_ble_eq_true rfl, Nat.le_of_ble_eq_true rfl⟩) hP hD hS hA [26, 27, 28, 29, 30, 31, 32, 33, 34, 35] [0, 1, 2, 3, 4, 5, 6, 7, 8, 9, 10, 11, 12, 13, 14, 15, 16, 17, 18, 19, 20, 21, 22, 23, 24, 25] [0, 1, 2, 3, 4, 5, 6, 7, 8, 9, 10, 11, 12, 13, 14, 15, 16, 17, 18, 19, 20, 21, 22, 23, 24, 25, 26, 27, 28, 29, 30, 31, 32, 33, 34, 35] rfl rfl (by decide) (by decide) rfl (by decide) (fun H locs hP hD hS => ?_)
        obtain ⟨S_33, eS_33⟩ : ∃ z9, (D_X4_save S0_X4 (xs (0 + 1 : Int32).toNatClampNeg)).2 = z9 := ⟨_, rfl⟩
        rw [eS_33] at hP hD
        refine lv_icmp_eq (tgt := 684) hx hb dL_law_656 (by decide) (fun c_62 => ?_) (fun c_62 => ?_)
        · refine lv_iinc (v := 4) (lv' := [(3, .int 4), (2, .ref o_8), (1, .ref o_0), (0, .ref b)]) hx hb dL_law_684 hl (k := 0) rfl rfl (by decide) rfl (fun ls hl => ?_)
          refine lv_goto (tgt := 18) hx hb dL_law_687 (by decide) ?_
          refine lv_iload_n hx hb dL_law_18 rfl (lv_at hl 0 rfl) ?_
          refine lv_aload_n hx hb dL_law_19 rfl (lv_at hl 3 rfl) ?_
          refine va_slen hx hb hX hbl hbA hS dL_law_20 ?_
          refine lv_iconst (v := 4) hx hb dL_law_21 (by decide) ?_
          refine lv_isub hx hb dL_law_22 ?_
          refine lv_icmp_gt (tgt := 690) hx hb dL_law_23 (by decide) (fun c_63 => ?_) (fun c_63 => ?_)
          · refine lv_iconst (v := 1) hx hb dL_law_690 (by decide) ?_
            refine va_forget (fun q hq => hAi _ (hS.2.2 q hq)) ?_
            refine W.widen (k := 600000) (n := 7302250) (Nat.le_of_ble_eq_true rfl) (Nat.le_of_ble_eq_true rfl) ?_
            exact lw_ret hx hb hr hlocks dL_law_691
          · exact absurd c_63 (fun q => q (by decide))
        · exact absurd c_62 (fun q => q (eq_save))
      rcases Decidable.em (((xs (0 : Int32).toNatClampNeg) &&& 31) = 19) with c_64 | c_64
      · refine lv_tableIn (off := 629) (tgt := 661) hx hb dL_law_32 (by rw [c_64]; decide) (by rw [c_64]; decide) (by rw [c_64]; rfl) (by decide) ?_
        refine lv_aload_n hx hb dL_law_661 rfl (lv_at hl 2 rfl) ?_
        refine lv_aload_n hx hb dL_law_662 rfl (lv_at hl 3 rfl) ?_
        refine lv_iload_n hx hb dL_law_663 rfl (lv_at hl 0 rfl) ?_
        refine lv_iconst (v := 1) hx hb dL_law_664 (by decide) ?_
        refine lv_iadd hx hb dL_law_665 ?_
        refine va_sld hx hb hX hbl hbA hS (by unfold vp_in; decide) dL_law_666 ?_
        refine ck_iD (wr := wR Y r q S0_X2 ++ (wR Y tr q1 S0_X2 ++ (wP Y pp tx S0_X1 ++ (wH h sa 0 ++ (wA Y sa 6 f ++ (wR Y r0 q0 S0_X2 ++ wM Y o_8 qm S0_X4)))))) (ws' := wX o_0 r tr pp h sl ++ (wR Y r q S0_X2 ++ (wR Y tr q1 S0_X2 ++ (wP Y pp tx S0_X1 ++ (wH h sa 0 ++ (wA Y sa 6 f ++ (wR Y r0 q0 S0_X2 ++ (wA Y sl 2 (fun _ => none) ++ wM Y o_8 qm S0_X4)))))))) (va_runV (As := [.int (xs (0 + 1 : Int32).toNatClampNeg)]) (rest := []) ⟨hx, hb, hml, hown, hts⟩ (c_X3_restore l D Y H.size r tr pp h sl (fun _ => none) o_0 (xs (0 + 1 : Int32).toNatClampNeg) (fun _ => rfl)) (cwV 1 hts gL_law_X3_restore rfl rfl rfl (by decide +kernel) ⟨Nat.le_of_ble_eq_true rfl, Nat.le_of_ble_eq_true rfl⟩) (pst_V hK hP hD [0, 38] rfl (by decide) (q0 := 0) rfl rfl) rfl rfl hl.1 rfl (lv_room (Nat.le_of_ble_eq_true rfl)) dL_law_667 ⟨Nat.le_of_ble_eq_true rfl, Nat.le_of_ble_eq_true rfl⟩) hP hD hS hA [0, 38] [1, 2, 3, 4, 5, 6, 7, 8, 9, 10, 11, 12, 13, 14, 15, 16, 17, 18, 19, 20, 21, 22, 23, 24, 25, 26, 27, 28, 29, 30, 31, 32, 33, 34, 35, 36, 37, 39, 40, 41, 42, 43, 44, 45, 46, 47, 48] [47, 0, 1, 2, 3, 4, 5, 6, 7, 8, 9, 10, 11, 12, 13, 14, 15, 16, 17, 18, 19, 20, 21, 22, 23, 24, 25, 26, 27, 28, 29, 30, 31, 32, 33, 34, 35, 36, 48, 37, 38, 39, 40, 41, 42, 43, 44, 45, 46] rfl rfl (by decide) (by decide) rfl (by decide) (fun H locs hP hD hS => ?_)
        refine lv_aload_n hx hb dL_law_670 rfl (lv_at hl 1 rfl) ?_
        refine lv_aload_n hx hb dL_law_671 rfl (lv_at hl 3 rfl) ?_
        refine lv_iload_n hx hb dL_law_672 rfl (lv_at hl 0 rfl) ?_
        refine lv_iconst (v := 1) hx hb dL_law_673 (by decide) ?_
        refine lv_iadd hx hb dL_law_674 ?_
        refine va_sld hx hb hX hbl hbA hS (by unfold vp_in; decide) dL_law_675 ?_
        refine ck_iD (wr := wX o_0 r tr pp h sl ++ (wR Y r q S0_X2 ++ (wR Y tr q1 S0_X2 ++ (wP Y pp tx S0_X1 ++ (wH h sa 0 ++ (wA Y sa 6 f ++ (wR Y r0 q0 S0_X2 ++ wA Y sl 2 (fun _ => none)))))))) (ws' := wX o_0 r tr pp h sl ++ (wR Y r q S0_X2 ++ (wR Y tr q1 S0_X2 ++ (wP Y pp tx S0_X1 ++ (wH h sa 0 ++ (wA Y sa 6 f ++ (wR Y r0 q0 S0_X2 ++ (wA Y sl 2 (fun _ => none) ++ wM Y o_8 qm S0_X4)))))))) (va_runV (As := [.int (xs (0 + 1 : Int32).toNatClampNeg)]) (rest := [.int (D_X3_restore (fun _ => none) (xs (0 + 1 : Int32).toNatClampNeg))]) ⟨hx, hb, hml, hown, hts⟩ (c_X4_restore l D Y H.size qm S0_X4 o_8 (xs (0 + 1 : Int32).toNatClampNeg) (fun _ => rfl)) (cwV 1 hts gL_law_X4_restore rfl rfl rfl (by decide +kernel) ⟨Nat.le_of_ble_eq_true rfl, Nat.le_of_ble_eq_true rfl⟩) (pst_V hK hP hD [39, 40, 41, 42, 43, 44, 45, 46, 47, 48] rfl (by decide) (q0 := 0) rfl rfl) rfl rfl hl.1 rfl (lv_room (Nat.le_of_ble_eq_true rfl)) dL_law_676 ⟨Nat.le_of_ble_eq_true rfl, Nat.le_of_ble_eq_true rfl⟩) hP hD hS hA [39, 40, 41, 42, 43, 44, 45, 46, 47, 48] [0, 1, 2, 3, 4, 5, 6, 7, 8, 9, 10, 11, 12, 13, 14, 15, 16, 17, 18, 19, 20, 21, 22, 23, 24, 25, 26, 27, 28, 29, 30, 31, 32, 33, 34, 35, 36, 37, 38] [0, 1, 2, 3, 4, 5, 6, 7, 8, 9, 10, 11, 12, 13, 14, 15, 16, 17, 18, 19, 20, 21, 22, 23, 24, 25, 26, 27, 28, 29, 30, 31, 32, 33, 34, 35, 36, 37, 38, 39, 40, 41, 42, 43, 44, 45, 46, 47, 48] rfl rfl (by decide) (by decide) rfl (by decide) (fun H locs hP hD hS => ?_)
        refine lv_icmp_eq (tgt := 684) hx hb dL_law_679 (by decide) (fun c_65 => ?_) (fun c_65 => ?_)
        · refine lv_iinc (v := 4) (lv' := [(3, .int 4), (2, .ref o_8), (1, .ref o_0), (0, .ref b)]) hx hb dL_law_684 hl (k := 0) rfl rfl (by decide) rfl (fun ls hl => ?_)
          refine lv_goto (tgt := 18) hx hb dL_law_687 (by decide) ?_
          refine lv_iload_n hx hb dL_law_18 rfl (lv_at hl 0 rfl) ?_
          refine lv_aload_n hx hb dL_law_19 rfl (lv_at hl 3 rfl) ?_
          refine va_slen hx hb hX hbl hbA hS dL_law_20 ?_
          refine lv_iconst (v := 4) hx hb dL_law_21 (by decide) ?_
          refine lv_isub hx hb dL_law_22 ?_
          refine lv_icmp_gt (tgt := 690) hx hb dL_law_23 (by decide) (fun c_66 => ?_) (fun c_66 => ?_)
          · refine lv_iconst (v := 1) hx hb dL_law_690 (by decide) ?_
            refine va_forget (fun q hq => hAi _ (hS.2.2 q hq)) ?_
            refine W.widen (k := 600000) (n := 7302250) (Nat.le_of_ble_eq_true rfl) (Nat.le_of_ble_eq_true rfl) ?_
            exact lw_ret hx hb hr hlocks dL_law_691
          · exact absurd c_66 (fun q => q (by decide))
        · exact absurd c_65 (fun q => q (eq_restore))
      refine lv_tableOut (tgt := 684) hx hb dL_law_32 (by have z0 := lv_neT c_2 (show (0 : Int32).toInt = 0 from rfl); have z1 := lv_neT c_5 (show (1 : Int32).toInt = 1 from rfl); have z2 := lv_neT c_8 (show (2 : Int32).toInt = 2 from rfl); have z3 := lv_neT c_16 (show (3 : Int32).toInt = 3 from rfl); have z4 := lv_neT c_19 (show (4 : Int32).toInt = 4 from rfl); have z5 := lv_neT c_22 (show (5 : Int32).toInt = 5 from rfl); have z6 := lv_neT c_25 (show (6 : Int32).toInt = 6 from rfl); have z7 := lv_neT c_28 (show (7 : Int32).toInt = 7 from rfl); have z8 := lv_neT c_31 (show (8 : Int32).toInt = 8 from rfl); have z9 := lv_neT c_34 (show (9 : Int32).toInt = 9 from rfl); have z10 := lv_neT c_37 (show (10 : Int32).toInt = 10 from rfl); have z11 := lv_neT c_40 (show (11 : Int32).toInt = 11 from rfl); have z12 := lv_neT c_43 (show (12 : Int32).toInt = 12 from rfl); have z13 := lv_neT c_46 (show (13 : Int32).toInt = 13 from rfl); have z14 := lv_neT c_49 (show (14 : Int32).toInt = 14 from rfl); have z15 := lv_neT c_52 (show (15 : Int32).toInt = 15 from rfl); have z16 := lv_neT c_55 (show (16 : Int32).toInt = 16 from rfl); have z17 := lv_neT c_58 (show (17 : Int32).toInt = 17 from rfl); have z18 := lv_neT c_61 (show (18 : Int32).toInt = 18 from rfl); have z19 := lv_neT c_64 (show (19 : Int32).toInt = 19 from rfl); omega) (by decide) ?_
      refine lv_iinc (v := 4) (lv' := [(3, .int 4), (2, .ref o_8), (1, .ref o_0), (0, .ref b)]) hx hb dL_law_684 hl (k := 0) rfl rfl (by decide) rfl (fun ls hl => ?_)
      refine lv_goto (tgt := 18) hx hb dL_law_687 (by decide) ?_
      refine lv_iload_n hx hb dL_law_18 rfl (lv_at hl 0 rfl) ?_
      refine lv_aload_n hx hb dL_law_19 rfl (lv_at hl 3 rfl) ?_
      refine va_slen hx hb hX hbl hbA hS dL_law_20 ?_
      refine lv_iconst (v := 4) hx hb dL_law_21 (by decide) ?_
      refine lv_isub hx hb dL_law_22 ?_
      refine lv_icmp_gt (tgt := 690) hx hb dL_law_23 (by decide) (fun c_67 => ?_) (fun c_67 => ?_)
      · refine lv_iconst (v := 1) hx hb dL_law_690 (by decide) ?_
        refine va_forget (fun q hq => hAi _ (hS.2.2 q hq)) ?_
        refine W.widen (k := 600000) (n := 7302250) (Nat.le_of_ble_eq_true rfl) (Nat.le_of_ble_eq_true rfl) ?_
        exact lw_ret hx hb hr hlocks dL_law_691
      · exact absurd c_67 (fun q => q (by decide))
  · refine lv_iload_n hx hb dL_law_18 rfl (lv_at hl 0 rfl) ?_
    refine lv_aload_n hx hb dL_law_19 rfl (lv_at hl 3 rfl) ?_
    refine va_slen hx hb hX hbl hbA hS dL_law_20 ?_
    refine lv_iconst (v := 4) hx hb dL_law_21 (by decide) ?_
    refine lv_isub hx hb dL_law_22 ?_
    refine lv_icmp_gt (tgt := 690) hx hb dL_law_23 (by decide) (fun c_68 => ?_) (fun c_68 => ?_)
    · refine lv_iconst (v := 1) hx hb dL_law_690 (by decide) ?_
      refine va_forget (fun q hq => hAi _ (hS.2.2 q hq)) ?_
      refine W.widen (k := 600000) (n := 7302250) (Nat.le_of_ble_eq_true rfl) (Nat.le_of_ble_eq_true rfl) ?_
      exact lw_ret hx hb hr hlocks dL_law_691
    · exact absurd c_68 (fun q => q (by decide))
  · refine lv_iload_n hx hb dL_law_18 rfl (lv_at hl 0 rfl) ?_
    refine lv_aload_n hx hb dL_law_19 rfl (lv_at hl 3 rfl) ?_
    refine va_slen hx hb hX hbl hbA hS dL_law_20 ?_
    refine lv_iconst (v := 4) hx hb dL_law_21 (by decide) ?_
    refine lv_isub hx hb dL_law_22 ?_
    refine lv_icmp_gt (tgt := 690) hx hb dL_law_23 (by decide) (fun c_69 => ?_) (fun c_69 => ?_)
    · refine lv_iconst (v := 1) hx hb dL_law_690 (by decide) ?_
      refine va_forget (fun q hq => hAi _ (hS.2.2 q hq)) ?_
      refine W.widen (k := 600000) (n := 7302250) (Nat.le_of_ble_eq_true rfl) (Nat.le_of_ble_eq_true rfl) ?_
      exact lw_ret hx hb hr hlocks dL_law_691
    · exact absurd c_69 (fun q => q (by decide))
  · refine lv_iload_n hx hb dL_law_18 rfl (lv_at hl 0 rfl) ?_
    refine lv_aload_n hx hb dL_law_19 rfl (lv_at hl 3 rfl) ?_
    refine va_slen hx hb hX hbl hbA hS dL_law_20 ?_
    refine lv_iconst (v := 4) hx hb dL_law_21 (by decide) ?_
    refine lv_isub hx hb dL_law_22 ?_
    refine lv_icmp_gt (tgt := 690) hx hb dL_law_23 (by decide) (fun c_70 => ?_) (fun c_70 => ?_)
    · refine lv_iconst (v := 1) hx hb dL_law_690 (by decide) ?_
      refine va_forget (fun q hq => hAi _ (hS.2.2 q hq)) ?_
      refine W.widen (k := 600000) (n := 7302250) (Nat.le_of_ble_eq_true rfl) (Nat.le_of_ble_eq_true rfl) ?_
      exact lw_ret hx hb hr hlocks dL_law_691
    · exact absurd c_70 (fun q => q (by decide))
  · refine lv_iload_n hx hb dL_law_18 rfl (lv_at hl 0 rfl) ?_
    refine lv_aload_n hx hb dL_law_19 rfl (lv_at hl 3 rfl) ?_
    refine va_slen hx hb hX hbl hbA hS dL_law_20 ?_
    refine lv_iconst (v := 4) hx hb dL_law_21 (by decide) ?_
    refine lv_isub hx hb dL_law_22 ?_
    refine lv_icmp_gt (tgt := 690) hx hb dL_law_23 (by decide) (fun c_71 => ?_) (fun c_71 => ?_)
    · refine lv_iconst (v := 1) hx hb dL_law_690 (by decide) ?_
      refine va_forget (fun q hq => hAi _ (hS.2.2 q hq)) ?_
      refine W.widen (k := 600000) (n := 7302250) (Nat.le_of_ble_eq_true rfl) (Nat.le_of_ble_eq_true rfl) ?_
      exact lw_ret hx hb hr hlocks dL_law_691
    · exact absurd c_71 (fun q => q (by decide))
set_option maxHeartbeats 4000000 in
theorem lw_walk (l : Launch) (hflags : l.flags = flags0) (b : Addr) (xs : List Int32) : MetFree l x (headSpec (Jvm.Cond.code x code maxLocals ret :: tables_1) room_1) (lw_P b xs) (fun _ _ _ _ _ => True) lw_Q := by
  refine MetFree.of_bodyS (code := code) (maxLocals := maxLocals) (ret := ret) (by decide) ?_ ?_
  · intro args s m h hn
    obtain ⟨meth, c, h1, h2, h3, h4, h5, h6, -, -⟩ := Cond.code_spec hn (atoms_spec (ws := Jvm.Cond.code x code maxLocals ret :: tables_1) h _ List.mem_cons_self)
    exact ⟨meth, c, h1, h2, h3, h4, h5, h6⟩
  · intro p e s m args below meth c s₁ B hml0 hP _
    obtain ⟨rfl, hx, hbd, hgv⟩ := hP
    obtain ⟨scr, harrAt, hlist, hof, hsmall⟩ := hx
    obtain ⟨hcb, hkn, -, -⟩ := State.arrayAt?_spec harrAt
    have hown : s.vm.findClass R_law = some m.cls := findClass_of_methodNamed B.named
    have hts0 : ∀ c ∈ (Jvm.Cond.code x code maxLocals ret :: tables_1), c.before #[Value.ref b] s = true := atoms_spec (ws := Jvm.Cond.code x code maxLocals ret :: tables_1) B.pre
    have hts : ∀ w ∈ lw_tbl, w.before #[Value.ref b] s = true := k2_hts_sels lw_privs (fun w hw => hts0 w (List.mem_cons_of_mem _ hw)) lw_privs_ok
    have hml : c.maxLocals = 4 := B.maxLocals_eq (hts0 _ List.mem_cons_self)
    have X₀ : Stand p l e room_1 s m #[Value.ref b] below meth c s₁ [] 0 0 := Stand.of_body B
    have hh0 : s₁.heap = s.heap := by rw [B.state]; rfl
    have hsz : scr.slots.size = xs.length := by rw [← Array.length_toList, hlist, List.length_map]
    have hval : ∀ j : Nat, j < xs.length → scr.slots[j]? = some (.int (xs.getD j 0)) := fun j hj => by
      rw [← Array.getElem?_toList, hlist]
      simp [hj]
    have hbl : b < s.heap.size := (Array.getElem?_eq_some_iff.mp hcb).1
    have hX : va_X b xs.length (fun j => xs.getD j 0) s s.heap := ⟨scr, hcb, hof, hkn, hsz, hval⟩
    have K : W p l e room_1 s m #[Value.ref b] below meth c s₁.heap [] 0 0 (lw_Z below #[Value.ref b] s) (entryFrame m ([Value.ref b] : List Value).toArray 4) := by
      rw [hh0]
      exact whole_start l hflags hbd ⟨B.exec, B.bytes, B.returns, hml, hown, hts, hX, hbl, B.notSynchronized, hgv⟩
    obtain ⟨t, a1, o, b1, b2, b3⟩ := K s₁ rfl X₀
    exact ⟨t, o, a1, b1, b2, b3⟩
theorem lw_pre_spec {args : Array Value} {s : State} (h : (Jvm.Cond.and given_1 narrow_1).before args s = true) (hr : rest_1_c.before args s = true) : ∃ (b : Addr) (xs : List Int32), lw_P b xs args s := by
  have hs := flat_of_before _ h
  have hq := flat_of_before _ hr
  have hc : (Cond.count 1).before args s = true := hs _ (by decide +kernel)
  have harr : (Cond.arrayOf (.arg 0) .int).before args s = true := hs _ (by decide +kernel)
  have hle : (Cond.le (.length (.arg 0)) (.int 4)).before args s = true := hs _ (by decide +kernel)
  have hlen : (Cond.isInt (.length (.arg 0))).before args s = true := hq _ (by decide +kernel)
  have hall : (Cond.all (.arg 0) (.isInt (.elem (.arg 0) (.index 0)))).before args s = true := hq _ (by decide +kernel)
  obtain ⟨b, xs, hb, hx⟩ := State.ints_of_pre rfl harr hlen hall
  have hsm : xs.length < 2 ^ 31 := hx.choose_spec.2.2.2
  have hev : (Term.length (.arg 0)).eval args s none [] s = some (.int xs.length.toInt32) := hx.length_eval hb
  have hv := Cond.le_ints hev (show (Term.int 4).eval args s none [] s = some (.int 4) from rfl)
  have hd : xs.length.toInt32 ≤ 4 := by
    simpa [Cond.before, Cond.holds, hv] using hle
  have hN : xs.length ≤ 4 := (Int32.ofNat_le_ofNat hsm (by decide)).mp (show Int32.ofNat xs.length ≤ Int32.ofNat 4 from hd)
  exact ⟨b, xs, Cond.one_arg hc (show args[0]? = some (.ref b) from hb), hx, hN, h⟩
theorem lw_comes (l : Launch) (hflags : l.flags = flags0) : Comes l x (Jvm.Cond.code x code maxLocals ret :: tables_1) room_1 (fun tb e args s => Calls_1 tb e args s ∧ rest_1 tb e args s ∧ Pre_1 tb e args s)
    (fun _ _ args s o t => lw_Q args s o t) := by
  intro p e ha hc hk s m args below hf hfit hheap happ hpre
  obtain ⟨b, xs, hP⟩ := lw_pre_spec hpre.2.2 hpre.2.1
  obtain ⟨k, o, h1, h2, h3, hQ⟩ := lw_walk l hflags b xs p e ha hc hk s m args below hf ((Spec.applies_iff_loose hf).mp happ).1 hP trivial
  exact ⟨k, o, h1, h2, h3, hQ⟩
theorem lw_frame {s t : State} {o : Outcome} {args : Array Value} (h : Framed s o t [] 600000 7302250) :
    Framed s o t (fieldLocs frame_1_writes args s ++ arrayLocs frame_1_arrays args s ++ staticLocs frame_1_statics s) 600000 7302250 := h
theorem lw_limb (L : Cond) (hL : ∀ (args : Array Value) (s t : State), L.after args s (.returned (some (.int 1))) t = true) :
    ArmFor flags0 classFile x code maxLocals ret World_1 tables_1 room_1 Calls_1 rest_1 Pre_1
      (fun tb e a s o t => postC L tb e a s o t ∧ Framed s o t (fieldLocs frame_1_writes a s ++ arrayLocs frame_1_arrays a s ++ staticLocs frame_1_statics s) 600000 7302250) := by
  intro l hflags _ _ p e ha hc hk s m args below hf hfit hheap happ hpre
  obtain ⟨k, o, h1, h2, h3, rfl, hF⟩ := lw_comes l hflags p e ha hc hk s m args below hf hfit hheap happ hpre
  exact ⟨k, _, h1, h2, h3, hL args s _, lw_frame hF⟩
theorem i_vc : Claimed_1_1 ∧ Claimed_1_2 := ⟨lw_limb limb_1_1 (fun args s t => by simp [limb_1_1, Cond.after, Cond.holds, Cond.value]), lw_limb limb_1_2 (fun args s t => Cond.after_iff.mpr (by
  first | (rw [show limb_1_2 = Cond.eq .result (.int 1) from rfl, Cond.eq_ints (x := 1) (y := 1) rfl rfl]; simp; done) | (simp [limb_1_2, Cond.value, Term.eval]; done)))⟩

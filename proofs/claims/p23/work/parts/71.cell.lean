/-! the script's cells; the start -/
def cellB (b L : Nat) (xs : Nat → Int32) (sz : Nat) (U : State) : Prop := U.heap.size = sz ∧ b < sz ∧ va_X b L xs U U.heap
theorem cell_pre {s : State} {H : Heap} {b L : Nat} {xs : Nat → Int32} {A : Nat → Prop} {locs : List Loc} {k : Int32} (hX : va_X b L xs s s.heap) (hbl : b < s.heap.size) (hbA : ¬ A b) (hS : va_S A s.heap H locs) : PreS s H (va_Pc [.ref b, .int k] (cellB b L xs H.size)) [.ref b, .int k] :=
  ⟨fun a U g mk q => ⟨q.1, q.2.1, q.2.2.1, va_X.moved (u := U) (U := U.calling g mk a) (Vm.Alike.refl U.vm) q.2.2.2⟩, fun U hU hW => ⟨rfl, by rw [hU], Nat.lt_of_lt_of_le hbl hS.1, by rw [hU]; exact (hX.kept (hS.2.1 b hbl hbA)).moved hW.alike⟩⟩
theorem nil_P (D : va_G) (H : Heap) : va_P D vwCl ([] : va_W) H := fun k q h => by simp at h
theorem nil_D (A : Nat → Prop) : va_D A ([] : va_W) := ⟨fun i j p q h => by simp at h, fun k q h => by simp at h⟩
set_option maxHeartbeats 4000000 in
theorem c_L_cell (l : Launch) (D : va_G) (b L : Nat) (xs : Nat → Int32) (sz : Nat) (k : Int32) (j : Nat) (hk : k = nI j) (hj : j < 1000) (hL : L < 2 ^ 31) : Met l yL_cell wsL_cell ({ frames := 0, cells := 0, slots := 0, locals := 0 } : Room) (va_Pc [.ref b, .int k] (cellB b L xs sz)) (Qsi D (fun _ w9 => w9 = ([] : va_W)) (va_A ([] : va_W) sz)) 0 0 (va_A ([] : va_W) sz) := by
  refine Met.ofW (cc := cL_cell) (maxL := 2) (ret := (some .int)) (by decide +kernel) rfl ?_
  intro p e s m args below meth c s₁ B hml hv
  obtain ⟨rfl, hsz, hbz, hX⟩ := hv
  subst hsz
  have hts := atoms_spec (ws := wsL_cell) B.pre
  have hown : s.vm.findClass RL = some m.cls := findClass_of_methodNamed B.named
  have hx := B.exec
  have hb := B.bytes
  have hr := B.returns
  have hlk := B.notSynchronized
  have hl := lv_entry [.ref b, .int k] (n := 2) (Nat.le_of_ble_eq_true rfl)
  rw [lg_entry_eq]
  generalize (lg_sl [.ref b, .int k] ++ List.replicate (2 - (lg_sl [.ref b, .int k]).length) Slot.unset).toArray = ls at hl ⊢
  have hl : lv_has ls 2 [(0, .ref b), (1, .int k)] := hl
  generalize hAe : va_A ([] : va_W) s.heap.size = A
  have hbA : ¬ A b := by
    rw [← hAe]
    intro h
    rcases h with ⟨k, e, h⟩ | h
    · simp at h
    · omega
  have hS : va_S A s.heap s.heap [] := va_S.rf
  have hP := nil_P D s.heap
  have hD := nil_D A
  show W p l e ({ frames := 0, cells := 0, slots := 0, locals := 0 } : Room) s m ([.ref b, .int k] : List Value).toArray below meth c s.heap [] 0 0 (MQ below (Qsi D (fun _ w9 => w9 = ([] : va_W)) A) ([.ref b, .int k] : List Value).toArray s 0 0 A) (F0 m 0 ls [])
  refine lv_iload_n hx hb dL_cell_0 rfl (lv_at hl 1 rfl) ?_
  refine lv_aload_n hx hb dL_cell_1 rfl (lv_at hl 0 rfl) ?_
  refine va_slen hx hb hX hbz hbA hS dL_cell_2 ?_
  refine lv_icmp_ge (tgt := 12) hx hb dL_cell_3 (by decide) (fun c_1 => ?_) (fun c_1 => ?_)
  · refine lv_ldc (v := 2143543765) hx hb hown (hts (.constant RL 7 (2143543765)) (by decide +kernel)) dL_cell_12 ?_
    refine lv_iload_n hx hb dL_cell_14 rfl (lv_at hl 1 rfl) ?_
    refine lv_sipush (v := 1451) hx hb dL_cell_15 (by decide) ?_
    refine lv_iadd hx hb dL_cell_18 ?_
    refine lv_imul hx hb dL_cell_19 ?_
    exact ret_i hx hb hr hlk hP hD hS dL_cell_20 ⟨Nat.zero_le _, Nat.zero_le _⟩ rfl
  · refine lv_aload_n hx hb dL_cell_6 rfl (lv_at hl 0 rfl) ?_
    refine lv_iload_n hx hb dL_cell_7 rfl (lv_at hl 1 rfl) ?_
    have hin : vp_in k L := by
      rw [hk]
      rw [hk] at c_1
      exact vp_in_nI (Nat.lt_of_not_le (fun q => c_1 (nI_le q (by omega)))) hL
    refine va_sld hx hb hX hbz hbA hS hin dL_cell_8 ?_
    refine lv_goto (tgt := 20) hx hb dL_cell_9 (by decide) ?_
    exact ret_i hx hb hr hlk hP hD hS dL_cell_20 ⟨Nat.zero_le _, Nat.zero_le _⟩ rfl
set_option maxRecDepth 100000 in
theorem inv_0 : Inv 0 S0_X2 := ⟨⟨511, by decide, by decide +kernel⟩, by decide +kernel, by decide +kernel, by decide +kernel, by decide +kernel, by decide +kernel, by decide +kernel, by decide +kernel, by decide +kernel⟩
set_option maxRecDepth 100000 in
theorem rel_0 : Rel S0_X2 S0_X2 := by
  refine ⟨fun _ _ => rfl, rfl, by decide +kernel, fun row h1 h5 => ?_, fun row h6 h8 => ?_, by decide +kernel⟩
  · obtain rfl | rfl | rfl | rfl | rfl : row = 1 ∨ row = 2 ∨ row = 3 ∨ row = 4 ∨ row = 5 := by omega
    all_goals decide +kernel
  · obtain rfl | rfl | rfl : row = 6 ∨ row = 7 ∨ row = 8 := by omega
    all_goals decide +kernel
theorem lv_0 (Y : YY) (x r tr pp h sl : Nat) (q q1 : Nat → Nat) (tx sa : Nat) (u : HS) (y r2 tr2 pp2 h2 sl2 : Nat) (q2 q12 : Nat → Nat) (tx2 sa2 : Nat) (v : HS) (hu0 : u.1 = 0) (hu : hok u) (hv0 : v.1 = 0) (hv : hok v) : LV Y 0 x y ((wX x r tr pp h sl ++ (wR Y r q S0_X2 ++ (wR Y tr q1 S0_X2 ++ (wP Y pp tx S0_X1 ++ (wHi Y h sa u ++ wA Y sl 2 (fun _ => none)))))) ++ (wX y r2 tr2 pp2 h2 sl2 ++ (wR Y r2 q2 S0_X2 ++ (wR Y tr2 q12 S0_X2 ++ (wP Y pp2 tx2 S0_X1 ++ (wHi Y h2 sa2 v ++ wA Y sl2 2 (fun _ => none))))))) := by
  refine ⟨r, tr, pp, h, sl, q, q1, tx, sa, r2, tr2, pp2, h2, sl2, q2, q12, tx2, sa2, S0_X2, S0_X2, S0_X1, u, fun _ => none, S0_X2, S0_X2, S0_X1, v, fun _ => none, none, none, ⟨inv_0, inv_0, rel_0⟩, ⟨hu0.trans hv0.symm, hu, hv, fun k hk => absurd hk (by omega)⟩, by decide +kernel, trivial, trivial, rfl, rfl, rfl, rfl, ?_⟩
  simp only [tl, List.append_assoc, List.append_nil]

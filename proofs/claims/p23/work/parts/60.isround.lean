def T_L_isRound_1 (S : Nat → Nat → Int32) (k_47 : Nat) : Nat → Int32 := upd (fillS (S 1) k_47) (nI k_47).toNatClampNeg (S 1 k_47)
def T_L_isRound_2 (S : Nat → Nat → Int32) (k_47 : Nat) : Nat → Int32 := upd (fillS (S 3) k_47) (nI k_47).toNatClampNeg (S 3 k_47)
def T_L_isRound_3 (S : Nat → Nat → Int32) (k_47 : Nat) : Nat → Int32 := upd (fillS (S 4) k_47) (nI k_47).toNatClampNeg (S 4 k_47)
set_option maxHeartbeats 4000000 in
set_option maxRecDepth 100000 in
theorem c_L_isRound (l : Launch) (D : va_G) (Y : YY) (sz : Nat) (r : Nat) (tr : Nat) (pp : Nat) (h : Nat) (sl : Nat) (q : Nat → Nat) (tx : Nat) (sa : Nat) (S : Nat → Nat → Int32) (P : Nat → Nat → Int32) (u : HS) (n : Nat) (v : Nat) (x : Nat) (vv : Int32) (hu : hok u) (hI : Inv n S) (hn : n ≤ 100) (hv : v < 1000) (hvv : vv = nI v) : Met l yL_isRound wsL_isRound ({ frames := 6, cells := 3, slots := 27, locals := 192 } : Room) (va_Pc [.ref x, .int (nI v)] (Pst D Y sz (wX x r tr pp h sl ++ (wR Y r q S ++ (wP Y pp tx P ++ wHi Y h sa u))))) ((fun A : Nat → Prop => Qsi D (fun r9 w9 => r9 = 1 ∧ w9 = wX x r tr pp h sl ++ (wR Y r q (RS S v) ++ (wP Y pp tx P ++ wHi Y h sa (D_X0_remember u S)))) A) (va_A (wX x r tr pp h sl ++ (wR Y r q S ++ (wP Y pp tx P ++ wHi Y h sa u))) sz)) 3 27 (va_A (wX x r tr pp h sl ++ (wR Y r q S ++ (wP Y pp tx P ++ wHi Y h sa u))) sz) := by
  refine ct_in (cc := cL_isRound) (maxL := 16) (ret := (some .boolean)) (Qc := fun A : Nat → Prop => Qsi D (fun r9 w9 => r9 = 1 ∧ w9 = wX x r tr pp h sl ++ (wR Y r q (RS S v) ++ (wP Y pp tx P ++ wHi Y h sa (D_X0_remember u S)))) A) (by decide +kernel) rfl (Nat.le_of_ble_eq_true rfl) ?_
  intro p e s m below meth c A ls hx hb hr hts hown hml hlk hin hsz hA hP hD hK hS hl
  subst hvv
  have hown : s.vm.findClass RL = some m.cls := hown
  have hl : lv_has ls 16 [(0, .ref x), (1, .int (nI v))] := hl
  show W p l e ({ frames := 6, cells := 3, slots := 27, locals := 192 } : Room) s m ([.ref x, .int (nI v)] : List Value).toArray below meth c s.heap [] 0 0 (MQ below (Qsi D (fun r9 w9 => r9 = 1 ∧ w9 = wX x r tr pp h sl ++ (wR Y r q (RS S v) ++ (wP Y pp tx P ++ wHi Y h sa (D_X0_remember u S)))) A) ([.ref x, .int (nI v)] : List Value).toArray s 3 27 A) (F0 m 0 ls [])
  refine lv_bipush (v := 9) hx hb dL_isRound_0 (by decide) ?_
  refine my_newI (D := D) (N := 9) hx hb (hts (.arrayClass .int) (by decide +kernel)) hK hP hD hS hA rfl (by decide) (Nat.le_of_ble_eq_true rfl) (Nat.le_of_ble_eq_true rfl) dL_isRound_2 (fun a_2 H hP hD hS => ?_)
  have hP : va_P D vwCl (wX x r tr pp h sl ++ (wR Y r q S ++ (wP Y pp tx P ++ (wHi Y h sa u ++ wI Y a_2 9 (fun _ => 0))))) H := hP
  have hD : va_D A (wX x r tr pp h sl ++ (wR Y r q S ++ (wP Y pp tx P ++ (wHi Y h sa u ++ wI Y a_2 9 (fun _ => 0))))) := hD
  refine W.widen (k := 1) (n := 9) (Nat.le_of_ble_eq_true rfl) (Nat.le_of_ble_eq_true rfl) ?_
  refine lv_astore_n (lv' := [(2, .ref a_2), (0, .ref x), (1, .int (nI v))]) hx hb dL_isRound_4 rfl hl (by decide) rfl (fun ls hl => ?_)
  refine lv_bipush (v := 9) hx hb dL_isRound_5 (by decide) ?_
  refine my_newI (D := D) (N := 9) hx hb (hts (.arrayClass .int) (by decide +kernel)) hK hP hD hS hA rfl (by decide) (Nat.le_of_ble_eq_true rfl) (Nat.le_of_ble_eq_true rfl) dL_isRound_7 (fun a_7 H hP hD hS => ?_)
  have hP : va_P D vwCl (wX x r tr pp h sl ++ (wR Y r q S ++ (wP Y pp tx P ++ (wHi Y h sa u ++ (wI Y a_2 9 (fun _ => 0) ++ wI Y a_7 9 (fun _ => 0)))))) H := hP
  have hD : va_D A (wX x r tr pp h sl ++ (wR Y r q S ++ (wP Y pp tx P ++ (wHi Y h sa u ++ (wI Y a_2 9 (fun _ => 0) ++ wI Y a_7 9 (fun _ => 0)))))) := hD
  refine W.widen (k := 2) (n := 18) (Nat.le_of_ble_eq_true rfl) (Nat.le_of_ble_eq_true rfl) ?_
  refine lv_astore_n (lv' := [(3, .ref a_7), (2, .ref a_2), (0, .ref x), (1, .int (nI v))]) hx hb dL_isRound_9 rfl hl (by decide) rfl (fun ls hl => ?_)
  refine lv_bipush (v := 9) hx hb dL_isRound_10 (by decide) ?_
  refine my_newI (D := D) (N := 9) hx hb (hts (.arrayClass .int) (by decide +kernel)) hK hP hD hS hA rfl (by decide) (Nat.le_of_ble_eq_true rfl) (Nat.le_of_ble_eq_true rfl) dL_isRound_12 (fun a_12 H hP hD hS => ?_)
  have hP : va_P D vwCl (wX x r tr pp h sl ++ (wR Y r q S ++ (wP Y pp tx P ++ (wHi Y h sa u ++ (wI Y a_2 9 (fun _ => 0) ++ (wI Y a_7 9 (fun _ => 0) ++ wI Y a_12 9 (fun _ => 0))))))) H := hP
  have hD : va_D A (wX x r tr pp h sl ++ (wR Y r q S ++ (wP Y pp tx P ++ (wHi Y h sa u ++ (wI Y a_2 9 (fun _ => 0) ++ (wI Y a_7 9 (fun _ => 0) ++ wI Y a_12 9 (fun _ => 0))))))) := hD
  refine W.widen (k := 3) (n := 27) (Nat.le_of_ble_eq_true rfl) (Nat.le_of_ble_eq_true rfl) ?_
  refine lv_astore (lv' := [(4, .ref a_12), (3, .ref a_7), (2, .ref a_2), (0, .ref x), (1, .int (nI v))]) hx hb dL_isRound_14 hl (by decide) rfl (fun ls hl => ?_)
  refine lv_aload_n hx hb dL_isRound_16 rfl (lv_at hl 3 rfl) ?_
  refine lv_iconst (v := 0) hx hb dL_isRound_17 (by decide) ?_
  refine cb_iD (wr := wI Y a_2 9 (fun _ => 0) ++ (wI Y a_7 9 (fun _ => 0) ++ wI Y a_12 9 (fun _ => 0))) (ws' := wX x r tr pp h sl ++ (wR Y r q S ++ (wP Y pp tx P ++ (wHi Y h sa u ++ (wI Y a_2 9 (fun _ => 0) ++ (wI Y a_7 9 (fun _ => 0) ++ wI Y a_12 9 (fun _ => 0))))))) (va_runV (As := [.int 0]) (rest := []) ⟨hx, hb, hml, hown, hts⟩ (c_X3_count l D Y H.size r tr pp h sl q tx sa S P u x 0) (cwV 1 hts gL_isRound_X3_count rfl rfl rfl (by decide +kernel) ⟨Nat.le_of_ble_eq_true rfl, Nat.le_of_ble_eq_true rfl⟩) (psb_V (wr := wI Y a_2 9 (fun _ => 0) ++ (wI Y a_7 9 (fun _ => 0) ++ wI Y a_12 9 (fun _ => 0))) hK hP hD (pl_cons (List.Perm.refl _) (pl_cons (List.Perm.refl _) (pl_cons (List.Perm.refl _) (List.Perm.refl _)))) (q0 := 0) rfl rfl) rfl rfl hl.1 rfl (lv_room (Nat.le_of_ble_eq_true rfl)) dL_isRound_18 ⟨Nat.le_of_ble_eq_true rfl, Nat.le_of_ble_eq_true rfl⟩) hP hD hS hA (pl_cons (List.Perm.refl _) (pl_cons (List.Perm.refl _) (pl_cons (List.Perm.refl _) (List.Perm.refl _)))) (pl_cons (List.Perm.refl _) (pl_cons (List.Perm.refl _) (pl_cons (List.Perm.refl _) (List.Perm.refl _)))) (fun H locs hP hD hS => ?_)
  refine W.widen (k := 3) (n := 27) (Nat.le_of_ble_eq_true rfl) (Nat.le_of_ble_eq_true rfl) ?_
  refine lv_topi (fun y9 e9 => ?_)
  obtain rfl : y9 = S 0 0 := e9.trans (ct_g _ _ _ (w := 0) (by decide))
  refine lv_istore (lv' := [(5, .int (S 0 0)), (4, .ref a_12), (3, .ref a_7), (2, .ref a_2), (0, .ref x), (1, .int (nI v))]) hx hb dL_isRound_21 hl (by decide) rfl (fun ls hl => ?_)
  refine lv_aload_n hx hb dL_isRound_23 rfl (lv_at hl 4 rfl) ?_
  refine lv_iconst (v := 1) hx hb dL_isRound_24 (by decide) ?_
  refine cb_iD (wr := wI Y a_2 9 (fun _ => 0) ++ (wI Y a_7 9 (fun _ => 0) ++ wI Y a_12 9 (fun _ => 0))) (ws' := wX x r tr pp h sl ++ (wR Y r q S ++ (wP Y pp tx P ++ (wHi Y h sa u ++ (wI Y a_2 9 (fun _ => 0) ++ (wI Y a_7 9 (fun _ => 0) ++ wI Y a_12 9 (fun _ => 0))))))) (va_runV (As := [.int 1]) (rest := []) ⟨hx, hb, hml, hown, hts⟩ (c_X3_count l D Y H.size r tr pp h sl q tx sa S P u x 1) (cwV 1 hts gL_isRound_X3_count rfl rfl rfl (by decide +kernel) ⟨Nat.le_of_ble_eq_true rfl, Nat.le_of_ble_eq_true rfl⟩) (psb_V (wr := wI Y a_2 9 (fun _ => 0) ++ (wI Y a_7 9 (fun _ => 0) ++ wI Y a_12 9 (fun _ => 0))) hK hP hD (pl_cons (List.Perm.refl _) (pl_cons (List.Perm.refl _) (pl_cons (List.Perm.refl _) (List.Perm.refl _)))) (q0 := 0) rfl rfl) rfl rfl hl.1 rfl (lv_room (Nat.le_of_ble_eq_true rfl)) dL_isRound_25 ⟨Nat.le_of_ble_eq_true rfl, Nat.le_of_ble_eq_true rfl⟩) hP hD hS hA (pl_cons (List.Perm.refl _) (pl_cons (List.Perm.refl _) (pl_cons (List.Perm.refl _) (List.Perm.refl _)))) (pl_cons (List.Perm.refl _) (pl_cons (List.Perm.refl _) (pl_cons (List.Perm.refl _) (List.Perm.refl _)))) (fun H locs hP hD hS => ?_)
  refine W.widen (k := 3) (n := 27) (Nat.le_of_ble_eq_true rfl) (Nat.le_of_ble_eq_true rfl) ?_
  refine lv_topi (fun y9 e9 => ?_)
  obtain rfl : y9 = S 0 1 := e9.trans (ct_g _ _ _ (w := 1) (by decide))
  refine lv_istore (lv' := [(6, .int (S 0 1)), (5, .int (S 0 0)), (4, .ref a_12), (3, .ref a_7), (2, .ref a_2), (0, .ref x), (1, .int (nI v))]) hx hb dL_isRound_28 hl (by decide) rfl (fun ls hl => ?_)
  refine lv_aload_n hx hb dL_isRound_30 rfl (lv_at hl 5 rfl) ?_
  refine lv_iconst (v := 5) hx hb dL_isRound_31 (by decide) ?_
  refine cb_iD (wr := wI Y a_2 9 (fun _ => 0) ++ (wI Y a_7 9 (fun _ => 0) ++ wI Y a_12 9 (fun _ => 0))) (ws' := wX x r tr pp h sl ++ (wR Y r q S ++ (wP Y pp tx P ++ (wHi Y h sa u ++ (wI Y a_2 9 (fun _ => 0) ++ (wI Y a_7 9 (fun _ => 0) ++ wI Y a_12 9 (fun _ => 0))))))) (va_runV (As := [.int 5]) (rest := []) ⟨hx, hb, hml, hown, hts⟩ (c_X3_count l D Y H.size r tr pp h sl q tx sa S P u x 5) (cwV 1 hts gL_isRound_X3_count rfl rfl rfl (by decide +kernel) ⟨Nat.le_of_ble_eq_true rfl, Nat.le_of_ble_eq_true rfl⟩) (psb_V (wr := wI Y a_2 9 (fun _ => 0) ++ (wI Y a_7 9 (fun _ => 0) ++ wI Y a_12 9 (fun _ => 0))) hK hP hD (pl_cons (List.Perm.refl _) (pl_cons (List.Perm.refl _) (pl_cons (List.Perm.refl _) (List.Perm.refl _)))) (q0 := 0) rfl rfl) rfl rfl hl.1 rfl (lv_room (Nat.le_of_ble_eq_true rfl)) dL_isRound_32 ⟨Nat.le_of_ble_eq_true rfl, Nat.le_of_ble_eq_true rfl⟩) hP hD hS hA (pl_cons (List.Perm.refl _) (pl_cons (List.Perm.refl _) (pl_cons (List.Perm.refl _) (List.Perm.refl _)))) (pl_cons (List.Perm.refl _) (pl_cons (List.Perm.refl _) (pl_cons (List.Perm.refl _) (List.Perm.refl _)))) (fun H locs hP hD hS => ?_)
  refine W.widen (k := 3) (n := 27) (Nat.le_of_ble_eq_true rfl) (Nat.le_of_ble_eq_true rfl) ?_
  refine lv_topi (fun y9 e9 => ?_)
  obtain rfl : y9 = sm (S 7) 81 := e9.trans (ct_5 _ _ _)
  refine lv_istore (lv' := [(7, .int (sm (S 7) 81)), (6, .int (S 0 1)), (5, .int (S 0 0)), (4, .ref a_12), (3, .ref a_7), (2, .ref a_2), (0, .ref x), (1, .int (nI v))]) hx hb dL_isRound_35 hl (by decide) rfl (fun ls hl => ?_)
  refine lv_aload_n hx hb dL_isRound_37 rfl (lv_at hl 6 rfl) ?_
  refine lv_iconst (v := 3) hx hb dL_isRound_38 (by decide) ?_
  refine cb_iD (wr := wI Y a_2 9 (fun _ => 0) ++ (wI Y a_7 9 (fun _ => 0) ++ wI Y a_12 9 (fun _ => 0))) (ws' := wX x r tr pp h sl ++ (wR Y r q S ++ (wP Y pp tx P ++ (wHi Y h sa u ++ (wI Y a_2 9 (fun _ => 0) ++ (wI Y a_7 9 (fun _ => 0) ++ wI Y a_12 9 (fun _ => 0))))))) (va_runV (As := [.int 3]) (rest := []) ⟨hx, hb, hml, hown, hts⟩ (c_X3_count l D Y H.size r tr pp h sl q tx sa S P u x 3) (cwV 1 hts gL_isRound_X3_count rfl rfl rfl (by decide +kernel) ⟨Nat.le_of_ble_eq_true rfl, Nat.le_of_ble_eq_true rfl⟩) (psb_V (wr := wI Y a_2 9 (fun _ => 0) ++ (wI Y a_7 9 (fun _ => 0) ++ wI Y a_12 9 (fun _ => 0))) hK hP hD (pl_cons (List.Perm.refl _) (pl_cons (List.Perm.refl _) (pl_cons (List.Perm.refl _) (List.Perm.refl _)))) (q0 := 0) rfl rfl) rfl rfl hl.1 rfl (lv_room (Nat.le_of_ble_eq_true rfl)) dL_isRound_39 ⟨Nat.le_of_ble_eq_true rfl, Nat.le_of_ble_eq_true rfl⟩) hP hD hS hA (pl_cons (List.Perm.refl _) (pl_cons (List.Perm.refl _) (pl_cons (List.Perm.refl _) (List.Perm.refl _)))) (pl_cons (List.Perm.refl _) (pl_cons (List.Perm.refl _) (pl_cons (List.Perm.refl _) (List.Perm.refl _)))) (fun H locs hP hD hS => ?_)
  refine W.widen (k := 3) (n := 27) (Nat.le_of_ble_eq_true rfl) (Nat.le_of_ble_eq_true rfl) ?_
  refine lv_topi (fun y9 e9 => ?_)
  obtain rfl : y9 = S 10 1 := e9.trans (ct_3 _ _ _)
  refine lv_istore (lv' := [(8, .int (S 10 1)), (7, .int (sm (S 7) 81)), (6, .int (S 0 1)), (5, .int (S 0 0)), (4, .ref a_12), (3, .ref a_7), (2, .ref a_2), (0, .ref x), (1, .int (nI v))]) hx hb dL_isRound_42 hl (by decide) rfl (fun ls hl => ?_)
  refine lv_iconst (v := 0) hx hb dL_isRound_44 (by decide) ?_
  refine lv_istore (lv' := [(9, .int 0), (8, .int (S 10 1)), (7, .int (sm (S 7) 81)), (6, .int (S 0 1)), (5, .int (S 0 0)), (4, .ref a_12), (3, .ref a_7), (2, .ref a_2), (0, .ref x), (1, .int (nI v))]) hx hb dL_isRound_45 hl (by decide) rfl (fun ls hl => ?_)
  have loop_47 : ∀ (n_47 k_47 : Nat) (H : Heap) (locs : List Loc) (ls : Array Slot), 10 ≤ k_47 + n_47 → k_47 ≤ 9 → va_P D vwCl (wX x r tr pp h sl ++ (wR Y r q S ++ (wP Y pp tx P ++ (wHi Y h sa u ++ (wI Y a_2 9 (fillS (S 1) k_47) ++ (wI Y a_7 9 (fillS (S 3) k_47) ++ wI Y a_12 9 (fillS (S 4) k_47))))))) H → va_D A (wX x r tr pp h sl ++ (wR Y r q S ++ (wP Y pp tx P ++ (wHi Y h sa u ++ (wI Y a_2 9 (fillS (S 1) k_47) ++ (wI Y a_7 9 (fillS (S 3) k_47) ++ wI Y a_12 9 (fillS (S 4) k_47))))))) → va_S A s.heap H locs → lv_has ls 16 [(9, .int (nI k_47)), (8, .int (S 10 1)), (7, .int (sm (S 7) 81)), (6, .int (S 0 1)), (5, .int (S 0 0)), (4, .ref a_12), (3, .ref a_7), (2, .ref a_2), (0, .ref x), (1, .int (nI v))] → W p l e ({ frames := 6, cells := 3, slots := 27, locals := 192 } : Room) s m ([.ref x, .int (nI v)] : List Value).toArray below meth c H locs 3 27 (MQ below (Qsi D (fun r9 w9 => r9 = 1 ∧ w9 = wX x r tr pp h sl ++ (wR Y r q (RS S v) ++ (wP Y pp tx P ++ wHi Y h sa (D_X0_remember u S)))) A) ([.ref x, .int (nI v)] : List Value).toArray s 3 27 A) (F0 m 47 ls []) := by
    intro n_47
    induction n_47 with
    | zero => intro k_47 H locs ls hkf hkN; exact absurd hkf (by omega)
    | succ n_47 ih_47 =>
      intro k_47 H locs ls hkf hkN hP hD hS hl
      refine lv_iload hx hb dL_isRound_47 (lv_at hl 0 rfl) ?_
      refine lv_bipush (v := 9) hx hb dL_isRound_49 (by decide) ?_
      refine lv_icmp_ge (tgt := 94) hx hb dL_isRound_51 (by decide) (fun c_1 => ?_) (fun c_1 => ?_)
      · obtain rfl : k_47 = 9 := by have := (nI_leI (a := 9) (by decide) (by omega)).mp c_1; omega
        refine lv_aload_n hx hb dL_isRound_94 rfl (lv_at hl 8 rfl) ?_
        refine lv_iload_n hx hb dL_isRound_95 rfl (lv_at hl 9 rfl) ?_
        refine cb_iD (wr := wP Y pp tx P ++ (wI Y a_2 9 (fillS (S 1) 9) ++ (wI Y a_7 9 (fillS (S 3) 9) ++ wI Y a_12 9 (fillS (S 4) 9)))) (ws' := wX x r tr pp h sl ++ (wR Y r q ((D_X3_call u S (nI v)).2.2) ++ (wP Y pp tx P ++ (wHi Y h sa ((D_X3_call u S (nI v)).2.1) ++ (wI Y a_2 9 (fillS (S 1) 9) ++ (wI Y a_7 9 (fillS (S 3) 9) ++ wI Y a_12 9 (fillS (S 4) 9))))))) (va_runV (As := [.int (nI v)]) (rest := []) ⟨hx, hb, hml, hown, hts⟩ (c_X3_call l D Y H.size r tr pp h sl sa q u S x (nI v) hu) (cwV 1 hts gL_isRound_X3_call rfl rfl rfl (by decide +kernel) ⟨Nat.le_of_ble_eq_true rfl, Nat.le_of_ble_eq_true rfl⟩) (psb_V (wr := wP Y pp tx P ++ (wI Y a_2 9 (fillS (S 1) 9) ++ (wI Y a_7 9 (fillS (S 3) 9) ++ wI Y a_12 9 (fillS (S 4) 9)))) hK hP hD (pl_cons (List.Perm.refl _) (pl_cons (pl_up (pl_up (List.Perm.refl _))) (List.Perm.refl _))) (q0 := 0) rfl rfl) rfl rfl hl.1 rfl (lv_room (Nat.le_of_ble_eq_true rfl)) dL_isRound_96 ⟨Nat.le_of_ble_eq_true rfl, Nat.le_of_ble_eq_true rfl⟩) hP hD hS hA (pl_cons (List.Perm.refl _) (pl_cons (pl_up (pl_up (List.Perm.refl _))) (List.Perm.refl _))) (pl_cons (List.Perm.refl _) (pl_cons (pl_up (pl_up (List.Perm.refl _))) (List.Perm.refl _))) (fun H locs hP hD hS => ?_)
        refine W.widen (k := 3) (n := 27) (Nat.le_of_ble_eq_true rfl) (Nat.le_of_ble_eq_true rfl) ?_
        have e7 : (D_X3_call u S (nI v)).2.1 = D_X0_remember u S := by rw [call_eq u hI hn hv]
        rw [e7] at hP hD
        clear e7
        have e7 : (D_X3_call u S (nI v)).2.2 = RS S v := by rw [call_eq u hI hn hv]
        rw [e7] at hP hD
        clear e7
        refine lv_topi (fun y9 e9 => ?_)
        obtain rfl : y9 = nI (pc S (v % 9) 9) := e9.trans (by rw [call_eq u hI hn hv])
        refine lv_istore (lv' := [(9, .int (nI (pc S (v % 9) 9))), (8, .int (S 10 1)), (7, .int (sm (S 7) 81)), (6, .int (S 0 1)), (5, .int (S 0 0)), (4, .ref a_12), (3, .ref a_7), (2, .ref a_2), (0, .ref x), (1, .int (nI v))]) hx hb dL_isRound_99 hl (by decide) rfl (fun ls hl => ?_)
        refine lv_iconst (v := 0) hx hb dL_isRound_101 (by decide) ?_
        refine lv_istore (lv' := [(10, .int 0), (9, .int (nI (pc S (v % 9) 9))), (8, .int (S 10 1)), (7, .int (sm (S 7) 81)), (6, .int (S 0 1)), (5, .int (S 0 0)), (4, .ref a_12), (3, .ref a_7), (2, .ref a_2), (0, .ref x), (1, .int (nI v))]) hx hb dL_isRound_102 hl (by decide) rfl (fun ls hl => ?_)
        refine lv_aload_n hx hb dL_isRound_104 rfl (lv_at hl 9 rfl) ?_
        refine lv_iconst (v := 5) hx hb dL_isRound_105 (by decide) ?_
        refine cb_iD (wr := wI Y a_2 9 (fillS (S 1) 9) ++ (wI Y a_7 9 (fillS (S 3) 9) ++ wI Y a_12 9 (fillS (S 4) 9))) (ws' := wX x r tr pp h sl ++ (wR Y r q (RS S v) ++ (wP Y pp tx P ++ (wHi Y h sa (D_X0_remember u S) ++ (wI Y a_2 9 (fillS (S 1) 9) ++ (wI Y a_7 9 (fillS (S 3) 9) ++ wI Y a_12 9 (fillS (S 4) 9))))))) (va_runV (As := [.int 5]) (rest := []) ⟨hx, hb, hml, hown, hts⟩ (c_X3_count l D Y H.size r tr pp h sl q tx sa (RS S v) P (D_X0_remember u S) x 5) (cwV 1 hts gL_isRound_X3_count rfl rfl rfl (by decide +kernel) ⟨Nat.le_of_ble_eq_true rfl, Nat.le_of_ble_eq_true rfl⟩) (psb_V (wr := wI Y a_2 9 (fillS (S 1) 9) ++ (wI Y a_7 9 (fillS (S 3) 9) ++ wI Y a_12 9 (fillS (S 4) 9))) hK hP hD (pl_cons (List.Perm.refl _) (pl_cons (List.Perm.refl _) (pl_cons (List.Perm.refl _) (List.Perm.refl _)))) (q0 := 0) rfl rfl) rfl rfl hl.1 rfl (lv_room (Nat.le_of_ble_eq_true rfl)) dL_isRound_106 ⟨Nat.le_of_ble_eq_true rfl, Nat.le_of_ble_eq_true rfl⟩) hP hD hS hA (pl_cons (List.Perm.refl _) (pl_cons (List.Perm.refl _) (pl_cons (List.Perm.refl _) (List.Perm.refl _)))) (pl_cons (List.Perm.refl _) (pl_cons (List.Perm.refl _) (pl_cons (List.Perm.refl _) (List.Perm.refl _)))) (fun H locs hP hD hS => ?_)
        refine W.widen (k := 3) (n := 27) (Nat.le_of_ble_eq_true rfl) (Nat.le_of_ble_eq_true rfl) ?_
        refine lv_topi (fun y9 e9 => ?_)
        obtain rfl : y9 = sm (S 7) 81 + nI (pc S (v % 9) 9) := e9.trans ((ct_5 _ _ _).trans (hI.c5 hn v))
        refine lv_iload hx hb dL_isRound_109 (lv_at hl 3 rfl) ?_
        refine lv_iload hx hb dL_isRound_111 (lv_at hl 1 rfl) ?_
        refine lv_iadd hx hb dL_isRound_113 ?_
        refine lv_icmp_ne (tgt := 149) hx hb dL_isRound_114 (by decide) (fun c_2 => ?_) (fun c_2 => ?_)
        · exact absurd c_2 (fun q => q (rfl))
        · refine lv_aload_n hx hb dL_isRound_117 rfl (lv_at hl 9 rfl) ?_
          refine lv_iconst (v := 3) hx hb dL_isRound_118 (by decide) ?_
          refine cb_iD (wr := wI Y a_2 9 (fillS (S 1) 9) ++ (wI Y a_7 9 (fillS (S 3) 9) ++ wI Y a_12 9 (fillS (S 4) 9))) (ws' := wX x r tr pp h sl ++ (wR Y r q (RS S v) ++ (wP Y pp tx P ++ (wHi Y h sa (D_X0_remember u S) ++ (wI Y a_2 9 (fillS (S 1) 9) ++ (wI Y a_7 9 (fillS (S 3) 9) ++ wI Y a_12 9 (fillS (S 4) 9))))))) (va_runV (As := [.int 3]) (rest := []) ⟨hx, hb, hml, hown, hts⟩ (c_X3_count l D Y H.size r tr pp h sl q tx sa (RS S v) P (D_X0_remember u S) x 3) (cwV 1 hts gL_isRound_X3_count rfl rfl rfl (by decide +kernel) ⟨Nat.le_of_ble_eq_true rfl, Nat.le_of_ble_eq_true rfl⟩) (psb_V (wr := wI Y a_2 9 (fillS (S 1) 9) ++ (wI Y a_7 9 (fillS (S 3) 9) ++ wI Y a_12 9 (fillS (S 4) 9))) hK hP hD (pl_cons (List.Perm.refl _) (pl_cons (List.Perm.refl _) (pl_cons (List.Perm.refl _) (List.Perm.refl _)))) (q0 := 0) rfl rfl) rfl rfl hl.1 rfl (lv_room (Nat.le_of_ble_eq_true rfl)) dL_isRound_119 ⟨Nat.le_of_ble_eq_true rfl, Nat.le_of_ble_eq_true rfl⟩) hP hD hS hA (pl_cons (List.Perm.refl _) (pl_cons (List.Perm.refl _) (pl_cons (List.Perm.refl _) (List.Perm.refl _)))) (pl_cons (List.Perm.refl _) (pl_cons (List.Perm.refl _) (pl_cons (List.Perm.refl _) (List.Perm.refl _)))) (fun H locs hP hD hS => ?_)
          refine W.widen (k := 3) (n := 27) (Nat.le_of_ble_eq_true rfl) (Nat.le_of_ble_eq_true rfl) ?_
          refine lv_topi (fun y9 e9 => ?_)
          obtain rfl : y9 = S 10 1 + 1 := e9.trans ((ct_3 _ _ _).trans (RS_101 S v))
          refine lv_iload hx hb dL_isRound_122 (lv_at hl 2 rfl) ?_
          refine lv_iconst (v := 1) hx hb dL_isRound_124 (by decide) ?_
          refine lv_iadd hx hb dL_isRound_125 ?_
          refine lv_icmp_ne (tgt := 149) hx hb dL_isRound_126 (by decide) (fun c_3 => ?_) (fun c_3 => ?_)
          · exact absurd c_3 (fun q => q (rfl))
          · refine lv_aload_n hx hb dL_isRound_129 rfl (lv_at hl 9 rfl) ?_
            refine lv_bipush (v := 10) hx hb dL_isRound_130 (by decide) ?_
            refine cb_iD (wr := wI Y a_2 9 (fillS (S 1) 9) ++ (wI Y a_7 9 (fillS (S 3) 9) ++ wI Y a_12 9 (fillS (S 4) 9))) (ws' := wX x r tr pp h sl ++ (wR Y r q (RS S v) ++ (wP Y pp tx P ++ (wHi Y h sa (D_X0_remember u S) ++ (wI Y a_2 9 (fillS (S 1) 9) ++ (wI Y a_7 9 (fillS (S 3) 9) ++ wI Y a_12 9 (fillS (S 4) 9))))))) (va_runV (As := [.int 10]) (rest := []) ⟨hx, hb, hml, hown, hts⟩ (c_X3_count l D Y H.size r tr pp h sl q tx sa (RS S v) P (D_X0_remember u S) x 10) (cwV 1 hts gL_isRound_X3_count rfl rfl rfl (by decide +kernel) ⟨Nat.le_of_ble_eq_true rfl, Nat.le_of_ble_eq_true rfl⟩) (psb_V (wr := wI Y a_2 9 (fillS (S 1) 9) ++ (wI Y a_7 9 (fillS (S 3) 9) ++ wI Y a_12 9 (fillS (S 4) 9))) hK hP hD (pl_cons (List.Perm.refl _) (pl_cons (List.Perm.refl _) (pl_cons (List.Perm.refl _) (List.Perm.refl _)))) (q0 := 0) rfl rfl) rfl rfl hl.1 rfl (lv_room (Nat.le_of_ble_eq_true rfl)) dL_isRound_132 ⟨Nat.le_of_ble_eq_true rfl, Nat.le_of_ble_eq_true rfl⟩) hP hD hS hA (pl_cons (List.Perm.refl _) (pl_cons (List.Perm.refl _) (pl_cons (List.Perm.refl _) (List.Perm.refl _)))) (pl_cons (List.Perm.refl _) (pl_cons (List.Perm.refl _) (pl_cons (List.Perm.refl _) (List.Perm.refl _)))) (fun H locs hP hD hS => ?_)
            refine W.widen (k := 3) (n := 27) (Nat.le_of_ble_eq_true rfl) (Nat.le_of_ble_eq_true rfl) ?_
            refine lv_topi (fun y9 e9 => ?_)
            obtain rfl : y9 = nI v := e9.trans ((ct_10 _ _ _).trans (RS_102 S v))
            refine lv_iload_n hx hb dL_isRound_135 rfl (lv_at hl 10 rfl) ?_
            refine lv_icmp_ne (tgt := 149) hx hb dL_isRound_136 (by decide) (fun c_4 => ?_) (fun c_4 => ?_)
            · exact absurd c_4 (fun q => q (rfl))
            · refine lv_iload hx hb dL_isRound_139 (lv_at hl 1 rfl) ?_
              refine lv_iconst (v := 4) hx hb dL_isRound_141 (by decide) ?_
              refine lv_icmp_gt (tgt := 149) hx hb dL_isRound_142 (by decide) (fun c_5 => ?_) (fun c_5 => ?_)
              · exact absurd c_5 (pc_4 S v)
              · refine lv_iconst (v := 1) hx hb dL_isRound_145 (by decide) ?_
                refine lv_goto (tgt := 150) hx hb dL_isRound_146 (by decide) ?_
                refine lv_istore (lv' := [(11, .int 1), (10, .int 0), (9, .int (nI (pc S (v % 9) 9))), (8, .int (S 10 1)), (7, .int (sm (S 7) 81)), (6, .int (S 0 1)), (5, .int (S 0 0)), (4, .ref a_12), (3, .ref a_7), (2, .ref a_2), (0, .ref x), (1, .int (nI v))]) hx hb dL_isRound_150 hl (by decide) rfl (fun ls hl => ?_)
                refine lv_iconst (v := 0) hx hb dL_isRound_152 (by decide) ?_
                refine lv_istore (lv' := [(12, .int 0), (11, .int 1), (10, .int 0), (9, .int (nI (pc S (v % 9) 9))), (8, .int (S 10 1)), (7, .int (sm (S 7) 81)), (6, .int (S 0 1)), (5, .int (S 0 0)), (4, .ref a_12), (3, .ref a_7), (2, .ref a_2), (0, .ref x), (1, .int (nI v))]) hx hb dL_isRound_153 hl (by decide) rfl (fun ls hl => ?_)
                have loop_155 : ∀ (n_155 k_155 : Nat) (H : Heap) (locs : List Loc) (ls : Array Slot), 10 ≤ k_155 + n_155 → k_155 ≤ 9 → va_P D vwCl (wX x r tr pp h sl ++ (wR Y r q (RS S v) ++ (wP Y pp tx P ++ (wHi Y h sa (D_X0_remember u S) ++ (wI Y a_2 9 (fillS (S 1) 9) ++ (wI Y a_7 9 (fillS (S 3) 9) ++ wI Y a_12 9 (fillS (S 4) 9))))))) H → va_D A (wX x r tr pp h sl ++ (wR Y r q (RS S v) ++ (wP Y pp tx P ++ (wHi Y h sa (D_X0_remember u S) ++ (wI Y a_2 9 (fillS (S 1) 9) ++ (wI Y a_7 9 (fillS (S 3) 9) ++ wI Y a_12 9 (fillS (S 4) 9))))))) → va_S A s.heap H locs → lv_has ls 16 [(12, .int (nI k_155)), (11, .int 1), (10, .int (nI (cis S (v % 9) k_155))), (9, .int (nI (pc S (v % 9) 9))), (8, .int (S 10 1)), (7, .int (sm (S 7) 81)), (6, .int (S 0 1)), (5, .int (S 0 0)), (4, .ref a_12), (3, .ref a_7), (2, .ref a_2), (0, .ref x), (1, .int (nI v))] → W p l e ({ frames := 6, cells := 3, slots := 27, locals := 192 } : Room) s m ([.ref x, .int (nI v)] : List Value).toArray below meth c H locs 3 27 (MQ below (Qsi D (fun r9 w9 => r9 = 1 ∧ w9 = wX x r tr pp h sl ++ (wR Y r q (RS S v) ++ (wP Y pp tx P ++ wHi Y h sa (D_X0_remember u S)))) A) ([.ref x, .int (nI v)] : List Value).toArray s 3 27 A) (F0 m 155 ls []) := by
                  intro n_155
                  induction n_155 with
                  | zero => intro k_155 H locs ls hkf hkN; exact absurd hkf (by omega)
                  | succ n_155 ih_155 =>
                    intro k_155 H locs ls hkf hkN hP hD hS hl
                    refine lv_iload hx hb dL_isRound_155 (lv_at hl 0 rfl) ?_
                    refine lv_bipush (v := 9) hx hb dL_isRound_157 (by decide) ?_
                    refine lv_icmp_ge (tgt := 420) hx hb dL_isRound_159 (by decide) (fun c_6 => ?_) (fun c_6 => ?_)
                    · obtain rfl : k_155 = 9 := by have := (nI_leI (a := 9) (by decide) (by omega)).mp c_6; omega
                      refine lv_iload hx hb dL_isRound_420 (lv_at hl 1 rfl) ?_
                      refine lv_if_eq (tgt := 438) hx hb dL_isRound_422 (by decide) (fun c_7 => ?_) (fun c_7 => ?_)
                      · exact absurd c_7 (by decide)
                      · refine lv_iload hx hb dL_isRound_425 (lv_at hl 2 rfl) ?_
                        refine lv_iconst (v := 2) hx hb dL_isRound_427 (by decide) ?_
                        refine lv_iload hx hb dL_isRound_428 (lv_at hl 3 rfl) ?_
                        refine lv_imul hx hb dL_isRound_430 ?_
                        refine lv_icmp_ne (tgt := 438) hx hb dL_isRound_431 (by decide) (fun c_8 => ?_) (fun c_8 => ?_)
                        · exact absurd c_8 (fun q => q (cis_9 S v))
                        · refine lv_iconst (v := 1) hx hb dL_isRound_434 (by decide) ?_
                          refine lv_goto (tgt := 439) hx hb dL_isRound_435 (by decide) ?_
                          have hP9 : va_P D vwCl (wX x r tr pp h sl ++ (wR Y r q (RS S v) ++ (wP Y pp tx P ++ wHi Y h sa (D_X0_remember u S)))) H := vP_l (wr := wI Y a_2 9 (fillS (S 1) 9) ++ (wI Y a_7 9 (fillS (S 3) 9) ++ wI Y a_12 9 (fillS (S 4) 9))) (vP_perm (pl_cons (List.Perm.refl _) (pl_cons (List.Perm.refl _) (pl_cons (List.Perm.refl _) (List.Perm.refl _)))) hP)
                          have hD9 : va_D A (wX x r tr pp h sl ++ (wR Y r q (RS S v) ++ (wP Y pp tx P ++ wHi Y h sa (D_X0_remember u S)))) := vD_l (wr := wI Y a_2 9 (fillS (S 1) 9) ++ (wI Y a_7 9 (fillS (S 3) 9) ++ wI Y a_12 9 (fillS (S 4) 9))) (vD_perm (pl_cons (List.Perm.refl _) (pl_cons (List.Perm.refl _) (pl_cons (List.Perm.refl _) (List.Perm.refl _)))) hD)
                          exact ret_z hx hb hr rfl hlk hP9 hD9 hS dL_isRound_439 ⟨Nat.le_of_ble_eq_true rfl, Nat.le_of_ble_eq_true rfl⟩ ⟨rfl, rfl⟩
                    · have hk_155 : k_155 < 9 := my_lt rfl (show (9 : Int32) = nI 9 from rfl) (by decide) hkN c_6
                      have join_223_j_9 : ∀ (H : Heap) (locs : List Loc) (ls : Array Slot), va_P D vwCl (wX x r tr pp h sl ++ (wR Y r q (RS S v) ++ (wP Y pp tx P ++ (wHi Y h sa (D_X0_remember u S) ++ (wI Y a_2 9 (fillS (S 1) 9) ++ (wI Y a_7 9 (fillS (S 3) 9) ++ wI Y a_12 9 (fillS (S 4) 9))))))) H → va_D A (wX x r tr pp h sl ++ (wR Y r q (RS S v) ++ (wP Y pp tx P ++ (wHi Y h sa (D_X0_remember u S) ++ (wI Y a_2 9 (fillS (S 1) 9) ++ (wI Y a_7 9 (fillS (S 3) 9) ++ wI Y a_12 9 (fillS (S 4) 9))))))) → va_S A s.heap H locs → lv_has ls 16 [(13, .int (ptv v k_155)), (14, .int (nI (ci S (v % 9) k_155))), (12, .int (nI k_155)), (11, .int 1), (10, .int (nI (cis S (v % 9) k_155))), (9, .int (nI (pc S (v % 9) 9))), (8, .int (S 10 1)), (7, .int (sm (S 7) 81)), (6, .int (S 0 1)), (5, .int (S 0 0)), (4, .ref a_12), (3, .ref a_7), (2, .ref a_2), (0, .ref x), (1, .int (nI v))] → W p l e ({ frames := 6, cells := 3, slots := 27, locals := 192 } : Room) s m ([.ref x, .int (nI v)] : List Value).toArray below meth c H locs 3 27 (MQ below (Qsi D (fun r9 w9 => r9 = 1 ∧ w9 = wX x r tr pp h sl ++ (wR Y r q (RS S v) ++ (wP Y pp tx P ++ wHi Y h sa (D_X0_remember u S)))) A) ([.ref x, .int (nI v)] : List Value).toArray s 3 27 A) (F0 m 223 ls []) := by
                        intro H locs ls hP hD hS hl
                        have join_249_j_10 : ∀ (H : Heap) (locs : List Loc) (ls : Array Slot), va_P D vwCl (wX x r tr pp h sl ++ (wR Y r q (RS S v) ++ (wP Y pp tx P ++ (wHi Y h sa (D_X0_remember u S) ++ (wI Y a_2 9 (fillS (S 1) 9) ++ (wI Y a_7 9 (fillS (S 3) 9) ++ wI Y a_12 9 (fillS (S 4) 9))))))) H → va_D A (wX x r tr pp h sl ++ (wR Y r q (RS S v) ++ (wP Y pp tx P ++ (wHi Y h sa (D_X0_remember u S) ++ (wI Y a_2 9 (fillS (S 1) 9) ++ (wI Y a_7 9 (fillS (S 3) 9) ++ wI Y a_12 9 (fillS (S 4) 9))))))) → va_S A s.heap H locs → lv_has ls 16 [(15, .int (mn S k_155)), (13, .int (ptv v k_155)), (14, .int (nI (ci S (v % 9) k_155))), (12, .int (nI k_155)), (11, .int 1), (10, .int (nI (cis S (v % 9) k_155))), (9, .int (nI (pc S (v % 9) 9))), (8, .int (S 10 1)), (7, .int (sm (S 7) 81)), (6, .int (S 0 1)), (5, .int (S 0 0)), (4, .ref a_12), (3, .ref a_7), (2, .ref a_2), (0, .ref x), (1, .int (nI v))] → W p l e ({ frames := 6, cells := 3, slots := 27, locals := 192 } : Room) s m ([.ref x, .int (nI v)] : List Value).toArray below meth c H locs 3 27 (MQ below (Qsi D (fun r9 w9 => r9 = 1 ∧ w9 = wX x r tr pp h sl ++ (wR Y r q (RS S v) ++ (wP Y pp tx P ++ wHi Y h sa (D_X0_remember u S)))) A) ([.ref x, .int (nI v)] : List Value).toArray s 3 27 A) (F0 m 249 ls []) := by
                          intro H locs ls hP hD hS hl
                          refine lv_iload hx hb dL_isRound_249 (lv_at hl 5 rfl) ?_
                          refine lv_iload hx hb dL_isRound_251 (lv_at hl 2 rfl) ?_
                          refine lv_if_eq (tgt := 260) hx hb dL_isRound_253 (by decide) (fun c_11 => ?_) (fun c_11 => ?_)
                          · refine lv_iconst (v := 0) hx hb dL_isRound_260 (by decide) ?_
                            refine lv_iadd hx hb dL_isRound_261 ?_
                            refine lv_istore (lv' := [(10, .int ((nI (cis S (v % 9) k_155)) + 0)), (15, .int (mn S k_155)), (13, .int (ptv v k_155)), (14, .int (nI (ci S (v % 9) k_155))), (12, .int (nI k_155)), (11, .int 1), (9, .int (nI (pc S (v % 9) 9))), (8, .int (S 10 1)), (7, .int (sm (S 7) 81)), (6, .int (S 0 1)), (5, .int (S 0 0)), (4, .ref a_12), (3, .ref a_7), (2, .ref a_2), (0, .ref x), (1, .int (nI v))]) hx hb dL_isRound_262 hl (by decide) rfl (fun ls hl => ?_)
                            refine lv_iload hx hb dL_isRound_264 (lv_at hl 5 rfl) ?_
                            refine lv_if_eq (tgt := 380) hx hb dL_isRound_266 (by decide) (fun c_12 => ?_) (fun c_12 => ?_)
                            · exact absurd c_12 (by decide)
                            · refine lv_aload_n hx hb dL_isRound_269 rfl (lv_at hl 14 rfl) ?_
                              refine lv_iload hx hb dL_isRound_270 (lv_at hl 4 rfl) ?_
                              refine lv_iconst (v := 3) hx hb dL_isRound_272 (by decide) ?_
                              refine cb_iD (wr := wP Y pp tx P ++ (wHi Y h sa (D_X0_remember u S) ++ (wI Y a_2 9 (fillS (S 1) 9) ++ (wI Y a_7 9 (fillS (S 3) 9) ++ wI Y a_12 9 (fillS (S 4) 9))))) (ws' := wX x r tr pp h sl ++ (wR Y r q (RS S v) ++ (wP Y pp tx P ++ (wHi Y h sa (D_X0_remember u S) ++ (wI Y a_2 9 (fillS (S 1) 9) ++ (wI Y a_7 9 (fillS (S 3) 9) ++ wI Y a_12 9 (fillS (S 4) 9))))))) (va_runV (As := [.int (nI k_155), .int 3]) (rest := []) ⟨hx, hb, hml, hown, hts⟩ (c_X3_villager l D Y H.size r tr pp h sl q (RS S v) x (nI k_155) 3) (cwV 2 hts gL_isRound_X3_villager rfl rfl rfl (by decide +kernel) ⟨Nat.le_of_ble_eq_true rfl, Nat.le_of_ble_eq_true rfl⟩) (psb_V (wr := wP Y pp tx P ++ (wHi Y h sa (D_X0_remember u S) ++ (wI Y a_2 9 (fillS (S 1) 9) ++ (wI Y a_7 9 (fillS (S 3) 9) ++ wI Y a_12 9 (fillS (S 4) 9))))) hK hP hD (pl_cons (List.Perm.refl _) (List.Perm.refl _)) (q0 := 0) rfl rfl) rfl rfl hl.1 rfl (lv_room (Nat.le_of_ble_eq_true rfl)) dL_isRound_273 ⟨Nat.le_of_ble_eq_true rfl, Nat.le_of_ble_eq_true rfl⟩) hP hD hS hA (pl_cons (List.Perm.refl _) (List.Perm.refl _)) (pl_cons (List.Perm.refl _) (List.Perm.refl _)) (fun H locs hP hD hS => ?_)
                              refine W.widen (k := 3) (n := 27) (Nat.le_of_ble_eq_true rfl) (Nat.le_of_ble_eq_true rfl) ?_
                              refine lv_topi (fun y9 e9 => ?_)
                              obtain rfl : y9 = (RS S v) 3 k_155 := e9.trans (vi_3 _ hk_155)
                              refine lv_aload_n hx hb dL_isRound_276 rfl (lv_at hl 12 rfl) ?_
                              refine lv_iload hx hb dL_isRound_277 (lv_at hl 4 rfl) ?_
                              refine va_iald (D := D) hx hb hK.1 hP 83 0 rfl rfl (vp_in_nI hk_155 (by decide)) dL_isRound_279 ?_
                              refine lv_topi (fun y9 e9 => ?_)
                              obtain rfl : y9 = S 3 k_155 := e9.trans (fill_at hk_155)
                              refine lv_iload hx hb dL_isRound_280 (lv_at hl 3 rfl) ?_
                              refine lv_if_eq (tgt := 289) hx hb dL_isRound_282 (by decide) (fun c_13 => ?_) (fun c_13 => ?_)
                              · refine lv_iconst (v := 0) hx hb dL_isRound_289 (by decide) ?_
                                refine lv_iadd hx hb dL_isRound_290 ?_
                                refine lv_icmp_ne (tgt := 380) hx hb dL_isRound_291 (by decide) (fun c_14 => ?_) (fun c_14 => ?_)
                                · exact absurd c_14 (fun q => q (rd_n hk_155 c_11))
                                · refine lv_aload_n hx hb dL_isRound_294 rfl (lv_at hl 14 rfl) ?_
                                  refine lv_iload hx hb dL_isRound_295 (lv_at hl 4 rfl) ?_
                                  refine lv_iconst (v := 4) hx hb dL_isRound_297 (by decide) ?_
                                  refine cb_iD (wr := wP Y pp tx P ++ (wHi Y h sa (D_X0_remember u S) ++ (wI Y a_2 9 (fillS (S 1) 9) ++ (wI Y a_7 9 (fillS (S 3) 9) ++ wI Y a_12 9 (fillS (S 4) 9))))) (ws' := wX x r tr pp h sl ++ (wR Y r q (RS S v) ++ (wP Y pp tx P ++ (wHi Y h sa (D_X0_remember u S) ++ (wI Y a_2 9 (fillS (S 1) 9) ++ (wI Y a_7 9 (fillS (S 3) 9) ++ wI Y a_12 9 (fillS (S 4) 9))))))) (va_runV (As := [.int (nI k_155), .int 4]) (rest := []) ⟨hx, hb, hml, hown, hts⟩ (c_X3_villager l D Y H.size r tr pp h sl q (RS S v) x (nI k_155) 4) (cwV 2 hts gL_isRound_X3_villager rfl rfl rfl (by decide +kernel) ⟨Nat.le_of_ble_eq_true rfl, Nat.le_of_ble_eq_true rfl⟩) (psb_V (wr := wP Y pp tx P ++ (wHi Y h sa (D_X0_remember u S) ++ (wI Y a_2 9 (fillS (S 1) 9) ++ (wI Y a_7 9 (fillS (S 3) 9) ++ wI Y a_12 9 (fillS (S 4) 9))))) hK hP hD (pl_cons (List.Perm.refl _) (List.Perm.refl _)) (q0 := 0) rfl rfl) rfl rfl hl.1 rfl (lv_room (Nat.le_of_ble_eq_true rfl)) dL_isRound_298 ⟨Nat.le_of_ble_eq_true rfl, Nat.le_of_ble_eq_true rfl⟩) hP hD hS hA (pl_cons (List.Perm.refl _) (List.Perm.refl _)) (pl_cons (List.Perm.refl _) (List.Perm.refl _)) (fun H locs hP hD hS => ?_)
                                  refine W.widen (k := 3) (n := 27) (Nat.le_of_ble_eq_true rfl) (Nat.le_of_ble_eq_true rfl) ?_
                                  refine lv_topi (fun y9 e9 => ?_)
                                  obtain rfl : y9 = (RS S v) 4 k_155 := e9.trans (vi_4 _ hk_155)
                                  refine lv_aload hx hb dL_isRound_301 (lv_at hl 11 rfl) ?_
                                  refine lv_iload hx hb dL_isRound_303 (lv_at hl 4 rfl) ?_
                                  refine va_iald (D := D) hx hb hK.1 hP 84 0 rfl rfl (vp_in_nI hk_155 (by decide)) dL_isRound_305 ?_
                                  refine lv_topi (fun y9 e9 => ?_)
                                  obtain rfl : y9 = S 4 k_155 := e9.trans (fill_at hk_155)
                                  refine lv_iload hx hb dL_isRound_306 (lv_at hl 3 rfl) ?_
                                  refine lv_if_ne (tgt := 326) hx hb dL_isRound_308 (by decide) (fun c_15 => ?_) (fun c_15 => ?_)
                                  · exact absurd c_15 (fun q => q (c_11))
                                  · refine lv_aload_n hx hb dL_isRound_311 rfl (lv_at hl 14 rfl) ?_
                                    refine lv_iload hx hb dL_isRound_312 (lv_at hl 4 rfl) ?_
                                    refine lv_iconst (v := 0) hx hb dL_isRound_314 (by decide) ?_
                                    refine cb_iD (wr := wP Y pp tx P ++ (wHi Y h sa (D_X0_remember u S) ++ (wI Y a_2 9 (fillS (S 1) 9) ++ (wI Y a_7 9 (fillS (S 3) 9) ++ wI Y a_12 9 (fillS (S 4) 9))))) (ws' := wX x r tr pp h sl ++ (wR Y r q (RS S v) ++ (wP Y pp tx P ++ (wHi Y h sa (D_X0_remember u S) ++ (wI Y a_2 9 (fillS (S 1) 9) ++ (wI Y a_7 9 (fillS (S 3) 9) ++ wI Y a_12 9 (fillS (S 4) 9))))))) (va_runV (As := [.int (nI k_155), .int 0]) (rest := [.int (S 4 k_155), .int ((RS S v) 4 k_155)]) ⟨hx, hb, hml, hown, hts⟩ (c_X3_villager l D Y H.size r tr pp h sl q (RS S v) x (nI k_155) 0) (cwV 2 hts gL_isRound_X3_villager rfl rfl rfl (by decide +kernel) ⟨Nat.le_of_ble_eq_true rfl, Nat.le_of_ble_eq_true rfl⟩) (psb_V (wr := wP Y pp tx P ++ (wHi Y h sa (D_X0_remember u S) ++ (wI Y a_2 9 (fillS (S 1) 9) ++ (wI Y a_7 9 (fillS (S 3) 9) ++ wI Y a_12 9 (fillS (S 4) 9))))) hK hP hD (pl_cons (List.Perm.refl _) (List.Perm.refl _)) (q0 := 0) rfl rfl) rfl rfl hl.1 rfl (lv_room (Nat.le_of_ble_eq_true rfl)) dL_isRound_315 ⟨Nat.le_of_ble_eq_true rfl, Nat.le_of_ble_eq_true rfl⟩) hP hD hS hA (pl_cons (List.Perm.refl _) (List.Perm.refl _)) (pl_cons (List.Perm.refl _) (List.Perm.refl _)) (fun H locs hP hD hS => ?_)
                                    refine W.widen (k := 3) (n := 27) (Nat.le_of_ble_eq_true rfl) (Nat.le_of_ble_eq_true rfl) ?_
                                    refine lv_topi (fun y9 e9 => ?_)
                                    obtain rfl : y9 = D_X2_isThere S (nI k_155) := e9.trans (vi_0R S v hk_155)
                                    refine lv_iconst (v := 1) hx hb dL_isRound_318 (by decide) ?_
                                    refine lv_icmp_ne (tgt := 326) hx hb dL_isRound_319 (by decide) (fun c_16 => ?_) (fun c_16 => ?_)
                                    · refine lv_iconst (v := 0) hx hb dL_isRound_326 (by decide) ?_
                                      refine lv_iadd hx hb dL_isRound_327 ?_
                                      refine lv_icmp_ne (tgt := 380) hx hb dL_isRound_328 (by decide) (fun c_17 => ?_) (fun c_17 => ?_)
                                      · exact absurd c_17 (fun q => q (rr_n hk_155 c_11 c_16))
                                      · refine lv_aload_n hx hb dL_isRound_331 rfl (lv_at hl 14 rfl) ?_
                                        refine lv_iload hx hb dL_isRound_332 (lv_at hl 4 rfl) ?_
                                        refine lv_iconst (v := 1) hx hb dL_isRound_334 (by decide) ?_
                                        refine cb_iD (wr := wP Y pp tx P ++ (wHi Y h sa (D_X0_remember u S) ++ (wI Y a_2 9 (fillS (S 1) 9) ++ (wI Y a_7 9 (fillS (S 3) 9) ++ wI Y a_12 9 (fillS (S 4) 9))))) (ws' := wX x r tr pp h sl ++ (wR Y r q (RS S v) ++ (wP Y pp tx P ++ (wHi Y h sa (D_X0_remember u S) ++ (wI Y a_2 9 (fillS (S 1) 9) ++ (wI Y a_7 9 (fillS (S 3) 9) ++ wI Y a_12 9 (fillS (S 4) 9))))))) (va_runV (As := [.int (nI k_155), .int 1]) (rest := []) ⟨hx, hb, hml, hown, hts⟩ (c_X3_villager l D Y H.size r tr pp h sl q (RS S v) x (nI k_155) 1) (cwV 2 hts gL_isRound_X3_villager rfl rfl rfl (by decide +kernel) ⟨Nat.le_of_ble_eq_true rfl, Nat.le_of_ble_eq_true rfl⟩) (psb_V (wr := wP Y pp tx P ++ (wHi Y h sa (D_X0_remember u S) ++ (wI Y a_2 9 (fillS (S 1) 9) ++ (wI Y a_7 9 (fillS (S 3) 9) ++ wI Y a_12 9 (fillS (S 4) 9))))) hK hP hD (pl_cons (List.Perm.refl _) (List.Perm.refl _)) (q0 := 0) rfl rfl) rfl rfl hl.1 rfl (lv_room (Nat.le_of_ble_eq_true rfl)) dL_isRound_335 ⟨Nat.le_of_ble_eq_true rfl, Nat.le_of_ble_eq_true rfl⟩) hP hD hS hA (pl_cons (List.Perm.refl _) (List.Perm.refl _)) (pl_cons (List.Perm.refl _) (List.Perm.refl _)) (fun H locs hP hD hS => ?_)
                                        refine W.widen (k := 3) (n := 27) (Nat.le_of_ble_eq_true rfl) (Nat.le_of_ble_eq_true rfl) ?_
                                        refine lv_topi (fun y9 e9 => ?_)
                                        obtain rfl : y9 = (RS S v) 1 k_155 := e9.trans (vi_1 _ hk_155)
                                        refine lv_iload hx hb dL_isRound_338 (lv_at hl 3 rfl) ?_
                                        refine lv_if_eq (tgt := 353) hx hb dL_isRound_340 (by decide) (fun c_18 => ?_) (fun c_18 => ?_)
                                        · refine lv_aload_n hx hb dL_isRound_353 rfl (lv_at hl 14 rfl) ?_
                                          refine lv_iload hx hb dL_isRound_354 (lv_at hl 4 rfl) ?_
                                          refine lv_iconst (v := 0) hx hb dL_isRound_356 (by decide) ?_
                                          refine cb_iD (wr := wP Y pp tx P ++ (wHi Y h sa (D_X0_remember u S) ++ (wI Y a_2 9 (fillS (S 1) 9) ++ (wI Y a_7 9 (fillS (S 3) 9) ++ wI Y a_12 9 (fillS (S 4) 9))))) (ws' := wX x r tr pp h sl ++ (wR Y r q (RS S v) ++ (wP Y pp tx P ++ (wHi Y h sa (D_X0_remember u S) ++ (wI Y a_2 9 (fillS (S 1) 9) ++ (wI Y a_7 9 (fillS (S 3) 9) ++ wI Y a_12 9 (fillS (S 4) 9))))))) (va_runV (As := [.int (nI k_155), .int 0]) (rest := [.int ((RS S v) 1 k_155)]) ⟨hx, hb, hml, hown, hts⟩ (c_X3_villager l D Y H.size r tr pp h sl q (RS S v) x (nI k_155) 0) (cwV 2 hts gL_isRound_X3_villager rfl rfl rfl (by decide +kernel) ⟨Nat.le_of_ble_eq_true rfl, Nat.le_of_ble_eq_true rfl⟩) (psb_V (wr := wP Y pp tx P ++ (wHi Y h sa (D_X0_remember u S) ++ (wI Y a_2 9 (fillS (S 1) 9) ++ (wI Y a_7 9 (fillS (S 3) 9) ++ wI Y a_12 9 (fillS (S 4) 9))))) hK hP hD (pl_cons (List.Perm.refl _) (List.Perm.refl _)) (q0 := 0) rfl rfl) rfl rfl hl.1 rfl (lv_room (Nat.le_of_ble_eq_true rfl)) dL_isRound_357 ⟨Nat.le_of_ble_eq_true rfl, Nat.le_of_ble_eq_true rfl⟩) hP hD hS hA (pl_cons (List.Perm.refl _) (List.Perm.refl _)) (pl_cons (List.Perm.refl _) (List.Perm.refl _)) (fun H locs hP hD hS => ?_)
                                          refine W.widen (k := 3) (n := 27) (Nat.le_of_ble_eq_true rfl) (Nat.le_of_ble_eq_true rfl) ?_
                                          refine lv_topi (fun y9 e9 => ?_)
                                          obtain rfl : y9 = D_X2_isThere S (nI k_155) := e9.trans (vi_0R S v hk_155)
                                          refine lv_iconst (v := 1) hx hb dL_isRound_360 (by decide) ?_
                                          refine lv_icmp_ne (tgt := 369) hx hb dL_isRound_361 (by decide) (fun c_19 => ?_) (fun c_19 => ?_)
                                          · refine lv_aload_n hx hb dL_isRound_369 rfl (lv_at hl 13 rfl) ?_
                                            refine lv_iload hx hb dL_isRound_370 (lv_at hl 4 rfl) ?_
                                            refine va_iald (D := D) hx hb hK.1 hP 82 0 rfl rfl (vp_in_nI hk_155 (by decide)) dL_isRound_372 ?_
                                            refine lv_topi (fun y9 e9 => ?_)
                                            obtain rfl : y9 = S 1 k_155 := e9.trans (fill_at hk_155)
                                            refine lv_icmp_ne (tgt := 380) hx hb dL_isRound_373 (by decide) (fun c_20 => ?_) (fun c_20 => ?_)
                                            · exact absurd c_20 (fun q => q (rs_n hk_155 c_11 c_16))
                                            · refine lv_iconst (v := 1) hx hb dL_isRound_376 (by decide) ?_
                                              refine lv_goto (tgt := 381) hx hb dL_isRound_377 (by decide) ?_
                                              refine lv_istore (lv' := [(11, .int 1), (10, .int ((nI (cis S (v % 9) k_155)) + 0)), (15, .int (mn S k_155)), (13, .int (ptv v k_155)), (14, .int (nI (ci S (v % 9) k_155))), (12, .int (nI k_155)), (9, .int (nI (pc S (v % 9) 9))), (8, .int (S 10 1)), (7, .int (sm (S 7) 81)), (6, .int (S 0 1)), (5, .int (S 0 0)), (4, .ref a_12), (3, .ref a_7), (2, .ref a_2), (0, .ref x), (1, .int (nI v))]) hx hb dL_isRound_381 hl (by decide) rfl (fun ls hl => ?_)
                                              refine lv_iload hx hb dL_isRound_383 (lv_at hl 0 rfl) ?_
                                              refine lv_if_eq (tgt := 411) hx hb dL_isRound_385 (by decide) (fun c_21 => ?_) (fun c_21 => ?_)
                                              · exact absurd c_21 (by decide)
                                              · refine lv_iload hx hb dL_isRound_388 (lv_at hl 4 rfl) ?_
                                                refine lv_if_eq (tgt := 407) hx hb dL_isRound_390 (by decide) (fun c_22 => ?_) (fun c_22 => ?_)
                                                · refine lv_iconst (v := 1) hx hb dL_isRound_407 (by decide) ?_
                                                  refine lv_goto (tgt := 412) hx hb dL_isRound_408 (by decide) ?_
                                                  refine lv_istore (lv' := [(11, .int 1), (10, .int ((nI (cis S (v % 9) k_155)) + 0)), (15, .int (mn S k_155)), (13, .int (ptv v k_155)), (14, .int (nI (ci S (v % 9) k_155))), (12, .int (nI k_155)), (9, .int (nI (pc S (v % 9) 9))), (8, .int (S 10 1)), (7, .int (sm (S 7) 81)), (6, .int (S 0 1)), (5, .int (S 0 0)), (4, .ref a_12), (3, .ref a_7), (2, .ref a_2), (0, .ref x), (1, .int (nI v))]) hx hb dL_isRound_412 hl (by decide) rfl (fun ls hl => ?_)
                                                  refine lv_iinc (v := (nI k_155) + 1) (lv' := [(12, .int ((nI k_155) + 1)), (11, .int 1), (10, .int ((nI (cis S (v % 9) k_155)) + 0)), (15, .int (mn S k_155)), (13, .int (ptv v k_155)), (14, .int (nI (ci S (v % 9) k_155))), (9, .int (nI (pc S (v % 9) 9))), (8, .int (S 10 1)), (7, .int (sm (S 7) 81)), (6, .int (S 0 1)), (5, .int (S 0 0)), (4, .ref a_12), (3, .ref a_7), (2, .ref a_2), (0, .ref x), (1, .int (nI v))]) hx hb dL_isRound_414 hl (k := 5) rfl rfl (by decide) rfl (fun ls hl => ?_)
                                                  refine lv_goto (tgt := 155) hx hb dL_isRound_417 (by decide) ?_
                                                  have el_12 : nI (k_155 + 1) = (nI k_155) + 1 := (nI_1 k_155).symm
                                                  have el_10 : nI (cis S (v % 9) (k_155 + 1)) = (nI (cis S (v % 9) k_155)) + 0 := cis_n c_11
                                                  have hl : lv_has ls 16 [(12, .int (nI (k_155 + 1))), (11, .int 1), (10, .int (nI (cis S (v % 9) (k_155 + 1)))), (9, .int (nI (pc S (v % 9) 9))), (8, .int (S 10 1)), (7, .int (sm (S 7) 81)), (6, .int (S 0 1)), (5, .int (S 0 0)), (4, .ref a_12), (3, .ref a_7), (2, .ref a_2), (0, .ref x), (1, .int (nI v))] := by rw [el_12, el_10]; exact lv_sub hl [0, 1, 2, 6, 7, 8, 9, 10, 11, 12, 13, 14, 15] rfl
                                                  exact ih_155 (k_155 + 1) _ _ _ (by omega) (by omega) hP hD hS hl
                                                · exact absurd c_22 (fun q => q (c_11))
                                          · exact absurd c_19 (c_16)
                                        · exact absurd c_18 (fun q => q (c_11))
                                    · refine lv_iconst (v := 1) hx hb dL_isRound_322 (by decide) ?_
                                      refine lv_goto (tgt := 327) hx hb dL_isRound_323 (by decide) ?_
                                      refine lv_iadd hx hb dL_isRound_327 ?_
                                      refine lv_icmp_ne (tgt := 380) hx hb dL_isRound_328 (by decide) (fun c_23 => ?_) (fun c_23 => ?_)
                                      · exact absurd c_23 (fun q => q (rr_t hk_155 c_11 c_16))
                                      · refine lv_aload_n hx hb dL_isRound_331 rfl (lv_at hl 14 rfl) ?_
                                        refine lv_iload hx hb dL_isRound_332 (lv_at hl 4 rfl) ?_
                                        refine lv_iconst (v := 1) hx hb dL_isRound_334 (by decide) ?_
                                        refine cb_iD (wr := wP Y pp tx P ++ (wHi Y h sa (D_X0_remember u S) ++ (wI Y a_2 9 (fillS (S 1) 9) ++ (wI Y a_7 9 (fillS (S 3) 9) ++ wI Y a_12 9 (fillS (S 4) 9))))) (ws' := wX x r tr pp h sl ++ (wR Y r q (RS S v) ++ (wP Y pp tx P ++ (wHi Y h sa (D_X0_remember u S) ++ (wI Y a_2 9 (fillS (S 1) 9) ++ (wI Y a_7 9 (fillS (S 3) 9) ++ wI Y a_12 9 (fillS (S 4) 9))))))) (va_runV (As := [.int (nI k_155), .int 1]) (rest := []) ⟨hx, hb, hml, hown, hts⟩ (c_X3_villager l D Y H.size r tr pp h sl q (RS S v) x (nI k_155) 1) (cwV 2 hts gL_isRound_X3_villager rfl rfl rfl (by decide +kernel) ⟨Nat.le_of_ble_eq_true rfl, Nat.le_of_ble_eq_true rfl⟩) (psb_V (wr := wP Y pp tx P ++ (wHi Y h sa (D_X0_remember u S) ++ (wI Y a_2 9 (fillS (S 1) 9) ++ (wI Y a_7 9 (fillS (S 3) 9) ++ wI Y a_12 9 (fillS (S 4) 9))))) hK hP hD (pl_cons (List.Perm.refl _) (List.Perm.refl _)) (q0 := 0) rfl rfl) rfl rfl hl.1 rfl (lv_room (Nat.le_of_ble_eq_true rfl)) dL_isRound_335 ⟨Nat.le_of_ble_eq_true rfl, Nat.le_of_ble_eq_true rfl⟩) hP hD hS hA (pl_cons (List.Perm.refl _) (List.Perm.refl _)) (pl_cons (List.Perm.refl _) (List.Perm.refl _)) (fun H locs hP hD hS => ?_)
                                        refine W.widen (k := 3) (n := 27) (Nat.le_of_ble_eq_true rfl) (Nat.le_of_ble_eq_true rfl) ?_
                                        refine lv_topi (fun y9 e9 => ?_)
                                        obtain rfl : y9 = (RS S v) 1 k_155 := e9.trans (vi_1 _ hk_155)
                                        refine lv_iload hx hb dL_isRound_338 (lv_at hl 3 rfl) ?_
                                        refine lv_if_eq (tgt := 353) hx hb dL_isRound_340 (by decide) (fun c_24 => ?_) (fun c_24 => ?_)
                                        · refine lv_aload_n hx hb dL_isRound_353 rfl (lv_at hl 14 rfl) ?_
                                          refine lv_iload hx hb dL_isRound_354 (lv_at hl 4 rfl) ?_
                                          refine lv_iconst (v := 0) hx hb dL_isRound_356 (by decide) ?_
                                          refine cb_iD (wr := wP Y pp tx P ++ (wHi Y h sa (D_X0_remember u S) ++ (wI Y a_2 9 (fillS (S 1) 9) ++ (wI Y a_7 9 (fillS (S 3) 9) ++ wI Y a_12 9 (fillS (S 4) 9))))) (ws' := wX x r tr pp h sl ++ (wR Y r q (RS S v) ++ (wP Y pp tx P ++ (wHi Y h sa (D_X0_remember u S) ++ (wI Y a_2 9 (fillS (S 1) 9) ++ (wI Y a_7 9 (fillS (S 3) 9) ++ wI Y a_12 9 (fillS (S 4) 9))))))) (va_runV (As := [.int (nI k_155), .int 0]) (rest := [.int ((RS S v) 1 k_155)]) ⟨hx, hb, hml, hown, hts⟩ (c_X3_villager l D Y H.size r tr pp h sl q (RS S v) x (nI k_155) 0) (cwV 2 hts gL_isRound_X3_villager rfl rfl rfl (by decide +kernel) ⟨Nat.le_of_ble_eq_true rfl, Nat.le_of_ble_eq_true rfl⟩) (psb_V (wr := wP Y pp tx P ++ (wHi Y h sa (D_X0_remember u S) ++ (wI Y a_2 9 (fillS (S 1) 9) ++ (wI Y a_7 9 (fillS (S 3) 9) ++ wI Y a_12 9 (fillS (S 4) 9))))) hK hP hD (pl_cons (List.Perm.refl _) (List.Perm.refl _)) (q0 := 0) rfl rfl) rfl rfl hl.1 rfl (lv_room (Nat.le_of_ble_eq_true rfl)) dL_isRound_357 ⟨Nat.le_of_ble_eq_true rfl, Nat.le_of_ble_eq_true rfl⟩) hP hD hS hA (pl_cons (List.Perm.refl _) (List.Perm.refl _)) (pl_cons (List.Perm.refl _) (List.Perm.refl _)) (fun H locs hP hD hS => ?_)
                                          refine W.widen (k := 3) (n := 27) (Nat.le_of_ble_eq_true rfl) (Nat.le_of_ble_eq_true rfl) ?_
                                          refine lv_topi (fun y9 e9 => ?_)
                                          obtain rfl : y9 = D_X2_isThere S (nI k_155) := e9.trans (vi_0R S v hk_155)
                                          refine lv_iconst (v := 1) hx hb dL_isRound_360 (by decide) ?_
                                          refine lv_icmp_ne (tgt := 369) hx hb dL_isRound_361 (by decide) (fun c_25 => ?_) (fun c_25 => ?_)
                                          · exact absurd c_25 (fun q => q (c_16))
                                          · refine lv_iload hx hb dL_isRound_364 (lv_at hl 1 rfl) ?_
                                            refine lv_goto (tgt := 373) hx hb dL_isRound_366 (by decide) ?_
                                            refine lv_icmp_ne (tgt := 380) hx hb dL_isRound_373 (by decide) (fun c_26 => ?_) (fun c_26 => ?_)
                                            · exact absurd c_26 (fun q => q (rs_t hk_155 c_11 c_16))
                                            · refine lv_iconst (v := 1) hx hb dL_isRound_376 (by decide) ?_
                                              refine lv_goto (tgt := 381) hx hb dL_isRound_377 (by decide) ?_
                                              refine lv_istore (lv' := [(11, .int 1), (10, .int ((nI (cis S (v % 9) k_155)) + 0)), (15, .int (mn S k_155)), (13, .int (ptv v k_155)), (14, .int (nI (ci S (v % 9) k_155))), (12, .int (nI k_155)), (9, .int (nI (pc S (v % 9) 9))), (8, .int (S 10 1)), (7, .int (sm (S 7) 81)), (6, .int (S 0 1)), (5, .int (S 0 0)), (4, .ref a_12), (3, .ref a_7), (2, .ref a_2), (0, .ref x), (1, .int (nI v))]) hx hb dL_isRound_381 hl (by decide) rfl (fun ls hl => ?_)
                                              refine lv_iload hx hb dL_isRound_383 (lv_at hl 0 rfl) ?_
                                              refine lv_if_eq (tgt := 411) hx hb dL_isRound_385 (by decide) (fun c_27 => ?_) (fun c_27 => ?_)
                                              · exact absurd c_27 (by decide)
                                              · refine lv_iload hx hb dL_isRound_388 (lv_at hl 4 rfl) ?_
                                                refine lv_if_eq (tgt := 407) hx hb dL_isRound_390 (by decide) (fun c_28 => ?_) (fun c_28 => ?_)
                                                · refine lv_iconst (v := 1) hx hb dL_isRound_407 (by decide) ?_
                                                  refine lv_goto (tgt := 412) hx hb dL_isRound_408 (by decide) ?_
                                                  refine lv_istore (lv' := [(11, .int 1), (10, .int ((nI (cis S (v % 9) k_155)) + 0)), (15, .int (mn S k_155)), (13, .int (ptv v k_155)), (14, .int (nI (ci S (v % 9) k_155))), (12, .int (nI k_155)), (9, .int (nI (pc S (v % 9) 9))), (8, .int (S 10 1)), (7, .int (sm (S 7) 81)), (6, .int (S 0 1)), (5, .int (S 0 0)), (4, .ref a_12), (3, .ref a_7), (2, .ref a_2), (0, .ref x), (1, .int (nI v))]) hx hb dL_isRound_412 hl (by decide) rfl (fun ls hl => ?_)
                                                  refine lv_iinc (v := (nI k_155) + 1) (lv' := [(12, .int ((nI k_155) + 1)), (11, .int 1), (10, .int ((nI (cis S (v % 9) k_155)) + 0)), (15, .int (mn S k_155)), (13, .int (ptv v k_155)), (14, .int (nI (ci S (v % 9) k_155))), (9, .int (nI (pc S (v % 9) 9))), (8, .int (S 10 1)), (7, .int (sm (S 7) 81)), (6, .int (S 0 1)), (5, .int (S 0 0)), (4, .ref a_12), (3, .ref a_7), (2, .ref a_2), (0, .ref x), (1, .int (nI v))]) hx hb dL_isRound_414 hl (k := 5) rfl rfl (by decide) rfl (fun ls hl => ?_)
                                                  refine lv_goto (tgt := 155) hx hb dL_isRound_417 (by decide) ?_
                                                  have el_12 : nI (k_155 + 1) = (nI k_155) + 1 := (nI_1 k_155).symm
                                                  have el_10 : nI (cis S (v % 9) (k_155 + 1)) = (nI (cis S (v % 9) k_155)) + 0 := cis_n c_11
                                                  have hl : lv_has ls 16 [(12, .int (nI (k_155 + 1))), (11, .int 1), (10, .int (nI (cis S (v % 9) (k_155 + 1)))), (9, .int (nI (pc S (v % 9) 9))), (8, .int (S 10 1)), (7, .int (sm (S 7) 81)), (6, .int (S 0 1)), (5, .int (S 0 0)), (4, .ref a_12), (3, .ref a_7), (2, .ref a_2), (0, .ref x), (1, .int (nI v))] := by rw [el_12, el_10]; exact lv_sub hl [0, 1, 2, 6, 7, 8, 9, 10, 11, 12, 13, 14, 15] rfl
                                                  exact ih_155 (k_155 + 1) _ _ _ (by omega) (by omega) hP hD hS hl
                                                · exact absurd c_28 (fun q => q (c_11))
                                        · exact absurd c_24 (fun q => q (c_11))
                              · exact absurd c_13 (fun q => q (c_11))
                          · refine lv_iconst (v := 1) hx hb dL_isRound_256 (by decide) ?_
                            refine lv_goto (tgt := 261) hx hb dL_isRound_257 (by decide) ?_
                            refine lv_iadd hx hb dL_isRound_261 ?_
                            refine lv_istore (lv' := [(10, .int ((nI (cis S (v % 9) k_155)) + 1)), (15, .int (mn S k_155)), (13, .int (ptv v k_155)), (14, .int (nI (ci S (v % 9) k_155))), (12, .int (nI k_155)), (11, .int 1), (9, .int (nI (pc S (v % 9) 9))), (8, .int (S 10 1)), (7, .int (sm (S 7) 81)), (6, .int (S 0 1)), (5, .int (S 0 0)), (4, .ref a_12), (3, .ref a_7), (2, .ref a_2), (0, .ref x), (1, .int (nI v))]) hx hb dL_isRound_262 hl (by decide) rfl (fun ls hl => ?_)
                            refine lv_iload hx hb dL_isRound_264 (lv_at hl 5 rfl) ?_
                            refine lv_if_eq (tgt := 380) hx hb dL_isRound_266 (by decide) (fun c_29 => ?_) (fun c_29 => ?_)
                            · exact absurd c_29 (by decide)
                            · refine lv_aload_n hx hb dL_isRound_269 rfl (lv_at hl 14 rfl) ?_
                              refine lv_iload hx hb dL_isRound_270 (lv_at hl 4 rfl) ?_
                              refine lv_iconst (v := 3) hx hb dL_isRound_272 (by decide) ?_
                              refine cb_iD (wr := wP Y pp tx P ++ (wHi Y h sa (D_X0_remember u S) ++ (wI Y a_2 9 (fillS (S 1) 9) ++ (wI Y a_7 9 (fillS (S 3) 9) ++ wI Y a_12 9 (fillS (S 4) 9))))) (ws' := wX x r tr pp h sl ++ (wR Y r q (RS S v) ++ (wP Y pp tx P ++ (wHi Y h sa (D_X0_remember u S) ++ (wI Y a_2 9 (fillS (S 1) 9) ++ (wI Y a_7 9 (fillS (S 3) 9) ++ wI Y a_12 9 (fillS (S 4) 9))))))) (va_runV (As := [.int (nI k_155), .int 3]) (rest := []) ⟨hx, hb, hml, hown, hts⟩ (c_X3_villager l D Y H.size r tr pp h sl q (RS S v) x (nI k_155) 3) (cwV 2 hts gL_isRound_X3_villager rfl rfl rfl (by decide +kernel) ⟨Nat.le_of_ble_eq_true rfl, Nat.le_of_ble_eq_true rfl⟩) (psb_V (wr := wP Y pp tx P ++ (wHi Y h sa (D_X0_remember u S) ++ (wI Y a_2 9 (fillS (S 1) 9) ++ (wI Y a_7 9 (fillS (S 3) 9) ++ wI Y a_12 9 (fillS (S 4) 9))))) hK hP hD (pl_cons (List.Perm.refl _) (List.Perm.refl _)) (q0 := 0) rfl rfl) rfl rfl hl.1 rfl (lv_room (Nat.le_of_ble_eq_true rfl)) dL_isRound_273 ⟨Nat.le_of_ble_eq_true rfl, Nat.le_of_ble_eq_true rfl⟩) hP hD hS hA (pl_cons (List.Perm.refl _) (List.Perm.refl _)) (pl_cons (List.Perm.refl _) (List.Perm.refl _)) (fun H locs hP hD hS => ?_)
                              refine W.widen (k := 3) (n := 27) (Nat.le_of_ble_eq_true rfl) (Nat.le_of_ble_eq_true rfl) ?_
                              refine lv_topi (fun y9 e9 => ?_)
                              obtain rfl : y9 = (RS S v) 3 k_155 := e9.trans (vi_3 _ hk_155)
                              refine lv_aload_n hx hb dL_isRound_276 rfl (lv_at hl 12 rfl) ?_
                              refine lv_iload hx hb dL_isRound_277 (lv_at hl 4 rfl) ?_
                              refine va_iald (D := D) hx hb hK.1 hP 83 0 rfl rfl (vp_in_nI hk_155 (by decide)) dL_isRound_279 ?_
                              refine lv_topi (fun y9 e9 => ?_)
                              obtain rfl : y9 = S 3 k_155 := e9.trans (fill_at hk_155)
                              refine lv_iload hx hb dL_isRound_280 (lv_at hl 3 rfl) ?_
                              refine lv_if_eq (tgt := 289) hx hb dL_isRound_282 (by decide) (fun c_30 => ?_) (fun c_30 => ?_)
                              · exact absurd c_30 (c_11)
                              · refine lv_iconst (v := 1) hx hb dL_isRound_285 (by decide) ?_
                                refine lv_goto (tgt := 290) hx hb dL_isRound_286 (by decide) ?_
                                refine lv_iadd hx hb dL_isRound_290 ?_
                                refine lv_icmp_ne (tgt := 380) hx hb dL_isRound_291 (by decide) (fun c_31 => ?_) (fun c_31 => ?_)
                                · exact absurd c_31 (fun q => q (rd_y hk_155 c_11))
                                · refine lv_aload_n hx hb dL_isRound_294 rfl (lv_at hl 14 rfl) ?_
                                  refine lv_iload hx hb dL_isRound_295 (lv_at hl 4 rfl) ?_
                                  refine lv_iconst (v := 4) hx hb dL_isRound_297 (by decide) ?_
                                  refine cb_iD (wr := wP Y pp tx P ++ (wHi Y h sa (D_X0_remember u S) ++ (wI Y a_2 9 (fillS (S 1) 9) ++ (wI Y a_7 9 (fillS (S 3) 9) ++ wI Y a_12 9 (fillS (S 4) 9))))) (ws' := wX x r tr pp h sl ++ (wR Y r q (RS S v) ++ (wP Y pp tx P ++ (wHi Y h sa (D_X0_remember u S) ++ (wI Y a_2 9 (fillS (S 1) 9) ++ (wI Y a_7 9 (fillS (S 3) 9) ++ wI Y a_12 9 (fillS (S 4) 9))))))) (va_runV (As := [.int (nI k_155), .int 4]) (rest := []) ⟨hx, hb, hml, hown, hts⟩ (c_X3_villager l D Y H.size r tr pp h sl q (RS S v) x (nI k_155) 4) (cwV 2 hts gL_isRound_X3_villager rfl rfl rfl (by decide +kernel) ⟨Nat.le_of_ble_eq_true rfl, Nat.le_of_ble_eq_true rfl⟩) (psb_V (wr := wP Y pp tx P ++ (wHi Y h sa (D_X0_remember u S) ++ (wI Y a_2 9 (fillS (S 1) 9) ++ (wI Y a_7 9 (fillS (S 3) 9) ++ wI Y a_12 9 (fillS (S 4) 9))))) hK hP hD (pl_cons (List.Perm.refl _) (List.Perm.refl _)) (q0 := 0) rfl rfl) rfl rfl hl.1 rfl (lv_room (Nat.le_of_ble_eq_true rfl)) dL_isRound_298 ⟨Nat.le_of_ble_eq_true rfl, Nat.le_of_ble_eq_true rfl⟩) hP hD hS hA (pl_cons (List.Perm.refl _) (List.Perm.refl _)) (pl_cons (List.Perm.refl _) (List.Perm.refl _)) (fun H locs hP hD hS => ?_)
                                  refine W.widen (k := 3) (n := 27) (Nat.le_of_ble_eq_true rfl) (Nat.le_of_ble_eq_true rfl) ?_
                                  refine lv_topi (fun y9 e9 => ?_)
                                  obtain rfl : y9 = (RS S v) 4 k_155 := e9.trans (vi_4 _ hk_155)
                                  refine lv_aload hx hb dL_isRound_301 (lv_at hl 11 rfl) ?_
                                  refine lv_iload hx hb dL_isRound_303 (lv_at hl 4 rfl) ?_
                                  refine va_iald (D := D) hx hb hK.1 hP 84 0 rfl rfl (vp_in_nI hk_155 (by decide)) dL_isRound_305 ?_
                                  refine lv_topi (fun y9 e9 => ?_)
                                  obtain rfl : y9 = S 4 k_155 := e9.trans (fill_at hk_155)
                                  refine lv_iload hx hb dL_isRound_306 (lv_at hl 3 rfl) ?_
                                  refine lv_if_ne (tgt := 326) hx hb dL_isRound_308 (by decide) (fun c_32 => ?_) (fun c_32 => ?_)
                                  · refine lv_iconst (v := 0) hx hb dL_isRound_326 (by decide) ?_
                                    refine lv_iadd hx hb dL_isRound_327 ?_
                                    refine lv_icmp_ne (tgt := 380) hx hb dL_isRound_328 (by decide) (fun c_33 => ?_) (fun c_33 => ?_)
                                    · exact absurd c_33 (fun q => q (rr_y hk_155 c_11))
                                    · refine lv_aload_n hx hb dL_isRound_331 rfl (lv_at hl 14 rfl) ?_
                                      refine lv_iload hx hb dL_isRound_332 (lv_at hl 4 rfl) ?_
                                      refine lv_iconst (v := 1) hx hb dL_isRound_334 (by decide) ?_
                                      refine cb_iD (wr := wP Y pp tx P ++ (wHi Y h sa (D_X0_remember u S) ++ (wI Y a_2 9 (fillS (S 1) 9) ++ (wI Y a_7 9 (fillS (S 3) 9) ++ wI Y a_12 9 (fillS (S 4) 9))))) (ws' := wX x r tr pp h sl ++ (wR Y r q (RS S v) ++ (wP Y pp tx P ++ (wHi Y h sa (D_X0_remember u S) ++ (wI Y a_2 9 (fillS (S 1) 9) ++ (wI Y a_7 9 (fillS (S 3) 9) ++ wI Y a_12 9 (fillS (S 4) 9))))))) (va_runV (As := [.int (nI k_155), .int 1]) (rest := []) ⟨hx, hb, hml, hown, hts⟩ (c_X3_villager l D Y H.size r tr pp h sl q (RS S v) x (nI k_155) 1) (cwV 2 hts gL_isRound_X3_villager rfl rfl rfl (by decide +kernel) ⟨Nat.le_of_ble_eq_true rfl, Nat.le_of_ble_eq_true rfl⟩) (psb_V (wr := wP Y pp tx P ++ (wHi Y h sa (D_X0_remember u S) ++ (wI Y a_2 9 (fillS (S 1) 9) ++ (wI Y a_7 9 (fillS (S 3) 9) ++ wI Y a_12 9 (fillS (S 4) 9))))) hK hP hD (pl_cons (List.Perm.refl _) (List.Perm.refl _)) (q0 := 0) rfl rfl) rfl rfl hl.1 rfl (lv_room (Nat.le_of_ble_eq_true rfl)) dL_isRound_335 ⟨Nat.le_of_ble_eq_true rfl, Nat.le_of_ble_eq_true rfl⟩) hP hD hS hA (pl_cons (List.Perm.refl _) (List.Perm.refl _)) (pl_cons (List.Perm.refl _) (List.Perm.refl _)) (fun H locs hP hD hS => ?_)
                                      refine W.widen (k := 3) (n := 27) (Nat.le_of_ble_eq_true rfl) (Nat.le_of_ble_eq_true rfl) ?_
                                      refine lv_topi (fun y9 e9 => ?_)
                                      obtain rfl : y9 = (RS S v) 1 k_155 := e9.trans (vi_1 _ hk_155)
                                      refine lv_iload hx hb dL_isRound_338 (lv_at hl 3 rfl) ?_
                                      refine lv_if_eq (tgt := 353) hx hb dL_isRound_340 (by decide) (fun c_34 => ?_) (fun c_34 => ?_)
                                      · exact absurd c_34 (c_11)
                                      · refine lv_aload_n hx hb dL_isRound_343 rfl (lv_at hl 13 rfl) ?_
                                        refine lv_iload hx hb dL_isRound_344 (lv_at hl 4 rfl) ?_
                                        refine va_iald (D := D) hx hb hK.1 hP 82 0 rfl rfl (vp_in_nI hk_155 (by decide)) dL_isRound_346 ?_
                                        refine lv_topi (fun y9 e9 => ?_)
                                        obtain rfl : y9 = S 1 k_155 := e9.trans (fill_at hk_155)
                                        refine lv_iload hx hb dL_isRound_347 (lv_at hl 10 rfl) ?_
                                        refine lv_isub hx hb dL_isRound_349 ?_
                                        refine lv_goto (tgt := 373) hx hb dL_isRound_350 (by decide) ?_
                                        refine lv_icmp_ne (tgt := 380) hx hb dL_isRound_373 (by decide) (fun c_35 => ?_) (fun c_35 => ?_)
                                        · exact absurd c_35 (fun q => q (rs_y hk_155 c_11))
                                        · refine lv_iconst (v := 1) hx hb dL_isRound_376 (by decide) ?_
                                          refine lv_goto (tgt := 381) hx hb dL_isRound_377 (by decide) ?_
                                          refine lv_istore (lv' := [(11, .int 1), (10, .int ((nI (cis S (v % 9) k_155)) + 1)), (15, .int (mn S k_155)), (13, .int (ptv v k_155)), (14, .int (nI (ci S (v % 9) k_155))), (12, .int (nI k_155)), (9, .int (nI (pc S (v % 9) 9))), (8, .int (S 10 1)), (7, .int (sm (S 7) 81)), (6, .int (S 0 1)), (5, .int (S 0 0)), (4, .ref a_12), (3, .ref a_7), (2, .ref a_2), (0, .ref x), (1, .int (nI v))]) hx hb dL_isRound_381 hl (by decide) rfl (fun ls hl => ?_)
                                          refine lv_iload hx hb dL_isRound_383 (lv_at hl 0 rfl) ?_
                                          refine lv_if_eq (tgt := 411) hx hb dL_isRound_385 (by decide) (fun c_36 => ?_) (fun c_36 => ?_)
                                          · exact absurd c_36 (by decide)
                                          · refine lv_iload hx hb dL_isRound_388 (lv_at hl 4 rfl) ?_
                                            refine lv_if_eq (tgt := 407) hx hb dL_isRound_390 (by decide) (fun c_37 => ?_) (fun c_37 => ?_)
                                            · exact absurd c_37 (c_11)
                                            · refine lv_aload_n hx hb dL_isRound_393 rfl (lv_at hl 14 rfl) ?_
                                              refine lv_iload hx hb dL_isRound_394 (lv_at hl 5 rfl) ?_
                                              refine lv_iload hx hb dL_isRound_396 (lv_at hl 3 rfl) ?_
                                              refine lv_iconst (v := 4) hx hb dL_isRound_398 (by decide) ?_
                                              refine cb_iD (wr := wP Y pp tx P ++ (wHi Y h sa (D_X0_remember u S) ++ (wI Y a_2 9 (fillS (S 1) 9) ++ (wI Y a_7 9 (fillS (S 3) 9) ++ wI Y a_12 9 (fillS (S 4) 9))))) (ws' := wX x r tr pp h sl ++ (wR Y r q (RS S v) ++ (wP Y pp tx P ++ (wHi Y h sa (D_X0_remember u S) ++ (wI Y a_2 9 (fillS (S 1) 9) ++ (wI Y a_7 9 (fillS (S 3) 9) ++ wI Y a_12 9 (fillS (S 4) 9))))))) (va_runV (As := [.int (nI k_155), .int (ptv v k_155), .int 4]) (rest := []) ⟨hx, hb, hml, hown, hts⟩ (c_X3_pair l D Y H.size r tr pp h sl q (RS S v) x (nI k_155) (ptv v k_155) 4) (cwV 3 hts gL_isRound_X3_pair rfl rfl rfl (by decide +kernel) ⟨Nat.le_of_ble_eq_true rfl, Nat.le_of_ble_eq_true rfl⟩) (psb_V (wr := wP Y pp tx P ++ (wHi Y h sa (D_X0_remember u S) ++ (wI Y a_2 9 (fillS (S 1) 9) ++ (wI Y a_7 9 (fillS (S 3) 9) ++ wI Y a_12 9 (fillS (S 4) 9))))) hK hP hD (pl_cons (List.Perm.refl _) (List.Perm.refl _)) (q0 := 0) rfl rfl) rfl rfl hl.1 rfl (lv_room (Nat.le_of_ble_eq_true rfl)) dL_isRound_399 ⟨Nat.le_of_ble_eq_true rfl, Nat.le_of_ble_eq_true rfl⟩) hP hD hS hA (pl_cons (List.Perm.refl _) (List.Perm.refl _)) (pl_cons (List.Perm.refl _) (List.Perm.refl _)) (fun H locs hP hD hS => ?_)
                                              refine W.widen (k := 3) (n := 27) (Nat.le_of_ble_eq_true rfl) (Nat.le_of_ble_eq_true rfl) ?_
                                              refine lv_topi (fun y9 e9 => ?_)
                                              obtain rfl : y9 = S 10 1 := e9.trans (r8_y hk_155 c_11)
                                              refine lv_iload hx hb dL_isRound_402 (lv_at hl 7 rfl) ?_
                                              refine lv_icmp_ne (tgt := 411) hx hb dL_isRound_404 (by decide) (fun c_38 => ?_) (fun c_38 => ?_)
                                              · exact absurd c_38 (fun q => q (rfl))
                                              · refine lv_iconst (v := 1) hx hb dL_isRound_407 (by decide) ?_
                                                refine lv_goto (tgt := 412) hx hb dL_isRound_408 (by decide) ?_
                                                refine lv_istore (lv' := [(11, .int 1), (10, .int ((nI (cis S (v % 9) k_155)) + 1)), (15, .int (mn S k_155)), (13, .int (ptv v k_155)), (14, .int (nI (ci S (v % 9) k_155))), (12, .int (nI k_155)), (9, .int (nI (pc S (v % 9) 9))), (8, .int (S 10 1)), (7, .int (sm (S 7) 81)), (6, .int (S 0 1)), (5, .int (S 0 0)), (4, .ref a_12), (3, .ref a_7), (2, .ref a_2), (0, .ref x), (1, .int (nI v))]) hx hb dL_isRound_412 hl (by decide) rfl (fun ls hl => ?_)
                                                refine lv_iinc (v := (nI k_155) + 1) (lv' := [(12, .int ((nI k_155) + 1)), (11, .int 1), (10, .int ((nI (cis S (v % 9) k_155)) + 1)), (15, .int (mn S k_155)), (13, .int (ptv v k_155)), (14, .int (nI (ci S (v % 9) k_155))), (9, .int (nI (pc S (v % 9) 9))), (8, .int (S 10 1)), (7, .int (sm (S 7) 81)), (6, .int (S 0 1)), (5, .int (S 0 0)), (4, .ref a_12), (3, .ref a_7), (2, .ref a_2), (0, .ref x), (1, .int (nI v))]) hx hb dL_isRound_414 hl (k := 5) rfl rfl (by decide) rfl (fun ls hl => ?_)
                                                refine lv_goto (tgt := 155) hx hb dL_isRound_417 (by decide) ?_
                                                have el_12 : nI (k_155 + 1) = (nI k_155) + 1 := (nI_1 k_155).symm
                                                have el_10 : nI (cis S (v % 9) (k_155 + 1)) = (nI (cis S (v % 9) k_155)) + 1 := cis_y c_11
                                                have hl : lv_has ls 16 [(12, .int (nI (k_155 + 1))), (11, .int 1), (10, .int (nI (cis S (v % 9) (k_155 + 1)))), (9, .int (nI (pc S (v % 9) 9))), (8, .int (S 10 1)), (7, .int (sm (S 7) 81)), (6, .int (S 0 1)), (5, .int (S 0 0)), (4, .ref a_12), (3, .ref a_7), (2, .ref a_2), (0, .ref x), (1, .int (nI v))] := by rw [el_12, el_10]; exact lv_sub hl [0, 1, 2, 6, 7, 8, 9, 10, 11, 12, 13, 14, 15] rfl
                                                exact ih_155 (k_155 + 1) _ _ _ (by omega) (by omega) hP hD hS hl
                                  · exact absurd c_32 (c_11)
                        refine lv_aload_n hx hb dL_isRound_223 rfl (lv_at hl 12 rfl) ?_
                        refine lv_iload hx hb dL_isRound_224 (lv_at hl 2 rfl) ?_
                        refine va_iald (D := D) hx hb hK.1 hP 82 0 rfl rfl (vp_in_nI hk_155 (by decide)) dL_isRound_226 ?_
                        refine lv_topi (fun y9 e9 => ?_)
                        obtain rfl : y9 = S 1 k_155 := e9.trans (fill_at hk_155)
                        refine lv_iload hx hb dL_isRound_227 (lv_at hl 8 rfl) ?_
                        refine lv_iadd hx hb dL_isRound_229 ?_
                        refine lv_bipush (v := 20) hx hb dL_isRound_230 (by decide) ?_
                        refine lv_icmp_le (tgt := 240) hx hb dL_isRound_232 (by decide) (fun c_39 => ?_) (fun c_39 => ?_)
                        · refine lv_aload_n hx hb dL_isRound_240 rfl (lv_at hl 12 rfl) ?_
                          refine lv_iload hx hb dL_isRound_241 (lv_at hl 2 rfl) ?_
                          refine va_iald (D := D) hx hb hK.1 hP 82 0 rfl rfl (vp_in_nI hk_155 (by decide)) dL_isRound_243 ?_
                          refine lv_topi (fun y9 e9 => ?_)
                          obtain rfl : y9 = S 1 k_155 := e9.trans (fill_at hk_155)
                          refine lv_iload hx hb dL_isRound_244 (lv_at hl 8 rfl) ?_
                          refine lv_iadd hx hb dL_isRound_246 ?_
                          refine lv_istore (lv' := [(15, .int ((S 1 k_155) + (S 0 1))), (13, .int (ptv v k_155)), (14, .int (nI (ci S (v % 9) k_155))), (12, .int (nI k_155)), (11, .int 1), (10, .int (nI (cis S (v % 9) k_155))), (9, .int (nI (pc S (v % 9) 9))), (8, .int (S 10 1)), (7, .int (sm (S 7) 81)), (6, .int (S 0 1)), (5, .int (S 0 0)), (4, .ref a_12), (3, .ref a_7), (2, .ref a_2), (0, .ref x), (1, .int (nI v))]) hx hb dL_isRound_247 hl (by decide) rfl (fun ls hl => ?_)
                          have ej : mn S k_155 = (S 1 k_155) + (S 0 1) := mn_y c_39
                          have hl : lv_has ls 16 [(15, .int (mn S k_155)), (13, .int (ptv v k_155)), (14, .int (nI (ci S (v % 9) k_155))), (12, .int (nI k_155)), (11, .int 1), (10, .int (nI (cis S (v % 9) k_155))), (9, .int (nI (pc S (v % 9) 9))), (8, .int (S 10 1)), (7, .int (sm (S 7) 81)), (6, .int (S 0 1)), (5, .int (S 0 0)), (4, .ref a_12), (3, .ref a_7), (2, .ref a_2), (0, .ref x), (1, .int (nI v))] := by rw [ej]; exact hl
                          exact join_249_j_10 _ _ _ hP hD hS (lv_sub hl [0, 1, 2, 3, 4, 5, 6, 7, 8, 9, 10, 11, 12, 13, 14, 15] rfl)
                        · refine lv_bipush (v := 20) hx hb dL_isRound_235 (by decide) ?_
                          refine lv_goto (tgt := 247) hx hb dL_isRound_237 (by decide) ?_
                          refine lv_istore (lv' := [(15, .int 20), (13, .int (ptv v k_155)), (14, .int (nI (ci S (v % 9) k_155))), (12, .int (nI k_155)), (11, .int 1), (10, .int (nI (cis S (v % 9) k_155))), (9, .int (nI (pc S (v % 9) 9))), (8, .int (S 10 1)), (7, .int (sm (S 7) 81)), (6, .int (S 0 1)), (5, .int (S 0 0)), (4, .ref a_12), (3, .ref a_7), (2, .ref a_2), (0, .ref x), (1, .int (nI v))]) hx hb dL_isRound_247 hl (by decide) rfl (fun ls hl => ?_)
                          have ej : mn S k_155 = 20 := mn_n c_39
                          have hl : lv_has ls 16 [(15, .int (mn S k_155)), (13, .int (ptv v k_155)), (14, .int (nI (ci S (v % 9) k_155))), (12, .int (nI k_155)), (11, .int 1), (10, .int (nI (cis S (v % 9) k_155))), (9, .int (nI (pc S (v % 9) 9))), (8, .int (S 10 1)), (7, .int (sm (S 7) 81)), (6, .int (S 0 1)), (5, .int (S 0 0)), (4, .ref a_12), (3, .ref a_7), (2, .ref a_2), (0, .ref x), (1, .int (nI v))] := by rw [ej]; exact hl
                          exact join_249_j_10 _ _ _ hP hD hS (lv_sub hl [0, 1, 2, 3, 4, 5, 6, 7, 8, 9, 10, 11, 12, 13, 14, 15] rfl)
                      refine lv_aload_n hx hb dL_isRound_162 rfl (lv_at hl 11 rfl) ?_
                      refine lv_iload hx hb dL_isRound_163 (lv_at hl 0 rfl) ?_
                      refine lv_iload_n hx hb dL_isRound_165 rfl (lv_at hl 12 rfl) ?_
                      refine cb_iD (wr := wP Y pp tx P ++ (wHi Y h sa (D_X0_remember u S) ++ (wI Y a_2 9 (fillS (S 1) 9) ++ (wI Y a_7 9 (fillS (S 3) 9) ++ wI Y a_12 9 (fillS (S 4) 9))))) (ws' := wX x r tr pp h sl ++ (wR Y r q (RS S v) ++ (wP Y pp tx P ++ (wHi Y h sa (D_X0_remember u S) ++ (wI Y a_2 9 (fillS (S 1) 9) ++ (wI Y a_7 9 (fillS (S 3) 9) ++ wI Y a_12 9 (fillS (S 4) 9))))))) (va_runV (As := [.int (nI k_155), .int (nI v)]) (rest := []) ⟨hx, hb, hml, hown, hts⟩ (c_X3_partner l D Y H.size r tr pp h sl q (RS S v) x (nI k_155) (nI v)) (cwV 2 hts gL_isRound_X3_partner rfl rfl rfl (by decide +kernel) ⟨Nat.le_of_ble_eq_true rfl, Nat.le_of_ble_eq_true rfl⟩) (psb_V (wr := wP Y pp tx P ++ (wHi Y h sa (D_X0_remember u S) ++ (wI Y a_2 9 (fillS (S 1) 9) ++ (wI Y a_7 9 (fillS (S 3) 9) ++ wI Y a_12 9 (fillS (S 4) 9))))) hK hP hD (pl_cons (List.Perm.refl _) (List.Perm.refl _)) (q0 := 0) rfl rfl) rfl rfl hl.1 rfl (lv_room (Nat.le_of_ble_eq_true rfl)) dL_isRound_166 ⟨Nat.le_of_ble_eq_true rfl, Nat.le_of_ble_eq_true rfl⟩) hP hD hS hA (pl_cons (List.Perm.refl _) (List.Perm.refl _)) (pl_cons (List.Perm.refl _) (List.Perm.refl _)) (fun H locs hP hD hS => ?_)
                      refine W.widen (k := 3) (n := 27) (Nat.le_of_ble_eq_true rfl) (Nat.le_of_ble_eq_true rfl) ?_
                      refine lv_topi (fun y9 e9 => ?_)
                      obtain rfl : y9 = ptv v k_155 := e9.trans (pt_pv _ hk_155 hv)
                      refine lv_istore (lv' := [(13, .int (ptv v k_155)), (12, .int (nI k_155)), (11, .int 1), (10, .int (nI (cis S (v % 9) k_155))), (9, .int (nI (pc S (v % 9) 9))), (8, .int (S 10 1)), (7, .int (sm (S 7) 81)), (6, .int (S 0 1)), (5, .int (S 0 0)), (4, .ref a_12), (3, .ref a_7), (2, .ref a_2), (0, .ref x), (1, .int (nI v))]) hx hb dL_isRound_169 hl (by decide) rfl (fun ls hl => ?_)
                      refine lv_iload hx hb dL_isRound_171 (lv_at hl 0 rfl) ?_
                      refine lv_if_lt (tgt := 220) hx hb dL_isRound_173 (by decide) (fun c_40 => ?_) (fun c_40 => ?_)
                      · refine lv_iconst (v := 0) hx hb dL_isRound_220 (by decide) ?_
                        refine lv_istore (lv' := [(14, .int 0), (13, .int (ptv v k_155)), (12, .int (nI k_155)), (11, .int 1), (10, .int (nI (cis S (v % 9) k_155))), (9, .int (nI (pc S (v % 9) 9))), (8, .int (S 10 1)), (7, .int (sm (S 7) 81)), (6, .int (S 0 1)), (5, .int (S 0 0)), (4, .ref a_12), (3, .ref a_7), (2, .ref a_2), (0, .ref x), (1, .int (nI v))]) hx hb dL_isRound_221 hl (by decide) rfl (fun ls hl => ?_)
                        have ej : nI (ci S (v % 9) k_155) = 0 := can_a hk_155 c_40
                        have hl : lv_has ls 16 [(14, .int (nI (ci S (v % 9) k_155))), (13, .int (ptv v k_155)), (12, .int (nI k_155)), (11, .int 1), (10, .int (nI (cis S (v % 9) k_155))), (9, .int (nI (pc S (v % 9) 9))), (8, .int (S 10 1)), (7, .int (sm (S 7) 81)), (6, .int (S 0 1)), (5, .int (S 0 0)), (4, .ref a_12), (3, .ref a_7), (2, .ref a_2), (0, .ref x), (1, .int (nI v))] := by rw [ej]; exact hl
                        exact join_223_j_9 _ _ _ hP hD hS (lv_sub hl [1, 0, 2, 3, 4, 5, 6, 7, 8, 9, 10, 11, 12, 13, 14] rfl)
                      · refine lv_aload_n hx hb dL_isRound_176 rfl (lv_at hl 12 rfl) ?_
                        refine lv_iload hx hb dL_isRound_177 (lv_at hl 1 rfl) ?_
                        refine lv_iconst (v := 0) hx hb dL_isRound_179 (by decide) ?_
                        refine cb_iD (wr := wP Y pp tx P ++ (wHi Y h sa (D_X0_remember u S) ++ (wI Y a_2 9 (fillS (S 1) 9) ++ (wI Y a_7 9 (fillS (S 3) 9) ++ wI Y a_12 9 (fillS (S 4) 9))))) (ws' := wX x r tr pp h sl ++ (wR Y r q (RS S v) ++ (wP Y pp tx P ++ (wHi Y h sa (D_X0_remember u S) ++ (wI Y a_2 9 (fillS (S 1) 9) ++ (wI Y a_7 9 (fillS (S 3) 9) ++ wI Y a_12 9 (fillS (S 4) 9))))))) (va_runV (As := [.int (nI k_155), .int 0]) (rest := []) ⟨hx, hb, hml, hown, hts⟩ (c_X3_villager l D Y H.size r tr pp h sl q (RS S v) x (nI k_155) 0) (cwV 2 hts gL_isRound_X3_villager rfl rfl rfl (by decide +kernel) ⟨Nat.le_of_ble_eq_true rfl, Nat.le_of_ble_eq_true rfl⟩) (psb_V (wr := wP Y pp tx P ++ (wHi Y h sa (D_X0_remember u S) ++ (wI Y a_2 9 (fillS (S 1) 9) ++ (wI Y a_7 9 (fillS (S 3) 9) ++ wI Y a_12 9 (fillS (S 4) 9))))) hK hP hD (pl_cons (List.Perm.refl _) (List.Perm.refl _)) (q0 := 0) rfl rfl) rfl rfl hl.1 rfl (lv_room (Nat.le_of_ble_eq_true rfl)) dL_isRound_180 ⟨Nat.le_of_ble_eq_true rfl, Nat.le_of_ble_eq_true rfl⟩) hP hD hS hA (pl_cons (List.Perm.refl _) (List.Perm.refl _)) (pl_cons (List.Perm.refl _) (List.Perm.refl _)) (fun H locs hP hD hS => ?_)
                        refine W.widen (k := 3) (n := 27) (Nat.le_of_ble_eq_true rfl) (Nat.le_of_ble_eq_true rfl) ?_
                        refine lv_topi (fun y9 e9 => ?_)
                        obtain rfl : y9 = D_X2_isThere S (nI k_155) := e9.trans (vi_0R S v hk_155)
                        refine lv_iconst (v := 1) hx hb dL_isRound_183 (by decide) ?_
                        refine lv_icmp_ne (tgt := 220) hx hb dL_isRound_184 (by decide) (fun c_41 => ?_) (fun c_41 => ?_)
                        · refine lv_iconst (v := 0) hx hb dL_isRound_220 (by decide) ?_
                          refine lv_istore (lv' := [(14, .int 0), (13, .int (ptv v k_155)), (12, .int (nI k_155)), (11, .int 1), (10, .int (nI (cis S (v % 9) k_155))), (9, .int (nI (pc S (v % 9) 9))), (8, .int (S 10 1)), (7, .int (sm (S 7) 81)), (6, .int (S 0 1)), (5, .int (S 0 0)), (4, .ref a_12), (3, .ref a_7), (2, .ref a_2), (0, .ref x), (1, .int (nI v))]) hx hb dL_isRound_221 hl (by decide) rfl (fun ls hl => ?_)
                          have ej : nI (ci S (v % 9) k_155) = 0 := can_b c_41
                          have hl : lv_has ls 16 [(14, .int (nI (ci S (v % 9) k_155))), (13, .int (ptv v k_155)), (12, .int (nI k_155)), (11, .int 1), (10, .int (nI (cis S (v % 9) k_155))), (9, .int (nI (pc S (v % 9) 9))), (8, .int (S 10 1)), (7, .int (sm (S 7) 81)), (6, .int (S 0 1)), (5, .int (S 0 0)), (4, .ref a_12), (3, .ref a_7), (2, .ref a_2), (0, .ref x), (1, .int (nI v))] := by rw [ej]; exact hl
                          exact join_223_j_9 _ _ _ hP hD hS (lv_sub hl [1, 0, 2, 3, 4, 5, 6, 7, 8, 9, 10, 11, 12, 13, 14] rfl)
                        · refine lv_aload_n hx hb dL_isRound_187 rfl (lv_at hl 12 rfl) ?_
                          refine lv_iload hx hb dL_isRound_188 (lv_at hl 0 rfl) ?_
                          refine lv_iconst (v := 0) hx hb dL_isRound_190 (by decide) ?_
                          refine cb_iD (wr := wP Y pp tx P ++ (wHi Y h sa (D_X0_remember u S) ++ (wI Y a_2 9 (fillS (S 1) 9) ++ (wI Y a_7 9 (fillS (S 3) 9) ++ wI Y a_12 9 (fillS (S 4) 9))))) (ws' := wX x r tr pp h sl ++ (wR Y r q (RS S v) ++ (wP Y pp tx P ++ (wHi Y h sa (D_X0_remember u S) ++ (wI Y a_2 9 (fillS (S 1) 9) ++ (wI Y a_7 9 (fillS (S 3) 9) ++ wI Y a_12 9 (fillS (S 4) 9))))))) (va_runV (As := [.int (ptv v k_155), .int 0]) (rest := []) ⟨hx, hb, hml, hown, hts⟩ (c_X3_villager l D Y H.size r tr pp h sl q (RS S v) x (ptv v k_155) 0) (cwV 2 hts gL_isRound_X3_villager rfl rfl rfl (by decide +kernel) ⟨Nat.le_of_ble_eq_true rfl, Nat.le_of_ble_eq_true rfl⟩) (psb_V (wr := wP Y pp tx P ++ (wHi Y h sa (D_X0_remember u S) ++ (wI Y a_2 9 (fillS (S 1) 9) ++ (wI Y a_7 9 (fillS (S 3) 9) ++ wI Y a_12 9 (fillS (S 4) 9))))) hK hP hD (pl_cons (List.Perm.refl _) (List.Perm.refl _)) (q0 := 0) rfl rfl) rfl rfl hl.1 rfl (lv_room (Nat.le_of_ble_eq_true rfl)) dL_isRound_191 ⟨Nat.le_of_ble_eq_true rfl, Nat.le_of_ble_eq_true rfl⟩) hP hD hS hA (pl_cons (List.Perm.refl _) (List.Perm.refl _)) (pl_cons (List.Perm.refl _) (List.Perm.refl _)) (fun H locs hP hD hS => ?_)
                          refine W.widen (k := 3) (n := 27) (Nat.le_of_ble_eq_true rfl) (Nat.le_of_ble_eq_true rfl) ?_
                          refine lv_topi (fun y9 e9 => ?_)
                          obtain rfl : y9 = D_X2_isThere S (nI (cn (v % 9) k_155)) := e9.trans (vi_0P S v hk_155 c_40)
                          refine lv_iconst (v := 1) hx hb dL_isRound_194 (by decide) ?_
                          refine lv_icmp_ne (tgt := 220) hx hb dL_isRound_195 (by decide) (fun c_42 => ?_) (fun c_42 => ?_)
                          · refine lv_iconst (v := 0) hx hb dL_isRound_220 (by decide) ?_
                            refine lv_istore (lv' := [(14, .int 0), (13, .int (ptv v k_155)), (12, .int (nI k_155)), (11, .int 1), (10, .int (nI (cis S (v % 9) k_155))), (9, .int (nI (pc S (v % 9) 9))), (8, .int (S 10 1)), (7, .int (sm (S 7) 81)), (6, .int (S 0 1)), (5, .int (S 0 0)), (4, .ref a_12), (3, .ref a_7), (2, .ref a_2), (0, .ref x), (1, .int (nI v))]) hx hb dL_isRound_221 hl (by decide) rfl (fun ls hl => ?_)
                            have ej : nI (ci S (v % 9) k_155) = 0 := can_c c_42
                            have hl : lv_has ls 16 [(14, .int (nI (ci S (v % 9) k_155))), (13, .int (ptv v k_155)), (12, .int (nI k_155)), (11, .int 1), (10, .int (nI (cis S (v % 9) k_155))), (9, .int (nI (pc S (v % 9) 9))), (8, .int (S 10 1)), (7, .int (sm (S 7) 81)), (6, .int (S 0 1)), (5, .int (S 0 0)), (4, .ref a_12), (3, .ref a_7), (2, .ref a_2), (0, .ref x), (1, .int (nI v))] := by rw [ej]; exact hl
                            exact join_223_j_9 _ _ _ hP hD hS (lv_sub hl [1, 0, 2, 3, 4, 5, 6, 7, 8, 9, 10, 11, 12, 13, 14] rfl)
                          · refine lv_aload_n hx hb dL_isRound_198 rfl (lv_at hl 11 rfl) ?_
                            refine lv_iload hx hb dL_isRound_199 (lv_at hl 1 rfl) ?_
                            refine va_iald (D := D) hx hb hK.1 hP 82 0 rfl rfl (vp_in_nI hk_155 (by decide)) dL_isRound_201 ?_
                            refine lv_topi (fun y9 e9 => ?_)
                            obtain rfl : y9 = S 1 k_155 := e9.trans (fill_at hk_155)
                            refine lv_iload hx hb dL_isRound_202 (lv_at hl 8 rfl) ?_
                            refine lv_icmp_lt (tgt := 220) hx hb dL_isRound_204 (by decide) (fun c_43 => ?_) (fun c_43 => ?_)
                            · refine lv_iconst (v := 0) hx hb dL_isRound_220 (by decide) ?_
                              refine lv_istore (lv' := [(14, .int 0), (13, .int (ptv v k_155)), (12, .int (nI k_155)), (11, .int 1), (10, .int (nI (cis S (v % 9) k_155))), (9, .int (nI (pc S (v % 9) 9))), (8, .int (S 10 1)), (7, .int (sm (S 7) 81)), (6, .int (S 0 1)), (5, .int (S 0 0)), (4, .ref a_12), (3, .ref a_7), (2, .ref a_2), (0, .ref x), (1, .int (nI v))]) hx hb dL_isRound_221 hl (by decide) rfl (fun ls hl => ?_)
                              have ej : nI (ci S (v % 9) k_155) = 0 := can_d c_43
                              have hl : lv_has ls 16 [(14, .int (nI (ci S (v % 9) k_155))), (13, .int (ptv v k_155)), (12, .int (nI k_155)), (11, .int 1), (10, .int (nI (cis S (v % 9) k_155))), (9, .int (nI (pc S (v % 9) 9))), (8, .int (S 10 1)), (7, .int (sm (S 7) 81)), (6, .int (S 0 1)), (5, .int (S 0 0)), (4, .ref a_12), (3, .ref a_7), (2, .ref a_2), (0, .ref x), (1, .int (nI v))] := by rw [ej]; exact hl
                              exact join_223_j_9 _ _ _ hP hD hS (lv_sub hl [1, 0, 2, 3, 4, 5, 6, 7, 8, 9, 10, 11, 12, 13, 14] rfl)
                            · refine lv_aload_n hx hb dL_isRound_207 rfl (lv_at hl 11 rfl) ?_
                              refine lv_iload hx hb dL_isRound_208 (lv_at hl 0 rfl) ?_
                              refine va_iald (D := D) hx hb hK.1 hP 82 0 rfl rfl (ptv_in hk_155 c_40) dL_isRound_210 ?_
                              refine lv_topi (fun y9 e9 => ?_)
                              obtain rfl : y9 = S 1 (cn (v % 9) k_155) := e9.trans (fill_P hk_155 c_40)
                              refine lv_iload hx hb dL_isRound_211 (lv_at hl 8 rfl) ?_
                              refine lv_icmp_lt (tgt := 220) hx hb dL_isRound_213 (by decide) (fun c_44 => ?_) (fun c_44 => ?_)
                              · refine lv_iconst (v := 0) hx hb dL_isRound_220 (by decide) ?_
                                refine lv_istore (lv' := [(14, .int 0), (13, .int (ptv v k_155)), (12, .int (nI k_155)), (11, .int 1), (10, .int (nI (cis S (v % 9) k_155))), (9, .int (nI (pc S (v % 9) 9))), (8, .int (S 10 1)), (7, .int (sm (S 7) 81)), (6, .int (S 0 1)), (5, .int (S 0 0)), (4, .ref a_12), (3, .ref a_7), (2, .ref a_2), (0, .ref x), (1, .int (nI v))]) hx hb dL_isRound_221 hl (by decide) rfl (fun ls hl => ?_)
                                have ej : nI (ci S (v % 9) k_155) = 0 := can_e c_44
                                have hl : lv_has ls 16 [(14, .int (nI (ci S (v % 9) k_155))), (13, .int (ptv v k_155)), (12, .int (nI k_155)), (11, .int 1), (10, .int (nI (cis S (v % 9) k_155))), (9, .int (nI (pc S (v % 9) 9))), (8, .int (S 10 1)), (7, .int (sm (S 7) 81)), (6, .int (S 0 1)), (5, .int (S 0 0)), (4, .ref a_12), (3, .ref a_7), (2, .ref a_2), (0, .ref x), (1, .int (nI v))] := by rw [ej]; exact hl
                                exact join_223_j_9 _ _ _ hP hD hS (lv_sub hl [1, 0, 2, 3, 4, 5, 6, 7, 8, 9, 10, 11, 12, 13, 14] rfl)
                              · refine lv_iconst (v := 1) hx hb dL_isRound_216 (by decide) ?_
                                refine lv_goto (tgt := 221) hx hb dL_isRound_217 (by decide) ?_
                                refine lv_istore (lv' := [(14, .int 1), (13, .int (ptv v k_155)), (12, .int (nI k_155)), (11, .int 1), (10, .int (nI (cis S (v % 9) k_155))), (9, .int (nI (pc S (v % 9) 9))), (8, .int (S 10 1)), (7, .int (sm (S 7) 81)), (6, .int (S 0 1)), (5, .int (S 0 0)), (4, .ref a_12), (3, .ref a_7), (2, .ref a_2), (0, .ref x), (1, .int (nI v))]) hx hb dL_isRound_221 hl (by decide) rfl (fun ls hl => ?_)
                                have ej : nI (ci S (v % 9) k_155) = 1 := can_y hk_155 c_40 c_41 c_42 c_43 c_44
                                have hl : lv_has ls 16 [(14, .int (nI (ci S (v % 9) k_155))), (13, .int (ptv v k_155)), (12, .int (nI k_155)), (11, .int 1), (10, .int (nI (cis S (v % 9) k_155))), (9, .int (nI (pc S (v % 9) 9))), (8, .int (S 10 1)), (7, .int (sm (S 7) 81)), (6, .int (S 0 1)), (5, .int (S 0 0)), (4, .ref a_12), (3, .ref a_7), (2, .ref a_2), (0, .ref x), (1, .int (nI v))] := by rw [ej]; exact hl
                                exact join_223_j_9 _ _ _ hP hD hS (lv_sub hl [1, 0, 2, 3, 4, 5, 6, 7, 8, 9, 10, 11, 12, 13, 14] rfl)
                have hl : lv_has ls 16 [(12, .int (nI 0)), (11, .int 1), (10, .int (nI (cis S (v % 9) 0))), (9, .int (nI (pc S (v % 9) 9))), (8, .int (S 10 1)), (7, .int (sm (S 7) 81)), (6, .int (S 0 1)), (5, .int (S 0 0)), (4, .ref a_12), (3, .ref a_7), (2, .ref a_2), (0, .ref x), (1, .int (nI v))] := lv_sub hl [0, 1, 2, 3, 4, 5, 6, 7, 8, 9, 10, 11, 12] rfl
                exact loop_155 10 0 _ _ _ (by omega) (by omega) hP hD hS hl
      · have hk_47 : k_47 < 9 := my_lt rfl (show (9 : Int32) = nI 9 from rfl) (by decide) hkN c_1
        refine lv_aload_n hx hb dL_isRound_54 rfl (lv_at hl 7 rfl) ?_
        refine lv_iload hx hb dL_isRound_55 (lv_at hl 0 rfl) ?_
        refine lv_aload_n hx hb dL_isRound_57 rfl (lv_at hl 8 rfl) ?_
        refine lv_iload hx hb dL_isRound_58 (lv_at hl 0 rfl) ?_
        refine lv_iconst (v := 1) hx hb dL_isRound_60 (by decide) ?_
        refine cb_iD (wr := wP Y pp tx P ++ (wHi Y h sa u ++ (wI Y a_2 9 (fillS (S 1) k_47) ++ (wI Y a_7 9 (fillS (S 3) k_47) ++ wI Y a_12 9 (fillS (S 4) k_47))))) (ws' := wX x r tr pp h sl ++ (wR Y r q S ++ (wP Y pp tx P ++ (wHi Y h sa u ++ (wI Y a_2 9 (fillS (S 1) k_47) ++ (wI Y a_7 9 (fillS (S 3) k_47) ++ wI Y a_12 9 (fillS (S 4) k_47))))))) (va_runV (As := [.int (nI k_47), .int 1]) (rest := [.int (nI k_47), .ref a_2]) ⟨hx, hb, hml, hown, hts⟩ (c_X3_villager l D Y H.size r tr pp h sl q S x (nI k_47) 1) (cwV 2 hts gL_isRound_X3_villager rfl rfl rfl (by decide +kernel) ⟨Nat.le_of_ble_eq_true rfl, Nat.le_of_ble_eq_true rfl⟩) (psb_V (wr := wP Y pp tx P ++ (wHi Y h sa u ++ (wI Y a_2 9 (fillS (S 1) k_47) ++ (wI Y a_7 9 (fillS (S 3) k_47) ++ wI Y a_12 9 (fillS (S 4) k_47))))) hK hP hD (pl_cons (List.Perm.refl _) (List.Perm.refl _)) (q0 := 0) rfl rfl) rfl rfl hl.1 rfl (lv_room (Nat.le_of_ble_eq_true rfl)) dL_isRound_61 ⟨Nat.le_of_ble_eq_true rfl, Nat.le_of_ble_eq_true rfl⟩) hP hD hS hA (pl_cons (List.Perm.refl _) (List.Perm.refl _)) (pl_cons (List.Perm.refl _) (List.Perm.refl _)) (fun H locs hP hD hS => ?_)
        refine W.widen (k := 3) (n := 27) (Nat.le_of_ble_eq_true rfl) (Nat.le_of_ble_eq_true rfl) ?_
        refine lv_topi (fun y9 e9 => ?_)
        obtain rfl : y9 = S 1 k_47 := e9.trans (vi_1 _ hk_47)
        refine va_iast (D := D) hx hb hK.1 hP hD hS 82 0 rfl rfl (vp_in_nI hk_47 (by decide)) dL_isRound_64 (fun H locs hP hD hS => ?_)
        have hP : va_P D vwCl (wX x r tr pp h sl ++ (wR Y r q S ++ (wP Y pp tx P ++ (wHi Y h sa u ++ (wI Y a_2 9 (T_L_isRound_1 S k_47) ++ (wI Y a_7 9 (fillS (S 3) k_47) ++ wI Y a_12 9 (fillS (S 4) k_47))))))) H := hP
        have hD : va_D A (wX x r tr pp h sl ++ (wR Y r q S ++ (wP Y pp tx P ++ (wHi Y h sa u ++ (wI Y a_2 9 (T_L_isRound_1 S k_47) ++ (wI Y a_7 9 (fillS (S 3) k_47) ++ wI Y a_12 9 (fillS (S 4) k_47))))))) := hD
        obtain ⟨S_1, eS_1⟩ : ∃ z9, T_L_isRound_1 S k_47 = z9 := ⟨_, rfl⟩
        rw [eS_1] at hP hD
        refine lv_aload_n hx hb dL_isRound_65 rfl (lv_at hl 6 rfl) ?_
        refine lv_iload hx hb dL_isRound_66 (lv_at hl 0 rfl) ?_
        refine lv_aload_n hx hb dL_isRound_68 rfl (lv_at hl 8 rfl) ?_
        refine lv_iload hx hb dL_isRound_69 (lv_at hl 0 rfl) ?_
        refine lv_iconst (v := 3) hx hb dL_isRound_71 (by decide) ?_
        refine cb_iD (wr := wP Y pp tx P ++ (wHi Y h sa u ++ (wI Y a_2 9 S_1 ++ (wI Y a_7 9 (fillS (S 3) k_47) ++ wI Y a_12 9 (fillS (S 4) k_47))))) (ws' := wX x r tr pp h sl ++ (wR Y r q S ++ (wP Y pp tx P ++ (wHi Y h sa u ++ (wI Y a_2 9 S_1 ++ (wI Y a_7 9 (fillS (S 3) k_47) ++ wI Y a_12 9 (fillS (S 4) k_47))))))) (va_runV (As := [.int (nI k_47), .int 3]) (rest := [.int (nI k_47), .ref a_7]) ⟨hx, hb, hml, hown, hts⟩ (c_X3_villager l D Y H.size r tr pp h sl q S x (nI k_47) 3) (cwV 2 hts gL_isRound_X3_villager rfl rfl rfl (by decide +kernel) ⟨Nat.le_of_ble_eq_true rfl, Nat.le_of_ble_eq_true rfl⟩) (psb_V (wr := wP Y pp tx P ++ (wHi Y h sa u ++ (wI Y a_2 9 S_1 ++ (wI Y a_7 9 (fillS (S 3) k_47) ++ wI Y a_12 9 (fillS (S 4) k_47))))) hK hP hD (pl_cons (List.Perm.refl _) (List.Perm.refl _)) (q0 := 0) rfl rfl) rfl rfl hl.1 rfl (lv_room (Nat.le_of_ble_eq_true rfl)) dL_isRound_72 ⟨Nat.le_of_ble_eq_true rfl, Nat.le_of_ble_eq_true rfl⟩) hP hD hS hA (pl_cons (List.Perm.refl _) (List.Perm.refl _)) (pl_cons (List.Perm.refl _) (List.Perm.refl _)) (fun H locs hP hD hS => ?_)
        refine W.widen (k := 3) (n := 27) (Nat.le_of_ble_eq_true rfl) (Nat.le_of_ble_eq_true rfl) ?_
        refine lv_topi (fun y9 e9 => ?_)
        obtain rfl : y9 = S 3 k_47 := e9.trans (vi_3 _ hk_47)
        refine va_iast (D := D) hx hb hK.1 hP hD hS 83 0 rfl rfl (vp_in_nI hk_47 (by decide)) dL_isRound_75 (fun H locs hP hD hS => ?_)
        have hP : va_P D vwCl (wX x r tr pp h sl ++ (wR Y r q S ++ (wP Y pp tx P ++ (wHi Y h sa u ++ (wI Y a_2 9 S_1 ++ (wI Y a_7 9 (T_L_isRound_2 S k_47) ++ wI Y a_12 9 (fillS (S 4) k_47))))))) H := hP
        have hD : va_D A (wX x r tr pp h sl ++ (wR Y r q S ++ (wP Y pp tx P ++ (wHi Y h sa u ++ (wI Y a_2 9 S_1 ++ (wI Y a_7 9 (T_L_isRound_2 S k_47) ++ wI Y a_12 9 (fillS (S 4) k_47))))))) := hD
        obtain ⟨S_2, eS_2⟩ : ∃ z9, T_L_isRound_2 S k_47 = z9 := ⟨_, rfl⟩
        rw [eS_2] at hP hD
        refine lv_aload hx hb dL_isRound_76 (lv_at hl 5 rfl) ?_
        refine lv_iload hx hb dL_isRound_78 (lv_at hl 0 rfl) ?_
        refine lv_aload_n hx hb dL_isRound_80 rfl (lv_at hl 8 rfl) ?_
        refine lv_iload hx hb dL_isRound_81 (lv_at hl 0 rfl) ?_
        refine lv_iconst (v := 4) hx hb dL_isRound_83 (by decide) ?_
        refine cb_iD (wr := wP Y pp tx P ++ (wHi Y h sa u ++ (wI Y a_2 9 S_1 ++ (wI Y a_7 9 S_2 ++ wI Y a_12 9 (fillS (S 4) k_47))))) (ws' := wX x r tr pp h sl ++ (wR Y r q S ++ (wP Y pp tx P ++ (wHi Y h sa u ++ (wI Y a_2 9 S_1 ++ (wI Y a_7 9 S_2 ++ wI Y a_12 9 (fillS (S 4) k_47))))))) (va_runV (As := [.int (nI k_47), .int 4]) (rest := [.int (nI k_47), .ref a_12]) ⟨hx, hb, hml, hown, hts⟩ (c_X3_villager l D Y H.size r tr pp h sl q S x (nI k_47) 4) (cwV 2 hts gL_isRound_X3_villager rfl rfl rfl (by decide +kernel) ⟨Nat.le_of_ble_eq_true rfl, Nat.le_of_ble_eq_true rfl⟩) (psb_V (wr := wP Y pp tx P ++ (wHi Y h sa u ++ (wI Y a_2 9 S_1 ++ (wI Y a_7 9 S_2 ++ wI Y a_12 9 (fillS (S 4) k_47))))) hK hP hD (pl_cons (List.Perm.refl _) (List.Perm.refl _)) (q0 := 0) rfl rfl) rfl rfl hl.1 rfl (lv_room (Nat.le_of_ble_eq_true rfl)) dL_isRound_84 ⟨Nat.le_of_ble_eq_true rfl, Nat.le_of_ble_eq_true rfl⟩) hP hD hS hA (pl_cons (List.Perm.refl _) (List.Perm.refl _)) (pl_cons (List.Perm.refl _) (List.Perm.refl _)) (fun H locs hP hD hS => ?_)
        refine W.widen (k := 3) (n := 27) (Nat.le_of_ble_eq_true rfl) (Nat.le_of_ble_eq_true rfl) ?_
        refine lv_topi (fun y9 e9 => ?_)
        obtain rfl : y9 = S 4 k_47 := e9.trans (vi_4 _ hk_47)
        refine va_iast (D := D) hx hb hK.1 hP hD hS 84 0 rfl rfl (vp_in_nI hk_47 (by decide)) dL_isRound_87 (fun H locs hP hD hS => ?_)
        have hP : va_P D vwCl (wX x r tr pp h sl ++ (wR Y r q S ++ (wP Y pp tx P ++ (wHi Y h sa u ++ (wI Y a_2 9 S_1 ++ (wI Y a_7 9 S_2 ++ wI Y a_12 9 (T_L_isRound_3 S k_47))))))) H := hP
        have hD : va_D A (wX x r tr pp h sl ++ (wR Y r q S ++ (wP Y pp tx P ++ (wHi Y h sa u ++ (wI Y a_2 9 S_1 ++ (wI Y a_7 9 S_2 ++ wI Y a_12 9 (T_L_isRound_3 S k_47))))))) := hD
        obtain ⟨S_3, eS_3⟩ : ∃ z9, T_L_isRound_3 S k_47 = z9 := ⟨_, rfl⟩
        rw [eS_3] at hP hD
        refine lv_iinc (v := (nI k_47) + 1) (lv' := [(9, .int ((nI k_47) + 1)), (8, .int (S 10 1)), (7, .int (sm (S 7) 81)), (6, .int (S 0 1)), (5, .int (S 0 0)), (4, .ref a_12), (3, .ref a_7), (2, .ref a_2), (0, .ref x), (1, .int (nI v))]) hx hb dL_isRound_88 hl (k := 0) rfl rfl (by decide) rfl (fun ls hl => ?_)
        refine lv_goto (tgt := 47) hx hb dL_isRound_91 (by decide) ?_
        have el_9 : nI (k_47 + 1) = (nI k_47) + 1 := (nI_1 k_47).symm
        have hl : lv_has ls 16 [(9, .int (nI (k_47 + 1))), (8, .int (S 10 1)), (7, .int (sm (S 7) 81)), (6, .int (S 0 1)), (5, .int (S 0 0)), (4, .ref a_12), (3, .ref a_7), (2, .ref a_2), (0, .ref x), (1, .int (nI v))] := by rw [el_9]; exact lv_sub hl [0, 1, 2, 3, 4, 5, 6, 7, 8, 9] rfl
        have eb_4 : fillS (S 1) (k_47 + 1) = S_1 := by rw [← eS_1]; exact fill_up hk_47
        have eb_5 : fillS (S 3) (k_47 + 1) = S_2 := by rw [← eS_2]; exact fill_up hk_47
        have eb_6 : fillS (S 4) (k_47 + 1) = S_3 := by rw [← eS_3]; exact fill_up hk_47
        have hP : va_P D vwCl (wX x r tr pp h sl ++ (wR Y r q S ++ (wP Y pp tx P ++ (wHi Y h sa u ++ (wI Y a_2 9 (fillS (S 1) (k_47 + 1)) ++ (wI Y a_7 9 (fillS (S 3) (k_47 + 1)) ++ wI Y a_12 9 (fillS (S 4) (k_47 + 1)))))))) H := by rw [eb_4, eb_5, eb_6]; exact hP
        have hD : va_D A (wX x r tr pp h sl ++ (wR Y r q S ++ (wP Y pp tx P ++ (wHi Y h sa u ++ (wI Y a_2 9 (fillS (S 1) (k_47 + 1)) ++ (wI Y a_7 9 (fillS (S 3) (k_47 + 1)) ++ wI Y a_12 9 (fillS (S 4) (k_47 + 1)))))))) := by rw [eb_4, eb_5, eb_6]; exact hD
        exact ih_47 (k_47 + 1) _ _ _ (by omega) (by omega) hP hD hS hl
  have hl : lv_has ls 16 [(9, .int (nI 0)), (8, .int (S 10 1)), (7, .int (sm (S 7) 81)), (6, .int (S 0 1)), (5, .int (S 0 0)), (4, .ref a_12), (3, .ref a_7), (2, .ref a_2), (0, .ref x), (1, .int (nI v))] := lv_sub hl [0, 1, 2, 3, 4, 5, 6, 7, 8, 9] rfl
  have eb_4 : fillS (S 1) 0 = (fun _ => 0) := fill_0 _
  have eb_5 : fillS (S 3) 0 = (fun _ => 0) := fill_0 _
  have eb_6 : fillS (S 4) 0 = (fun _ => 0) := fill_0 _
  have hP : va_P D vwCl (wX x r tr pp h sl ++ (wR Y r q S ++ (wP Y pp tx P ++ (wHi Y h sa u ++ (wI Y a_2 9 (fillS (S 1) 0) ++ (wI Y a_7 9 (fillS (S 3) 0) ++ wI Y a_12 9 (fillS (S 4) 0))))))) H := by rw [eb_4, eb_5, eb_6]; exact hP
  have hD : va_D A (wX x r tr pp h sl ++ (wR Y r q S ++ (wP Y pp tx P ++ (wHi Y h sa u ++ (wI Y a_2 9 (fillS (S 1) 0) ++ (wI Y a_7 9 (fillS (S 3) 0) ++ wI Y a_12 9 (fillS (S 4) 0))))))) := by rw [eb_4, eb_5, eb_6]; exact hD
  exact loop_47 10 0 _ _ _ (by omega) (by omega) hP hD hS hl

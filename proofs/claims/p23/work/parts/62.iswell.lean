set_option maxHeartbeats 4000000 in
set_option maxRecDepth 100000 in
theorem c_L_isWell (l : Launch) (D : va_G) (Y : YY) (sz : Nat) (r : Nat) (tr : Nat) (pp : Nat) (h : Nat) (sl : Nat) (q : Nat → Nat) (q1 : Nat → Nat) (tx : Nat) (sa : Nat) (S : Nat → Nat → Int32) (Z : Nat → Nat → Int32) (P : Nat → Nat → Int32) (u : HS) (n : Nat) (wt : va_W) (x : Nat) (hI : Inv n S) (hn : n ≤ 100) : Met l yL_isWell wsL_isWell ({ frames := 6, cells := 0, slots := 0, locals := 129 } : Room) (va_Pc [.ref x] (Pst D Y sz (wX x r tr pp h sl ++ (wR Y r q S ++ (wR Y tr q1 Z ++ (wP Y pp tx P ++ (wHi Y h sa u ++ wt))))))) ((fun A : Nat → Prop => Qsi D (fun r9 w9 => r9 = 1 ∧ ∃ Z9 : Nat → Nat → Int32, w9 = wX x r tr pp h sl ++ (wR Y r q S ++ (wR Y tr q1 Z9 ++ (wP Y pp tx P ++ (wHi Y h sa u ++ wt))))) A) (va_A (wX x r tr pp h sl ++ (wR Y r q S ++ (wR Y tr q1 Z ++ (wP Y pp tx P ++ (wHi Y h sa u ++ wt))))) sz)) 0 0 (va_A (wX x r tr pp h sl ++ (wR Y r q S ++ (wR Y tr q1 Z ++ (wP Y pp tx P ++ (wHi Y h sa u ++ wt))))) sz) := by
  refine ct_in (cc := cL_isWell) (maxL := 12) (ret := (some .boolean)) (Qc := fun A : Nat → Prop => Qsi D (fun r9 w9 => r9 = 1 ∧ ∃ Z9 : Nat → Nat → Int32, w9 = wX x r tr pp h sl ++ (wR Y r q S ++ (wR Y tr q1 Z9 ++ (wP Y pp tx P ++ (wHi Y h sa u ++ wt))))) A) (by decide +kernel) rfl (Nat.le_of_ble_eq_true rfl) ?_
  intro p e s m below meth c A ls hx hb hr hts hown hml hlk hin hsz hA hP hD hK hS hl
  have hown : s.vm.findClass RL = some m.cls := hown
  have hl : lv_has ls 12 [(0, .ref x)] := hl
  show W p l e ({ frames := 6, cells := 0, slots := 0, locals := 129 } : Room) s m ([.ref x] : List Value).toArray below meth c s.heap [] 0 0 (MQ below (Qsi D (fun r9 w9 => r9 = 1 ∧ ∃ Z9 : Nat → Nat → Int32, w9 = wX x r tr pp h sl ++ (wR Y r q S ++ (wR Y tr q1 Z9 ++ (wP Y pp tx P ++ (wHi Y h sa u ++ wt))))) A) ([.ref x] : List Value).toArray s 0 0 A) (F0 m 0 ls [])
  refine lv_iconst (v := 0) hx hb dL_isWell_0 (by decide) ?_
  refine lv_istore_n (lv' := [(1, .int 0), (0, .ref x)]) hx hb dL_isWell_1 rfl hl (by decide) rfl (fun ls hl => ?_)
  refine lv_iconst (v := 0) hx hb dL_isWell_2 (by decide) ?_
  refine lv_istore_n (lv' := [(2, .int 0), (1, .int 0), (0, .ref x)]) hx hb dL_isWell_3 rfl hl (by decide) rfl (fun ls hl => ?_)
  refine lv_iconst (v := 0) hx hb dL_isWell_4 (by decide) ?_
  refine lv_istore_n (lv' := [(3, .int 0), (2, .int 0), (1, .int 0), (0, .ref x)]) hx hb dL_isWell_5 rfl hl (by decide) rfl (fun ls hl => ?_)
  refine lv_iconst (v := 0) hx hb dL_isWell_6 (by decide) ?_
  refine lv_istore (lv' := [(4, .int 0), (3, .int 0), (2, .int 0), (1, .int 0), (0, .ref x)]) hx hb dL_isWell_7 hl (by decide) rfl (fun ls hl => ?_)
  refine lv_iconst (v := 0) hx hb dL_isWell_9 (by decide) ?_
  refine lv_istore (lv' := [(5, .int 0), (4, .int 0), (3, .int 0), (2, .int 0), (1, .int 0), (0, .ref x)]) hx hb dL_isWell_10 hl (by decide) rfl (fun ls hl => ?_)
  refine lv_iconst (v := 0) hx hb dL_isWell_12 (by decide) ?_
  refine lv_istore (lv' := [(6, .int 0), (5, .int 0), (4, .int 0), (3, .int 0), (2, .int 0), (1, .int 0), (0, .ref x)]) hx hb dL_isWell_13 hl (by decide) rfl (fun ls hl => ?_)
  refine lv_aload_n hx hb dL_isWell_15 rfl (lv_at hl 6 rfl) ?_
  refine lv_iconst (v := 0) hx hb dL_isWell_16 (by decide) ?_
  refine cb_iD (wr := wR Y tr q1 Z ++ (wP Y pp tx P ++ (wHi Y h sa u ++ wt))) (ws' := wX x r tr pp h sl ++ (wR Y r q S ++ (wR Y tr q1 Z ++ (wP Y pp tx P ++ (wHi Y h sa u ++ wt))))) (va_runV (As := [.int 0]) (rest := []) ⟨hx, hb, hml, hown, hts⟩ (c_X3_fewestRounds l D Y s.heap.size r tr pp h sl q S x 0) (cwV 1 hts gL_isWell_X3_fewestRounds rfl rfl rfl (by decide +kernel) ⟨Nat.le_of_ble_eq_true rfl, Nat.le_of_ble_eq_true rfl⟩) (psb_V (wr := wR Y tr q1 Z ++ (wP Y pp tx P ++ (wHi Y h sa u ++ wt))) hK hP hD (pl_cons (List.Perm.refl _) (List.Perm.refl _)) (q0 := 0) rfl rfl) rfl rfl hl.1 rfl (lv_room (Nat.le_of_ble_eq_true rfl)) dL_isWell_17 ⟨Nat.le_of_ble_eq_true rfl, Nat.le_of_ble_eq_true rfl⟩) hP hD hS hA (pl_cons (List.Perm.refl _) (List.Perm.refl _)) (pl_cons (List.Perm.refl _) (List.Perm.refl _)) (fun H locs hP hD hS => ?_)
  refine W.widen (k := 0) (n := 0) (Nat.le_of_ble_eq_true rfl) (Nat.le_of_ble_eq_true rfl) ?_
  refine lv_topi (fun y9 e9 => ?_)
  obtain rfl : y9 = D_X2_remaindersWithUnmetPair S := e9.trans (fw_0 S)
  refine lv_aload_n hx hb dL_isWell_20 rfl (lv_at hl 6 rfl) ?_
  refine lv_iconst (v := 1) hx hb dL_isWell_21 (by decide) ?_
  refine cb_iD (wr := wR Y tr q1 Z ++ (wP Y pp tx P ++ (wHi Y h sa u ++ wt))) (ws' := wX x r tr pp h sl ++ (wR Y r q S ++ (wR Y tr q1 Z ++ (wP Y pp tx P ++ (wHi Y h sa u ++ wt))))) (va_runV (As := [.int 1]) (rest := [.int (D_X2_remaindersWithUnmetPair S)]) ⟨hx, hb, hml, hown, hts⟩ (c_X3_fewestRounds l D Y H.size r tr pp h sl q S x 1) (cwV 1 hts gL_isWell_X3_fewestRounds rfl rfl rfl (by decide +kernel) ⟨Nat.le_of_ble_eq_true rfl, Nat.le_of_ble_eq_true rfl⟩) (psb_V (wr := wR Y tr q1 Z ++ (wP Y pp tx P ++ (wHi Y h sa u ++ wt))) hK hP hD (pl_cons (List.Perm.refl _) (List.Perm.refl _)) (q0 := 0) rfl rfl) rfl rfl hl.1 rfl (lv_room (Nat.le_of_ble_eq_true rfl)) dL_isWell_22 ⟨Nat.le_of_ble_eq_true rfl, Nat.le_of_ble_eq_true rfl⟩) hP hD hS hA (pl_cons (List.Perm.refl _) (List.Perm.refl _)) (pl_cons (List.Perm.refl _) (List.Perm.refl _)) (fun H locs hP hD hS => ?_)
  refine W.widen (k := 0) (n := 0) (Nat.le_of_ble_eq_true rfl) (Nat.le_of_ble_eq_true rfl) ?_
  refine lv_topi (fun y9 e9 => ?_)
  obtain rfl : y9 = D_X2_remaindersWithUnmetPair S := e9.trans (fw_1 S)
  refine lv_icmp_ne (tgt := 42) hx hb dL_isWell_25 (by decide) (fun c_1 => ?_) (fun c_1 => ?_)
  · exact absurd c_1 (fun q => q (rfl))
  · refine lv_aload_n hx hb dL_isWell_28 rfl (lv_at hl 6 rfl) ?_
    refine lv_iconst (v := 0) hx hb dL_isWell_29 (by decide) ?_
    refine cb_iD (wr := wR Y tr q1 Z ++ (wP Y pp tx P ++ (wHi Y h sa u ++ wt))) (ws' := wX x r tr pp h sl ++ (wR Y r q S ++ (wR Y tr q1 Z ++ (wP Y pp tx P ++ (wHi Y h sa u ++ wt))))) (va_runV (As := [.int 0]) (rest := []) ⟨hx, hb, hml, hown, hts⟩ (c_X3_fewestRounds l D Y H.size r tr pp h sl q S x 0) (cwV 1 hts gL_isWell_X3_fewestRounds rfl rfl rfl (by decide +kernel) ⟨Nat.le_of_ble_eq_true rfl, Nat.le_of_ble_eq_true rfl⟩) (psb_V (wr := wR Y tr q1 Z ++ (wP Y pp tx P ++ (wHi Y h sa u ++ wt))) hK hP hD (pl_cons (List.Perm.refl _) (List.Perm.refl _)) (q0 := 0) rfl rfl) rfl rfl hl.1 rfl (lv_room (Nat.le_of_ble_eq_true rfl)) dL_isWell_30 ⟨Nat.le_of_ble_eq_true rfl, Nat.le_of_ble_eq_true rfl⟩) hP hD hS hA (pl_cons (List.Perm.refl _) (List.Perm.refl _)) (pl_cons (List.Perm.refl _) (List.Perm.refl _)) (fun H locs hP hD hS => ?_)
    refine W.widen (k := 0) (n := 0) (Nat.le_of_ble_eq_true rfl) (Nat.le_of_ble_eq_true rfl) ?_
    refine lv_topi (fun y9 e9 => ?_)
    obtain rfl : y9 = D_X2_remaindersWithUnmetPair S := e9.trans (fw_0 S)
    refine lv_bipush (v := 9) hx hb dL_isWell_33 (by decide) ?_
    refine lv_icmp_gt (tgt := 42) hx hb dL_isWell_35 (by decide) (fun c_2 => ?_) (fun c_2 => ?_)
    · exact absurd c_2 (fw_9 S)
    · refine lv_iconst (v := 1) hx hb dL_isWell_38 (by decide) ?_
      refine lv_goto (tgt := 43) hx hb dL_isWell_39 (by decide) ?_
      refine lv_istore (lv' := [(7, .int 1), (6, .int 0), (5, .int 0), (4, .int 0), (3, .int 0), (2, .int 0), (1, .int 0), (0, .ref x)]) hx hb dL_isWell_43 hl (by decide) rfl (fun ls hl => ?_)
      refine lv_iconst (v := 0) hx hb dL_isWell_45 (by decide) ?_
      refine lv_istore (lv' := [(8, .int 0), (7, .int 1), (6, .int 0), (5, .int 0), (4, .int 0), (3, .int 0), (2, .int 0), (1, .int 0), (0, .ref x)]) hx hb dL_isWell_46 hl (by decide) rfl (fun ls hl => ?_)
      have loop_48 : ∀ (n_48 k_48 : Nat) (H : Heap) (locs : List Loc) (ls : Array Slot), 10 ≤ k_48 + n_48 → k_48 ≤ 9 → va_P D vwCl (wX x r tr pp h sl ++ (wR Y r q S ++ (wR Y tr q1 Z ++ (wP Y pp tx P ++ (wHi Y h sa u ++ wt))))) H → va_D A (wX x r tr pp h sl ++ (wR Y r q S ++ (wR Y tr q1 Z ++ (wP Y pp tx P ++ (wHi Y h sa u ++ wt))))) → va_S A s.heap H locs → lv_has ls 12 [(8, .int (nI k_48)), (7, .int 1), (6, .int (sm (S 9) k_48)), (5, .int (nI (uo S k_48))), (4, .int (sm (S 1) k_48)), (3, .int (sm (S 5) k_48)), (2, .int (sm (S 2) k_48)), (1, .int (sm (S 3) k_48)), (0, .ref x)] → W p l e ({ frames := 6, cells := 0, slots := 0, locals := 129 } : Room) s m ([.ref x] : List Value).toArray below meth c H locs 0 0 (MQ below (Qsi D (fun r9 w9 => r9 = 1 ∧ ∃ Z9 : Nat → Nat → Int32, w9 = wX x r tr pp h sl ++ (wR Y r q S ++ (wR Y tr q1 Z9 ++ (wP Y pp tx P ++ (wHi Y h sa u ++ wt))))) A) ([.ref x] : List Value).toArray s 0 0 A) (F0 m 48 ls []) := by
        intro n_48
        induction n_48 with
        | zero => intro k_48 H locs ls hkf hkN; exact absurd hkf (by omega)
        | succ n_48 ih_48 =>
          intro k_48 H locs ls hkf hkN hP hD hS hl
          refine lv_iload hx hb dL_isWell_48 (lv_at hl 0 rfl) ?_
          refine lv_bipush (v := 9) hx hb dL_isWell_50 (by decide) ?_
          refine lv_icmp_ge (tgt := 399) hx hb dL_isWell_52 (by decide) (fun c_3 => ?_) (fun c_3 => ?_)
          · obtain rfl : k_48 = 9 := by have := (nI_leI (a := 9) (by decide) (by omega)).mp c_3; omega
            refine lv_iload hx hb dL_isWell_399 (lv_at hl 1 rfl) ?_
            refine lv_if_eq (tgt := 496) hx hb dL_isWell_401 (by decide) (fun c_4 => ?_) (fun c_4 => ?_)
            · exact absurd c_4 (by decide)
            · refine lv_iload_n hx hb dL_isWell_404 rfl (lv_at hl 7 rfl) ?_
              refine lv_iconst (v := 2) hx hb dL_isWell_405 (by decide) ?_
              refine lv_aload_n hx hb dL_isWell_406 rfl (lv_at hl 8 rfl) ?_
              refine lv_iconst (v := 5) hx hb dL_isWell_407 (by decide) ?_
              refine cb_iD (wr := wR Y tr q1 Z ++ wt) (ws' := wX x r tr pp h sl ++ (wR Y r q S ++ (wR Y tr q1 Z ++ (wP Y pp tx P ++ (wHi Y h sa u ++ wt))))) (va_runV (As := [.int 5]) (rest := [.int 2, .int (sm (S 3) 9)]) ⟨hx, hb, hml, hown, hts⟩ (c_X3_count l D Y H.size r tr pp h sl q tx sa S P u x 5) (cwV 1 hts gL_isWell_X3_count rfl rfl rfl (by decide +kernel) ⟨Nat.le_of_ble_eq_true rfl, Nat.le_of_ble_eq_true rfl⟩) (psb_V (wr := wR Y tr q1 Z ++ wt) hK hP hD (pl_cons (List.Perm.refl _) (pl_cons (List.Perm.refl _) (pl_cons (pl_up (List.Perm.refl _)) (pl_up (List.Perm.refl _))))) (q0 := 0) rfl rfl) rfl rfl hl.1 rfl (lv_room (Nat.le_of_ble_eq_true rfl)) dL_isWell_408 ⟨Nat.le_of_ble_eq_true rfl, Nat.le_of_ble_eq_true rfl⟩) hP hD hS hA (pl_cons (List.Perm.refl _) (pl_cons (List.Perm.refl _) (pl_cons (pl_up (List.Perm.refl _)) (pl_up (List.Perm.refl _))))) (pl_cons (List.Perm.refl _) (pl_cons (List.Perm.refl _) (pl_cons (pl_up (List.Perm.refl _)) (pl_up (List.Perm.refl _))))) (fun H locs hP hD hS => ?_)
              refine W.widen (k := 0) (n := 0) (Nat.le_of_ble_eq_true rfl) (Nat.le_of_ble_eq_true rfl) ?_
              refine lv_topi (fun y9 e9 => ?_)
              obtain rfl : y9 = sm (S 7) 81 := e9.trans (ct_5 _ _ _)
              refine lv_imul hx hb dL_isWell_411 ?_
              refine lv_icmp_ne (tgt := 496) hx hb dL_isWell_412 (by decide) (fun c_5 => ?_) (fun c_5 => ?_)
              · exact absurd c_5 (fun q => q (we_dd hI hn))
              · refine lv_iload_n hx hb dL_isWell_415 rfl (lv_at hl 6 rfl) ?_
                refine lv_aload_n hx hb dL_isWell_416 rfl (lv_at hl 8 rfl) ?_
                refine lv_bipush (v := 6) hx hb dL_isWell_417 (by decide) ?_
                refine cb_iD (wr := wR Y tr q1 Z ++ wt) (ws' := wX x r tr pp h sl ++ (wR Y r q S ++ (wR Y tr q1 Z ++ (wP Y pp tx P ++ (wHi Y h sa u ++ wt))))) (va_runV (As := [.int 6]) (rest := [.int (sm (S 2) 9)]) ⟨hx, hb, hml, hown, hts⟩ (c_X3_count l D Y H.size r tr pp h sl q tx sa S P u x 6) (cwV 1 hts gL_isWell_X3_count rfl rfl rfl (by decide +kernel) ⟨Nat.le_of_ble_eq_true rfl, Nat.le_of_ble_eq_true rfl⟩) (psb_V (wr := wR Y tr q1 Z ++ wt) hK hP hD (pl_cons (List.Perm.refl _) (pl_cons (List.Perm.refl _) (pl_cons (pl_up (List.Perm.refl _)) (pl_up (List.Perm.refl _))))) (q0 := 0) rfl rfl) rfl rfl hl.1 rfl (lv_room (Nat.le_of_ble_eq_true rfl)) dL_isWell_419 ⟨Nat.le_of_ble_eq_true rfl, Nat.le_of_ble_eq_true rfl⟩) hP hD hS hA (pl_cons (List.Perm.refl _) (pl_cons (List.Perm.refl _) (pl_cons (pl_up (List.Perm.refl _)) (pl_up (List.Perm.refl _))))) (pl_cons (List.Perm.refl _) (pl_cons (List.Perm.refl _) (pl_cons (pl_up (List.Perm.refl _)) (pl_up (List.Perm.refl _))))) (fun H locs hP hD hS => ?_)
                refine W.widen (k := 0) (n := 0) (Nat.le_of_ble_eq_true rfl) (Nat.le_of_ble_eq_true rfl) ?_
                refine lv_topi (fun y9 e9 => ?_)
                obtain rfl : y9 = sm (S 2) 9 := e9.trans (ct_6 _ _ _)
                refine lv_icmp_ne (tgt := 496) hx hb dL_isWell_422 (by decide) (fun c_6 => ?_) (fun c_6 => ?_)
                · exact absurd c_6 (fun q => q (rfl))
                · refine lv_iload_n hx hb dL_isWell_425 rfl (lv_at hl 5 rfl) ?_
                  refine lv_aload_n hx hb dL_isWell_426 rfl (lv_at hl 8 rfl) ?_
                  refine lv_bipush (v := 8) hx hb dL_isWell_427 (by decide) ?_
                  refine cb_iD (wr := wR Y tr q1 Z ++ wt) (ws' := wX x r tr pp h sl ++ (wR Y r q S ++ (wR Y tr q1 Z ++ (wP Y pp tx P ++ (wHi Y h sa u ++ wt))))) (va_runV (As := [.int 8]) (rest := [.int (sm (S 5) 9)]) ⟨hx, hb, hml, hown, hts⟩ (c_X3_count l D Y H.size r tr pp h sl q tx sa S P u x 8) (cwV 1 hts gL_isWell_X3_count rfl rfl rfl (by decide +kernel) ⟨Nat.le_of_ble_eq_true rfl, Nat.le_of_ble_eq_true rfl⟩) (psb_V (wr := wR Y tr q1 Z ++ wt) hK hP hD (pl_cons (List.Perm.refl _) (pl_cons (List.Perm.refl _) (pl_cons (pl_up (List.Perm.refl _)) (pl_up (List.Perm.refl _))))) (q0 := 0) rfl rfl) rfl rfl hl.1 rfl (lv_room (Nat.le_of_ble_eq_true rfl)) dL_isWell_429 ⟨Nat.le_of_ble_eq_true rfl, Nat.le_of_ble_eq_true rfl⟩) hP hD hS hA (pl_cons (List.Perm.refl _) (pl_cons (List.Perm.refl _) (pl_cons (pl_up (List.Perm.refl _)) (pl_up (List.Perm.refl _))))) (pl_cons (List.Perm.refl _) (pl_cons (List.Perm.refl _) (pl_cons (pl_up (List.Perm.refl _)) (pl_up (List.Perm.refl _))))) (fun H locs hP hD hS => ?_)
                  refine W.widen (k := 0) (n := 0) (Nat.le_of_ble_eq_true rfl) (Nat.le_of_ble_eq_true rfl) ?_
                  refine lv_topi (fun y9 e9 => ?_)
                  obtain rfl : y9 = sm (S 5) 9 := e9.trans (ct_8 _ _ _)
                  refine lv_icmp_ne (tgt := 496) hx hb dL_isWell_432 (by decide) (fun c_7 => ?_) (fun c_7 => ?_)
                  · exact absurd c_7 (fun q => q (rfl))
                  · refine lv_iload hx hb dL_isWell_435 (lv_at hl 4 rfl) ?_
                    refine lv_aload_n hx hb dL_isWell_437 rfl (lv_at hl 8 rfl) ?_
                    refine lv_bipush (v := 9) hx hb dL_isWell_438 (by decide) ?_
                    refine cb_iD (wr := wR Y tr q1 Z ++ wt) (ws' := wX x r tr pp h sl ++ (wR Y r q S ++ (wR Y tr q1 Z ++ (wP Y pp tx P ++ (wHi Y h sa u ++ wt))))) (va_runV (As := [.int 9]) (rest := [.int (sm (S 1) 9)]) ⟨hx, hb, hml, hown, hts⟩ (c_X3_count l D Y H.size r tr pp h sl q tx sa S P u x 9) (cwV 1 hts gL_isWell_X3_count rfl rfl rfl (by decide +kernel) ⟨Nat.le_of_ble_eq_true rfl, Nat.le_of_ble_eq_true rfl⟩) (psb_V (wr := wR Y tr q1 Z ++ wt) hK hP hD (pl_cons (List.Perm.refl _) (pl_cons (List.Perm.refl _) (pl_cons (pl_up (List.Perm.refl _)) (pl_up (List.Perm.refl _))))) (q0 := 0) rfl rfl) rfl rfl hl.1 rfl (lv_room (Nat.le_of_ble_eq_true rfl)) dL_isWell_440 ⟨Nat.le_of_ble_eq_true rfl, Nat.le_of_ble_eq_true rfl⟩) hP hD hS hA (pl_cons (List.Perm.refl _) (pl_cons (List.Perm.refl _) (pl_cons (pl_up (List.Perm.refl _)) (pl_up (List.Perm.refl _))))) (pl_cons (List.Perm.refl _) (pl_cons (List.Perm.refl _) (pl_cons (pl_up (List.Perm.refl _)) (pl_up (List.Perm.refl _))))) (fun H locs hP hD hS => ?_)
                    refine W.widen (k := 0) (n := 0) (Nat.le_of_ble_eq_true rfl) (Nat.le_of_ble_eq_true rfl) ?_
                    refine lv_topi (fun y9 e9 => ?_)
                    obtain rfl : y9 = sm (S 1) 9 := e9.trans (ct_9 _ _ _)
                    refine lv_icmp_ne (tgt := 496) hx hb dL_isWell_443 (by decide) (fun c_8 => ?_) (fun c_8 => ?_)
                    · exact absurd c_8 (fun q => q (rfl))
                    · refine lv_iload hx hb dL_isWell_446 (lv_at hl 3 rfl) ?_
                      refine lv_aload_n hx hb dL_isWell_448 rfl (lv_at hl 8 rfl) ?_
                      refine lv_bipush (v := 7) hx hb dL_isWell_449 (by decide) ?_
                      refine cb_iD (wr := wR Y tr q1 Z ++ wt) (ws' := wX x r tr pp h sl ++ (wR Y r q S ++ (wR Y tr q1 Z ++ (wP Y pp tx P ++ (wHi Y h sa u ++ wt))))) (va_runV (As := [.int 7]) (rest := [.int (nI (uo S 9))]) ⟨hx, hb, hml, hown, hts⟩ (c_X3_count l D Y H.size r tr pp h sl q tx sa S P u x 7) (cwV 1 hts gL_isWell_X3_count rfl rfl rfl (by decide +kernel) ⟨Nat.le_of_ble_eq_true rfl, Nat.le_of_ble_eq_true rfl⟩) (psb_V (wr := wR Y tr q1 Z ++ wt) hK hP hD (pl_cons (List.Perm.refl _) (pl_cons (List.Perm.refl _) (pl_cons (pl_up (List.Perm.refl _)) (pl_up (List.Perm.refl _))))) (q0 := 0) rfl rfl) rfl rfl hl.1 rfl (lv_room (Nat.le_of_ble_eq_true rfl)) dL_isWell_451 ⟨Nat.le_of_ble_eq_true rfl, Nat.le_of_ble_eq_true rfl⟩) hP hD hS hA (pl_cons (List.Perm.refl _) (pl_cons (List.Perm.refl _) (pl_cons (pl_up (List.Perm.refl _)) (pl_up (List.Perm.refl _))))) (pl_cons (List.Perm.refl _) (pl_cons (List.Perm.refl _) (pl_cons (pl_up (List.Perm.refl _)) (pl_up (List.Perm.refl _))))) (fun H locs hP hD hS => ?_)
                      refine W.widen (k := 0) (n := 0) (Nat.le_of_ble_eq_true rfl) (Nat.le_of_ble_eq_true rfl) ?_
                      refine lv_topi (fun y9 e9 => ?_)
                      obtain rfl : y9 = nI (U S) := e9.trans (ct_7 _ _ _)
                      refine lv_icmp_ne (tgt := 496) hx hb dL_isWell_454 (by decide) (fun c_9 => ?_) (fun c_9 => ?_)
                      · exact absurd c_9 (fun q => q (we_u))
                      · refine lv_iload hx hb dL_isWell_457 (lv_at hl 2 rfl) ?_
                        refine lv_aload_n hx hb dL_isWell_459 rfl (lv_at hl 8 rfl) ?_
                        refine lv_iconst (v := 3) hx hb dL_isWell_460 (by decide) ?_
                        refine cb_iD (wr := wR Y tr q1 Z ++ wt) (ws' := wX x r tr pp h sl ++ (wR Y r q S ++ (wR Y tr q1 Z ++ (wP Y pp tx P ++ (wHi Y h sa u ++ wt))))) (va_runV (As := [.int 3]) (rest := [.int (sm (S 9) 9)]) ⟨hx, hb, hml, hown, hts⟩ (c_X3_count l D Y H.size r tr pp h sl q tx sa S P u x 3) (cwV 1 hts gL_isWell_X3_count rfl rfl rfl (by decide +kernel) ⟨Nat.le_of_ble_eq_true rfl, Nat.le_of_ble_eq_true rfl⟩) (psb_V (wr := wR Y tr q1 Z ++ wt) hK hP hD (pl_cons (List.Perm.refl _) (pl_cons (List.Perm.refl _) (pl_cons (pl_up (List.Perm.refl _)) (pl_up (List.Perm.refl _))))) (q0 := 0) rfl rfl) rfl rfl hl.1 rfl (lv_room (Nat.le_of_ble_eq_true rfl)) dL_isWell_461 ⟨Nat.le_of_ble_eq_true rfl, Nat.le_of_ble_eq_true rfl⟩) hP hD hS hA (pl_cons (List.Perm.refl _) (pl_cons (List.Perm.refl _) (pl_cons (pl_up (List.Perm.refl _)) (pl_up (List.Perm.refl _))))) (pl_cons (List.Perm.refl _) (pl_cons (List.Perm.refl _) (pl_cons (pl_up (List.Perm.refl _)) (pl_up (List.Perm.refl _))))) (fun H locs hP hD hS => ?_)
                        refine W.widen (k := 0) (n := 0) (Nat.le_of_ble_eq_true rfl) (Nat.le_of_ble_eq_true rfl) ?_
                        refine lv_topi (fun y9 e9 => ?_)
                        obtain rfl : y9 = S 10 1 := e9.trans (ct_3 _ _ _)
                        refine lv_icmp_ne (tgt := 496) hx hb dL_isWell_464 (by decide) (fun c_10 => ?_) (fun c_10 => ?_)
                        · exact absurd c_10 (fun q => q (we_9 hI))
                        · refine lv_iload hx hb dL_isWell_467 (lv_at hl 3 rfl) ?_
                          refine lv_if_ne (tgt := 476) hx hb dL_isWell_469 (by decide) (fun c_11 => ?_) (fun c_11 => ?_)
                          · refine lv_iconst (v := 0) hx hb dL_isWell_476 (by decide) ?_
                            refine lv_aload_n hx hb dL_isWell_477 rfl (lv_at hl 8 rfl) ?_
                            refine cb_iD (wr := wP Y pp tx P ++ (wHi Y h sa u ++ wt)) (ws' := wX x r tr pp h sl ++ (wR Y r q S ++ (wR Y tr q1 ((D_X3_untilAllMet S Z).2) ++ (wP Y pp tx P ++ (wHi Y h sa u ++ wt))))) (va_runV (As := []) (rest := [.int 0]) ⟨hx, hb, hml, hown, hts⟩ (c_X3_untilAllMet l D Y H.size r tr pp h sl q q1 S Z x) (cwV 0 hts gL_isWell_X3_untilAllMet rfl rfl rfl (by decide +kernel) ⟨Nat.le_of_ble_eq_true rfl, Nat.le_of_ble_eq_true rfl⟩) (psb_V (wr := wP Y pp tx P ++ (wHi Y h sa u ++ wt)) hK hP hD (pl_cons (List.Perm.refl _) (pl_cons (List.Perm.refl _) (List.Perm.refl _))) (q0 := 0) rfl rfl) rfl rfl hl.1 rfl (lv_room (Nat.le_of_ble_eq_true rfl)) dL_isWell_478 ⟨Nat.le_of_ble_eq_true rfl, Nat.le_of_ble_eq_true rfl⟩) hP hD hS hA (pl_cons (List.Perm.refl _) (pl_cons (List.Perm.refl _) (List.Perm.refl _))) (pl_cons (List.Perm.refl _) (pl_cons (List.Perm.refl _) (List.Perm.refl _))) (fun H locs hP hD hS => ?_)
                            refine W.widen (k := 0) (n := 0) (Nat.le_of_ble_eq_true rfl) (Nat.le_of_ble_eq_true rfl) ?_
                            refine lv_if_ne (tgt := 488) hx hb dL_isWell_481 (by decide) (fun c_12 => ?_) (fun c_12 => ?_)
                            · refine lv_iconst (v := 0) hx hb dL_isWell_488 (by decide) ?_
                              refine lv_icmp_ne (tgt := 496) hx hb dL_isWell_489 (by decide) (fun c_13 => ?_) (fun c_13 => ?_)
                              · exact absurd c_13 (by decide)
                              · refine lv_iconst (v := 1) hx hb dL_isWell_492 (by decide) ?_
                                refine lv_goto (tgt := 497) hx hb dL_isWell_493 (by decide) ?_
                                exact ret_z hx hb hr rfl hlk hP hD hS dL_isWell_497 ⟨Nat.zero_le _, Nat.zero_le _⟩ ⟨rfl, _, rfl⟩
                            · exact absurd c_12 (fun q => c_11 (we_z.mpr ((until_0 S Z).mp q)))
                          · refine lv_iconst (v := 1) hx hb dL_isWell_472 (by decide) ?_
                            refine lv_goto (tgt := 477) hx hb dL_isWell_473 (by decide) ?_
                            refine lv_aload_n hx hb dL_isWell_477 rfl (lv_at hl 8 rfl) ?_
                            refine cb_iD (wr := wP Y pp tx P ++ (wHi Y h sa u ++ wt)) (ws' := wX x r tr pp h sl ++ (wR Y r q S ++ (wR Y tr q1 ((D_X3_untilAllMet S Z).2) ++ (wP Y pp tx P ++ (wHi Y h sa u ++ wt))))) (va_runV (As := []) (rest := [.int 1]) ⟨hx, hb, hml, hown, hts⟩ (c_X3_untilAllMet l D Y H.size r tr pp h sl q q1 S Z x) (cwV 0 hts gL_isWell_X3_untilAllMet rfl rfl rfl (by decide +kernel) ⟨Nat.le_of_ble_eq_true rfl, Nat.le_of_ble_eq_true rfl⟩) (psb_V (wr := wP Y pp tx P ++ (wHi Y h sa u ++ wt)) hK hP hD (pl_cons (List.Perm.refl _) (pl_cons (List.Perm.refl _) (List.Perm.refl _))) (q0 := 0) rfl rfl) rfl rfl hl.1 rfl (lv_room (Nat.le_of_ble_eq_true rfl)) dL_isWell_478 ⟨Nat.le_of_ble_eq_true rfl, Nat.le_of_ble_eq_true rfl⟩) hP hD hS hA (pl_cons (List.Perm.refl _) (pl_cons (List.Perm.refl _) (List.Perm.refl _))) (pl_cons (List.Perm.refl _) (pl_cons (List.Perm.refl _) (List.Perm.refl _))) (fun H locs hP hD hS => ?_)
                            refine W.widen (k := 0) (n := 0) (Nat.le_of_ble_eq_true rfl) (Nat.le_of_ble_eq_true rfl) ?_
                            refine lv_if_ne (tgt := 488) hx hb dL_isWell_481 (by decide) (fun c_14 => ?_) (fun c_14 => ?_)
                            · exact absurd c_14 (fun q => q ((until_0 S Z).mpr (we_z.mp c_11)))
                            · refine lv_iconst (v := 1) hx hb dL_isWell_484 (by decide) ?_
                              refine lv_goto (tgt := 489) hx hb dL_isWell_485 (by decide) ?_
                              refine lv_icmp_ne (tgt := 496) hx hb dL_isWell_489 (by decide) (fun c_15 => ?_) (fun c_15 => ?_)
                              · exact absurd c_15 (by decide)
                              · refine lv_iconst (v := 1) hx hb dL_isWell_492 (by decide) ?_
                                refine lv_goto (tgt := 497) hx hb dL_isWell_493 (by decide) ?_
                                exact ret_z hx hb hr rfl hlk hP hD hS dL_isWell_497 ⟨Nat.zero_le _, Nat.zero_le _⟩ ⟨rfl, _, rfl⟩
          · have hk_48 : k_48 < 9 := my_lt rfl (show (9 : Int32) = nI 9 from rfl) (by decide) hkN c_3
            refine lv_iconst (v := 0) hx hb dL_isWell_55 (by decide) ?_
            refine lv_istore (lv' := [(9, .int 0), (8, .int (nI k_48)), (7, .int 1), (6, .int (sm (S 9) k_48)), (5, .int (nI (uo S k_48))), (4, .int (sm (S 1) k_48)), (3, .int (sm (S 5) k_48)), (2, .int (sm (S 2) k_48)), (1, .int (sm (S 3) k_48)), (0, .ref x)]) hx hb dL_isWell_56 hl (by decide) rfl (fun ls hl => ?_)
            refine lv_iload_n hx hb dL_isWell_58 rfl (lv_at hl 7 rfl) ?_
            refine lv_aload_n hx hb dL_isWell_59 rfl (lv_at hl 9 rfl) ?_
            refine lv_iload hx hb dL_isWell_60 (lv_at hl 1 rfl) ?_
            refine lv_iconst (v := 2) hx hb dL_isWell_62 (by decide) ?_
            refine cb_iD (wr := wR Y tr q1 Z ++ (wP Y pp tx P ++ (wHi Y h sa u ++ wt))) (ws' := wX x r tr pp h sl ++ (wR Y r q S ++ (wR Y tr q1 Z ++ (wP Y pp tx P ++ (wHi Y h sa u ++ wt))))) (va_runV (As := [.int (nI k_48), .int 2]) (rest := [.int (sm (S 2) k_48)]) ⟨hx, hb, hml, hown, hts⟩ (c_X3_villager l D Y H.size r tr pp h sl q S x (nI k_48) 2) (cwV 2 hts gL_isWell_X3_villager rfl rfl rfl (by decide +kernel) ⟨Nat.le_of_ble_eq_true rfl, Nat.le_of_ble_eq_true rfl⟩) (psb_V (wr := wR Y tr q1 Z ++ (wP Y pp tx P ++ (wHi Y h sa u ++ wt))) hK hP hD (pl_cons (List.Perm.refl _) (List.Perm.refl _)) (q0 := 0) rfl rfl) rfl rfl hl.1 rfl (lv_room (Nat.le_of_ble_eq_true rfl)) dL_isWell_63 ⟨Nat.le_of_ble_eq_true rfl, Nat.le_of_ble_eq_true rfl⟩) hP hD hS hA (pl_cons (List.Perm.refl _) (List.Perm.refl _)) (pl_cons (List.Perm.refl _) (List.Perm.refl _)) (fun H locs hP hD hS => ?_)
            refine W.widen (k := 0) (n := 0) (Nat.le_of_ble_eq_true rfl) (Nat.le_of_ble_eq_true rfl) ?_
            refine lv_topi (fun y9 e9 => ?_)
            obtain rfl : y9 = S 2 k_48 := e9.trans (vi_2 S hk_48)
            refine lv_iadd hx hb dL_isWell_66 ?_
            refine lv_istore_n (lv' := [(2, .int ((sm (S 2) k_48) + (S 2 k_48))), (9, .int 0), (8, .int (nI k_48)), (7, .int 1), (6, .int (sm (S 9) k_48)), (5, .int (nI (uo S k_48))), (4, .int (sm (S 1) k_48)), (3, .int (sm (S 5) k_48)), (1, .int (sm (S 3) k_48)), (0, .ref x)]) hx hb dL_isWell_67 rfl hl (by decide) rfl (fun ls hl => ?_)
            refine lv_iload_n hx hb dL_isWell_68 rfl (lv_at hl 7 rfl) ?_
            refine lv_aload_n hx hb dL_isWell_69 rfl (lv_at hl 9 rfl) ?_
            refine lv_iload hx hb dL_isWell_70 (lv_at hl 2 rfl) ?_
            refine lv_iconst (v := 5) hx hb dL_isWell_72 (by decide) ?_
            refine cb_iD (wr := wR Y tr q1 Z ++ (wP Y pp tx P ++ (wHi Y h sa u ++ wt))) (ws' := wX x r tr pp h sl ++ (wR Y r q S ++ (wR Y tr q1 Z ++ (wP Y pp tx P ++ (wHi Y h sa u ++ wt))))) (va_runV (As := [.int (nI k_48), .int 5]) (rest := [.int (sm (S 5) k_48)]) ⟨hx, hb, hml, hown, hts⟩ (c_X3_villager l D Y H.size r tr pp h sl q S x (nI k_48) 5) (cwV 2 hts gL_isWell_X3_villager rfl rfl rfl (by decide +kernel) ⟨Nat.le_of_ble_eq_true rfl, Nat.le_of_ble_eq_true rfl⟩) (psb_V (wr := wR Y tr q1 Z ++ (wP Y pp tx P ++ (wHi Y h sa u ++ wt))) hK hP hD (pl_cons (List.Perm.refl _) (List.Perm.refl _)) (q0 := 0) rfl rfl) rfl rfl hl.1 rfl (lv_room (Nat.le_of_ble_eq_true rfl)) dL_isWell_73 ⟨Nat.le_of_ble_eq_true rfl, Nat.le_of_ble_eq_true rfl⟩) hP hD hS hA (pl_cons (List.Perm.refl _) (List.Perm.refl _)) (pl_cons (List.Perm.refl _) (List.Perm.refl _)) (fun H locs hP hD hS => ?_)
            refine W.widen (k := 0) (n := 0) (Nat.le_of_ble_eq_true rfl) (Nat.le_of_ble_eq_true rfl) ?_
            refine lv_topi (fun y9 e9 => ?_)
            obtain rfl : y9 = S 5 k_48 := e9.trans (vi_5 S hk_48)
            refine lv_iadd hx hb dL_isWell_76 ?_
            refine lv_istore_n (lv' := [(3, .int ((sm (S 5) k_48) + (S 5 k_48))), (2, .int ((sm (S 2) k_48) + (S 2 k_48))), (9, .int 0), (8, .int (nI k_48)), (7, .int 1), (6, .int (sm (S 9) k_48)), (5, .int (nI (uo S k_48))), (4, .int (sm (S 1) k_48)), (1, .int (sm (S 3) k_48)), (0, .ref x)]) hx hb dL_isWell_77 rfl hl (by decide) rfl (fun ls hl => ?_)
            refine lv_iload hx hb dL_isWell_78 (lv_at hl 7 rfl) ?_
            refine lv_aload_n hx hb dL_isWell_80 rfl (lv_at hl 9 rfl) ?_
            refine lv_iload hx hb dL_isWell_81 (lv_at hl 3 rfl) ?_
            refine lv_iconst (v := 1) hx hb dL_isWell_83 (by decide) ?_
            refine cb_iD (wr := wR Y tr q1 Z ++ (wP Y pp tx P ++ (wHi Y h sa u ++ wt))) (ws' := wX x r tr pp h sl ++ (wR Y r q S ++ (wR Y tr q1 Z ++ (wP Y pp tx P ++ (wHi Y h sa u ++ wt))))) (va_runV (As := [.int (nI k_48), .int 1]) (rest := [.int (sm (S 1) k_48)]) ⟨hx, hb, hml, hown, hts⟩ (c_X3_villager l D Y H.size r tr pp h sl q S x (nI k_48) 1) (cwV 2 hts gL_isWell_X3_villager rfl rfl rfl (by decide +kernel) ⟨Nat.le_of_ble_eq_true rfl, Nat.le_of_ble_eq_true rfl⟩) (psb_V (wr := wR Y tr q1 Z ++ (wP Y pp tx P ++ (wHi Y h sa u ++ wt))) hK hP hD (pl_cons (List.Perm.refl _) (List.Perm.refl _)) (q0 := 0) rfl rfl) rfl rfl hl.1 rfl (lv_room (Nat.le_of_ble_eq_true rfl)) dL_isWell_84 ⟨Nat.le_of_ble_eq_true rfl, Nat.le_of_ble_eq_true rfl⟩) hP hD hS hA (pl_cons (List.Perm.refl _) (List.Perm.refl _)) (pl_cons (List.Perm.refl _) (List.Perm.refl _)) (fun H locs hP hD hS => ?_)
            refine W.widen (k := 0) (n := 0) (Nat.le_of_ble_eq_true rfl) (Nat.le_of_ble_eq_true rfl) ?_
            refine lv_topi (fun y9 e9 => ?_)
            obtain rfl : y9 = S 1 k_48 := e9.trans (vi_1 S hk_48)
            refine lv_iadd hx hb dL_isWell_87 ?_
            refine lv_istore (lv' := [(4, .int ((sm (S 1) k_48) + (S 1 k_48))), (3, .int ((sm (S 5) k_48) + (S 5 k_48))), (2, .int ((sm (S 2) k_48) + (S 2 k_48))), (9, .int 0), (8, .int (nI k_48)), (7, .int 1), (6, .int (sm (S 9) k_48)), (5, .int (nI (uo S k_48))), (1, .int (sm (S 3) k_48)), (0, .ref x)]) hx hb dL_isWell_88 hl (by decide) rfl (fun ls hl => ?_)
            refine lv_iconst (v := 0) hx hb dL_isWell_90 (by decide) ?_
            refine lv_istore (lv' := [(10, .int 0), (4, .int ((sm (S 1) k_48) + (S 1 k_48))), (3, .int ((sm (S 5) k_48) + (S 5 k_48))), (2, .int ((sm (S 2) k_48) + (S 2 k_48))), (9, .int 0), (8, .int (nI k_48)), (7, .int 1), (6, .int (sm (S 9) k_48)), (5, .int (nI (uo S k_48))), (1, .int (sm (S 3) k_48)), (0, .ref x)]) hx hb dL_isWell_91 hl (by decide) rfl (fun ls hl => ?_)
            have loop_93 : ∀ (n_93 k_93 : Nat) (H : Heap) (locs : List Loc) (ls : Array Slot), 10 ≤ k_93 + n_93 → k_93 ≤ 9 → va_P D vwCl (wX x r tr pp h sl ++ (wR Y r q S ++ (wR Y tr q1 Z ++ (wP Y pp tx P ++ (wHi Y h sa u ++ wt))))) H → va_D A (wX x r tr pp h sl ++ (wR Y r q S ++ (wR Y tr q1 Z ++ (wP Y pp tx P ++ (wHi Y h sa u ++ wt))))) → va_S A s.heap H locs → lv_has ls 12 [(10, .int (nI k_93)), (4, .int ((sm (S 1) k_48) + (S 1 k_48))), (3, .int ((sm (S 5) k_48) + (S 5 k_48))), (2, .int ((sm (S 2) k_48) + (S 2 k_48))), (9, .int (sm (dw S k_48) k_93)), (8, .int (nI k_48)), (7, .int 1), (6, .int (sm (S 9) k_48)), (5, .int (nI (uo S k_48 + ui S k_48 k_93))), (1, .int (sm (S 3) k_48)), (0, .ref x)] → W p l e ({ frames := 6, cells := 0, slots := 0, locals := 129 } : Room) s m ([.ref x] : List Value).toArray below meth c H locs 0 0 (MQ below (Qsi D (fun r9 w9 => r9 = 1 ∧ ∃ Z9 : Nat → Nat → Int32, w9 = wX x r tr pp h sl ++ (wR Y r q S ++ (wR Y tr q1 Z9 ++ (wP Y pp tx P ++ (wHi Y h sa u ++ wt))))) A) ([.ref x] : List Value).toArray s 0 0 A) (F0 m 93 ls []) := by
              intro n_93
              induction n_93 with
              | zero => intro k_93 H locs ls hkf hkN; exact absurd hkf (by omega)
              | succ n_93 ih_93 =>
                intro k_93 H locs ls hkf hkN hP hD hS hl
                refine lv_iload hx hb dL_isWell_93 (lv_at hl 0 rfl) ?_
                refine lv_bipush (v := 9) hx hb dL_isWell_95 (by decide) ?_
                refine lv_icmp_ge (tgt := 273) hx hb dL_isWell_97 (by decide) (fun c_16 => ?_) (fun c_16 => ?_)
                · obtain rfl : k_93 = 9 := by have := (nI_leI (a := 9) (by decide) (by omega)).mp c_16; omega
                  have join_302_j_17 : ∀ (H : Heap) (locs : List Loc) (ls : Array Slot), va_P D vwCl (wX x r tr pp h sl ++ (wR Y r q S ++ (wR Y tr q1 Z ++ (wP Y pp tx P ++ (wHi Y h sa u ++ wt))))) H → va_D A (wX x r tr pp h sl ++ (wR Y r q S ++ (wR Y tr q1 Z ++ (wP Y pp tx P ++ (wHi Y h sa u ++ wt))))) → va_S A s.heap H locs → lv_has ls 12 [(6, .int (sm (S 9) (k_48 + 1))), (10, .int (nI 9)), (4, .int ((sm (S 1) k_48) + (S 1 k_48))), (3, .int ((sm (S 5) k_48) + (S 5 k_48))), (2, .int ((sm (S 2) k_48) + (S 2 k_48))), (9, .int (sm (dw S k_48) 9)), (8, .int (nI k_48)), (7, .int 1), (5, .int (nI (uo S k_48 + ui S k_48 9))), (1, .int (sm (S 3) k_48)), (0, .ref x)] → W p l e ({ frames := 6, cells := 0, slots := 0, locals := 129 } : Room) s m ([.ref x] : List Value).toArray below meth c H locs 0 0 (MQ below (Qsi D (fun r9 w9 => r9 = 1 ∧ ∃ Z9 : Nat → Nat → Int32, w9 = wX x r tr pp h sl ++ (wR Y r q S ++ (wR Y tr q1 Z9 ++ (wP Y pp tx P ++ (wHi Y h sa u ++ wt))))) A) ([.ref x] : List Value).toArray s 0 0 A) (F0 m 302 ls []) := by
                    intro H locs ls hP hD hS hl
                    refine lv_iload_n hx hb dL_isWell_302 rfl (lv_at hl 9 rfl) ?_
                    refine lv_iload hx hb dL_isWell_303 (lv_at hl 5 rfl) ?_
                    refine lv_iadd hx hb dL_isWell_305 ?_
                    refine lv_istore_n (lv' := [(1, .int ((sm (S 3) k_48) + (sm (dw S k_48) 9))), (6, .int (sm (S 9) (k_48 + 1))), (10, .int (nI 9)), (4, .int ((sm (S 1) k_48) + (S 1 k_48))), (3, .int ((sm (S 5) k_48) + (S 5 k_48))), (2, .int ((sm (S 2) k_48) + (S 2 k_48))), (9, .int (sm (dw S k_48) 9)), (8, .int (nI k_48)), (7, .int 1), (5, .int (nI (uo S k_48 + ui S k_48 9))), (0, .ref x)]) hx hb dL_isWell_306 rfl hl (by decide) rfl (fun ls hl => ?_)
                    refine lv_iload hx hb dL_isWell_307 (lv_at hl 8 rfl) ?_
                    refine lv_if_eq (tgt := 390) hx hb dL_isWell_309 (by decide) (fun c_18 => ?_) (fun c_18 => ?_)
                    · exact absurd c_18 (by decide)
                    · refine lv_iload hx hb dL_isWell_312 (lv_at hl 6 rfl) ?_
                      refine lv_aload_n hx hb dL_isWell_314 rfl (lv_at hl 10 rfl) ?_
                      refine lv_iload hx hb dL_isWell_315 (lv_at hl 7 rfl) ?_
                      refine lv_iconst (v := 3) hx hb dL_isWell_317 (by decide) ?_
                      refine cb_iD (wr := wR Y tr q1 Z ++ (wP Y pp tx P ++ (wHi Y h sa u ++ wt))) (ws' := wX x r tr pp h sl ++ (wR Y r q S ++ (wR Y tr q1 Z ++ (wP Y pp tx P ++ (wHi Y h sa u ++ wt))))) (va_runV (As := [.int (nI k_48), .int 3]) (rest := [.int (sm (dw S k_48) 9)]) ⟨hx, hb, hml, hown, hts⟩ (c_X3_villager l D Y H.size r tr pp h sl q S x (nI k_48) 3) (cwV 2 hts gL_isWell_X3_villager rfl rfl rfl (by decide +kernel) ⟨Nat.le_of_ble_eq_true rfl, Nat.le_of_ble_eq_true rfl⟩) (psb_V (wr := wR Y tr q1 Z ++ (wP Y pp tx P ++ (wHi Y h sa u ++ wt))) hK hP hD (pl_cons (List.Perm.refl _) (List.Perm.refl _)) (q0 := 0) rfl rfl) rfl rfl hl.1 rfl (lv_room (Nat.le_of_ble_eq_true rfl)) dL_isWell_318 ⟨Nat.le_of_ble_eq_true rfl, Nat.le_of_ble_eq_true rfl⟩) hP hD hS hA (pl_cons (List.Perm.refl _) (List.Perm.refl _)) (pl_cons (List.Perm.refl _) (List.Perm.refl _)) (fun H locs hP hD hS => ?_)
                      refine W.widen (k := 0) (n := 0) (Nat.le_of_ble_eq_true rfl) (Nat.le_of_ble_eq_true rfl) ?_
                      refine lv_topi (fun y9 e9 => ?_)
                      obtain rfl : y9 = S 3 k_48 := e9.trans (vi_3 S hk_48)
                      refine lv_icmp_ne (tgt := 390) hx hb dL_isWell_321 (by decide) (fun c_19 => ?_) (fun c_19 => ?_)
                      · exact absurd c_19 (fun q => q (we_d3 hI hk_48))
                      · refine lv_aload_n hx hb dL_isWell_324 rfl (lv_at hl 10 rfl) ?_
                        refine lv_iload hx hb dL_isWell_325 (lv_at hl 7 rfl) ?_
                        refine lv_iconst (v := 5) hx hb dL_isWell_327 (by decide) ?_
                        refine cb_iD (wr := wR Y tr q1 Z ++ (wP Y pp tx P ++ (wHi Y h sa u ++ wt))) (ws' := wX x r tr pp h sl ++ (wR Y r q S ++ (wR Y tr q1 Z ++ (wP Y pp tx P ++ (wHi Y h sa u ++ wt))))) (va_runV (As := [.int (nI k_48), .int 5]) (rest := []) ⟨hx, hb, hml, hown, hts⟩ (c_X3_villager l D Y H.size r tr pp h sl q S x (nI k_48) 5) (cwV 2 hts gL_isWell_X3_villager rfl rfl rfl (by decide +kernel) ⟨Nat.le_of_ble_eq_true rfl, Nat.le_of_ble_eq_true rfl⟩) (psb_V (wr := wR Y tr q1 Z ++ (wP Y pp tx P ++ (wHi Y h sa u ++ wt))) hK hP hD (pl_cons (List.Perm.refl _) (List.Perm.refl _)) (q0 := 0) rfl rfl) rfl rfl hl.1 rfl (lv_room (Nat.le_of_ble_eq_true rfl)) dL_isWell_328 ⟨Nat.le_of_ble_eq_true rfl, Nat.le_of_ble_eq_true rfl⟩) hP hD hS hA (pl_cons (List.Perm.refl _) (List.Perm.refl _)) (pl_cons (List.Perm.refl _) (List.Perm.refl _)) (fun H locs hP hD hS => ?_)
                        refine W.widen (k := 0) (n := 0) (Nat.le_of_ble_eq_true rfl) (Nat.le_of_ble_eq_true rfl) ?_
                        refine lv_topi (fun y9 e9 => ?_)
                        obtain rfl : y9 = S 5 k_48 := e9.trans (vi_5 S hk_48)
                        refine lv_aload_n hx hb dL_isWell_331 rfl (lv_at hl 10 rfl) ?_
                        refine lv_iload hx hb dL_isWell_332 (lv_at hl 7 rfl) ?_
                        refine lv_iconst (v := 4) hx hb dL_isWell_334 (by decide) ?_
                        refine cb_iD (wr := wR Y tr q1 Z ++ (wP Y pp tx P ++ (wHi Y h sa u ++ wt))) (ws' := wX x r tr pp h sl ++ (wR Y r q S ++ (wR Y tr q1 Z ++ (wP Y pp tx P ++ (wHi Y h sa u ++ wt))))) (va_runV (As := [.int (nI k_48), .int 4]) (rest := [.int (S 5 k_48)]) ⟨hx, hb, hml, hown, hts⟩ (c_X3_villager l D Y H.size r tr pp h sl q S x (nI k_48) 4) (cwV 2 hts gL_isWell_X3_villager rfl rfl rfl (by decide +kernel) ⟨Nat.le_of_ble_eq_true rfl, Nat.le_of_ble_eq_true rfl⟩) (psb_V (wr := wR Y tr q1 Z ++ (wP Y pp tx P ++ (wHi Y h sa u ++ wt))) hK hP hD (pl_cons (List.Perm.refl _) (List.Perm.refl _)) (q0 := 0) rfl rfl) rfl rfl hl.1 rfl (lv_room (Nat.le_of_ble_eq_true rfl)) dL_isWell_335 ⟨Nat.le_of_ble_eq_true rfl, Nat.le_of_ble_eq_true rfl⟩) hP hD hS hA (pl_cons (List.Perm.refl _) (List.Perm.refl _)) (pl_cons (List.Perm.refl _) (List.Perm.refl _)) (fun H locs hP hD hS => ?_)
                        refine W.widen (k := 0) (n := 0) (Nat.le_of_ble_eq_true rfl) (Nat.le_of_ble_eq_true rfl) ?_
                        refine lv_topi (fun y9 e9 => ?_)
                        obtain rfl : y9 = S 4 k_48 := e9.trans (vi_4 S hk_48)
                        refine lv_icmp_gt (tgt := 390) hx hb dL_isWell_338 (by decide) (fun c_20 => ?_) (fun c_20 => ?_)
                        · exact absurd c_20 (we_54 hI hk_48)
                        · refine lv_aload_n hx hb dL_isWell_341 rfl (lv_at hl 10 rfl) ?_
                          refine lv_iload hx hb dL_isWell_342 (lv_at hl 7 rfl) ?_
                          refine lv_iconst (v := 3) hx hb dL_isWell_344 (by decide) ?_
                          refine cb_iD (wr := wR Y tr q1 Z ++ (wP Y pp tx P ++ (wHi Y h sa u ++ wt))) (ws' := wX x r tr pp h sl ++ (wR Y r q S ++ (wR Y tr q1 Z ++ (wP Y pp tx P ++ (wHi Y h sa u ++ wt))))) (va_runV (As := [.int (nI k_48), .int 3]) (rest := []) ⟨hx, hb, hml, hown, hts⟩ (c_X3_villager l D Y H.size r tr pp h sl q S x (nI k_48) 3) (cwV 2 hts gL_isWell_X3_villager rfl rfl rfl (by decide +kernel) ⟨Nat.le_of_ble_eq_true rfl, Nat.le_of_ble_eq_true rfl⟩) (psb_V (wr := wR Y tr q1 Z ++ (wP Y pp tx P ++ (wHi Y h sa u ++ wt))) hK hP hD (pl_cons (List.Perm.refl _) (List.Perm.refl _)) (q0 := 0) rfl rfl) rfl rfl hl.1 rfl (lv_room (Nat.le_of_ble_eq_true rfl)) dL_isWell_345 ⟨Nat.le_of_ble_eq_true rfl, Nat.le_of_ble_eq_true rfl⟩) hP hD hS hA (pl_cons (List.Perm.refl _) (List.Perm.refl _)) (pl_cons (List.Perm.refl _) (List.Perm.refl _)) (fun H locs hP hD hS => ?_)
                          refine W.widen (k := 0) (n := 0) (Nat.le_of_ble_eq_true rfl) (Nat.le_of_ble_eq_true rfl) ?_
                          refine lv_topi (fun y9 e9 => ?_)
                          obtain rfl : y9 = S 3 k_48 := e9.trans (vi_3 S hk_48)
                          refine lv_aload_n hx hb dL_isWell_348 rfl (lv_at hl 10 rfl) ?_
                          refine lv_iload hx hb dL_isWell_349 (lv_at hl 7 rfl) ?_
                          refine lv_iconst (v := 4) hx hb dL_isWell_351 (by decide) ?_
                          refine cb_iD (wr := wR Y tr q1 Z ++ (wP Y pp tx P ++ (wHi Y h sa u ++ wt))) (ws' := wX x r tr pp h sl ++ (wR Y r q S ++ (wR Y tr q1 Z ++ (wP Y pp tx P ++ (wHi Y h sa u ++ wt))))) (va_runV (As := [.int (nI k_48), .int 4]) (rest := [.int (S 3 k_48)]) ⟨hx, hb, hml, hown, hts⟩ (c_X3_villager l D Y H.size r tr pp h sl q S x (nI k_48) 4) (cwV 2 hts gL_isWell_X3_villager rfl rfl rfl (by decide +kernel) ⟨Nat.le_of_ble_eq_true rfl, Nat.le_of_ble_eq_true rfl⟩) (psb_V (wr := wR Y tr q1 Z ++ (wP Y pp tx P ++ (wHi Y h sa u ++ wt))) hK hP hD (pl_cons (List.Perm.refl _) (List.Perm.refl _)) (q0 := 0) rfl rfl) rfl rfl hl.1 rfl (lv_room (Nat.le_of_ble_eq_true rfl)) dL_isWell_352 ⟨Nat.le_of_ble_eq_true rfl, Nat.le_of_ble_eq_true rfl⟩) hP hD hS hA (pl_cons (List.Perm.refl _) (List.Perm.refl _)) (pl_cons (List.Perm.refl _) (List.Perm.refl _)) (fun H locs hP hD hS => ?_)
                          refine W.widen (k := 0) (n := 0) (Nat.le_of_ble_eq_true rfl) (Nat.le_of_ble_eq_true rfl) ?_
                          refine lv_topi (fun y9 e9 => ?_)
                          obtain rfl : y9 = S 4 k_48 := e9.trans (vi_4 S hk_48)
                          refine lv_iadd hx hb dL_isWell_355 ?_
                          refine lv_aload_n hx hb dL_isWell_356 rfl (lv_at hl 10 rfl) ?_
                          refine lv_iconst (v := 3) hx hb dL_isWell_357 (by decide) ?_
                          refine cb_iD (wr := wR Y tr q1 Z ++ wt) (ws' := wX x r tr pp h sl ++ (wR Y r q S ++ (wR Y tr q1 Z ++ (wP Y pp tx P ++ (wHi Y h sa u ++ wt))))) (va_runV (As := [.int 3]) (rest := [.int ((S 3 k_48) + (S 4 k_48))]) ⟨hx, hb, hml, hown, hts⟩ (c_X3_count l D Y H.size r tr pp h sl q tx sa S P u x 3) (cwV 1 hts gL_isWell_X3_count rfl rfl rfl (by decide +kernel) ⟨Nat.le_of_ble_eq_true rfl, Nat.le_of_ble_eq_true rfl⟩) (psb_V (wr := wR Y tr q1 Z ++ wt) hK hP hD (pl_cons (List.Perm.refl _) (pl_cons (List.Perm.refl _) (pl_cons (pl_up (List.Perm.refl _)) (pl_up (List.Perm.refl _))))) (q0 := 0) rfl rfl) rfl rfl hl.1 rfl (lv_room (Nat.le_of_ble_eq_true rfl)) dL_isWell_358 ⟨Nat.le_of_ble_eq_true rfl, Nat.le_of_ble_eq_true rfl⟩) hP hD hS hA (pl_cons (List.Perm.refl _) (pl_cons (List.Perm.refl _) (pl_cons (pl_up (List.Perm.refl _)) (pl_up (List.Perm.refl _))))) (pl_cons (List.Perm.refl _) (pl_cons (List.Perm.refl _) (pl_cons (pl_up (List.Perm.refl _)) (pl_up (List.Perm.refl _))))) (fun H locs hP hD hS => ?_)
                          refine W.widen (k := 0) (n := 0) (Nat.le_of_ble_eq_true rfl) (Nat.le_of_ble_eq_true rfl) ?_
                          refine lv_topi (fun y9 e9 => ?_)
                          obtain rfl : y9 = S 10 1 := e9.trans (ct_3 _ _ _)
                          refine lv_icmp_gt (tgt := 390) hx hb dL_isWell_361 (by decide) (fun c_21 => ?_) (fun c_21 => ?_)
                          · exact absurd c_21 (we_34 hI hn hk_48)
                          · refine lv_aload_n hx hb dL_isWell_364 rfl (lv_at hl 10 rfl) ?_
                            refine lv_iload hx hb dL_isWell_365 (lv_at hl 7 rfl) ?_
                            refine lv_iconst (v := 1) hx hb dL_isWell_367 (by decide) ?_
                            refine cb_iD (wr := wR Y tr q1 Z ++ (wP Y pp tx P ++ (wHi Y h sa u ++ wt))) (ws' := wX x r tr pp h sl ++ (wR Y r q S ++ (wR Y tr q1 Z ++ (wP Y pp tx P ++ (wHi Y h sa u ++ wt))))) (va_runV (As := [.int (nI k_48), .int 1]) (rest := []) ⟨hx, hb, hml, hown, hts⟩ (c_X3_villager l D Y H.size r tr pp h sl q S x (nI k_48) 1) (cwV 2 hts gL_isWell_X3_villager rfl rfl rfl (by decide +kernel) ⟨Nat.le_of_ble_eq_true rfl, Nat.le_of_ble_eq_true rfl⟩) (psb_V (wr := wR Y tr q1 Z ++ (wP Y pp tx P ++ (wHi Y h sa u ++ wt))) hK hP hD (pl_cons (List.Perm.refl _) (List.Perm.refl _)) (q0 := 0) rfl rfl) rfl rfl hl.1 rfl (lv_room (Nat.le_of_ble_eq_true rfl)) dL_isWell_368 ⟨Nat.le_of_ble_eq_true rfl, Nat.le_of_ble_eq_true rfl⟩) hP hD hS hA (pl_cons (List.Perm.refl _) (List.Perm.refl _)) (pl_cons (List.Perm.refl _) (List.Perm.refl _)) (fun H locs hP hD hS => ?_)
                            refine W.widen (k := 0) (n := 0) (Nat.le_of_ble_eq_true rfl) (Nat.le_of_ble_eq_true rfl) ?_
                            refine lv_topi (fun y9 e9 => ?_)
                            obtain rfl : y9 = S 1 k_48 := e9.trans (vi_1 S hk_48)
                            refine lv_if_lt (tgt := 390) hx hb dL_isWell_371 (by decide) (fun c_22 => ?_) (fun c_22 => ?_)
                            · exact absurd c_22 (we_1n hI hk_48)
                            · refine lv_aload_n hx hb dL_isWell_374 rfl (lv_at hl 10 rfl) ?_
                              refine lv_iload hx hb dL_isWell_375 (lv_at hl 7 rfl) ?_
                              refine lv_iconst (v := 1) hx hb dL_isWell_377 (by decide) ?_
                              refine cb_iD (wr := wR Y tr q1 Z ++ (wP Y pp tx P ++ (wHi Y h sa u ++ wt))) (ws' := wX x r tr pp h sl ++ (wR Y r q S ++ (wR Y tr q1 Z ++ (wP Y pp tx P ++ (wHi Y h sa u ++ wt))))) (va_runV (As := [.int (nI k_48), .int 1]) (rest := []) ⟨hx, hb, hml, hown, hts⟩ (c_X3_villager l D Y H.size r tr pp h sl q S x (nI k_48) 1) (cwV 2 hts gL_isWell_X3_villager rfl rfl rfl (by decide +kernel) ⟨Nat.le_of_ble_eq_true rfl, Nat.le_of_ble_eq_true rfl⟩) (psb_V (wr := wR Y tr q1 Z ++ (wP Y pp tx P ++ (wHi Y h sa u ++ wt))) hK hP hD (pl_cons (List.Perm.refl _) (List.Perm.refl _)) (q0 := 0) rfl rfl) rfl rfl hl.1 rfl (lv_room (Nat.le_of_ble_eq_true rfl)) dL_isWell_378 ⟨Nat.le_of_ble_eq_true rfl, Nat.le_of_ble_eq_true rfl⟩) hP hD hS hA (pl_cons (List.Perm.refl _) (List.Perm.refl _)) (pl_cons (List.Perm.refl _) (List.Perm.refl _)) (fun H locs hP hD hS => ?_)
                              refine W.widen (k := 0) (n := 0) (Nat.le_of_ble_eq_true rfl) (Nat.le_of_ble_eq_true rfl) ?_
                              refine lv_topi (fun y9 e9 => ?_)
                              obtain rfl : y9 = S 1 k_48 := e9.trans (vi_1 S hk_48)
                              refine lv_bipush (v := 20) hx hb dL_isWell_381 (by decide) ?_
                              refine lv_icmp_gt (tgt := 390) hx hb dL_isWell_383 (by decide) (fun c_23 => ?_) (fun c_23 => ?_)
                              · exact absurd c_23 (we_1g hI hk_48)
                              · refine lv_iconst (v := 1) hx hb dL_isWell_386 (by decide) ?_
                                refine lv_goto (tgt := 391) hx hb dL_isWell_387 (by decide) ?_
                                refine lv_istore (lv' := [(7, .int 1), (1, .int ((sm (S 3) k_48) + (sm (dw S k_48) 9))), (6, .int (sm (S 9) (k_48 + 1))), (10, .int (nI 9)), (4, .int ((sm (S 1) k_48) + (S 1 k_48))), (3, .int ((sm (S 5) k_48) + (S 5 k_48))), (2, .int ((sm (S 2) k_48) + (S 2 k_48))), (9, .int (sm (dw S k_48) 9)), (8, .int (nI k_48)), (5, .int (nI (uo S k_48 + ui S k_48 9))), (0, .ref x)]) hx hb dL_isWell_391 hl (by decide) rfl (fun ls hl => ?_)
                                refine lv_iinc (v := (nI k_48) + 1) (lv' := [(8, .int ((nI k_48) + 1)), (7, .int 1), (1, .int ((sm (S 3) k_48) + (sm (dw S k_48) 9))), (6, .int (sm (S 9) (k_48 + 1))), (10, .int (nI 9)), (4, .int ((sm (S 1) k_48) + (S 1 k_48))), (3, .int ((sm (S 5) k_48) + (S 5 k_48))), (2, .int ((sm (S 2) k_48) + (S 2 k_48))), (9, .int (sm (dw S k_48) 9)), (5, .int (nI (uo S k_48 + ui S k_48 9))), (0, .ref x)]) hx hb dL_isWell_393 hl (k := 8) rfl rfl (by decide) rfl (fun ls hl => ?_)
                                refine lv_goto (tgt := 48) hx hb dL_isWell_396 (by decide) ?_
                                have el_8 : nI (k_48 + 1) = (nI k_48) + 1 := (nI_1 k_48).symm
                                have el_5 : nI (uo S (k_48 + 1)) = nI (uo S k_48 + ui S k_48 9) := rfl
                                have el_4 : sm (S 1) (k_48 + 1) = (sm (S 1) k_48) + (S 1 k_48) := rfl
                                have el_3 : sm (S 5) (k_48 + 1) = (sm (S 5) k_48) + (S 5 k_48) := rfl
                                have el_2 : sm (S 2) (k_48 + 1) = (sm (S 2) k_48) + (S 2 k_48) := rfl
                                have el_1 : sm (S 3) (k_48 + 1) = (sm (S 3) k_48) + (sm (dw S k_48) 9) := we_d3s hI hk_48
                                have hl : lv_has ls 12 [(8, .int (nI (k_48 + 1))), (7, .int 1), (6, .int (sm (S 9) (k_48 + 1))), (5, .int (nI (uo S (k_48 + 1)))), (4, .int (sm (S 1) (k_48 + 1))), (3, .int (sm (S 5) (k_48 + 1))), (2, .int (sm (S 2) (k_48 + 1))), (1, .int (sm (S 3) (k_48 + 1))), (0, .ref x)] := by rw [el_8, el_5, el_4, el_3, el_2, el_1]; exact lv_sub hl [0, 1, 3, 9, 5, 6, 7, 2, 10] rfl
                                exact ih_48 (k_48 + 1) _ _ _ (by omega) (by omega) hP hD hS hl
                  refine lv_iload hx hb dL_isWell_273 (lv_at hl 7 rfl) ?_
                  refine lv_iload hx hb dL_isWell_275 (lv_at hl 5 rfl) ?_
                  refine lv_if_ne (tgt := 291) hx hb dL_isWell_277 (by decide) (fun c_24 => ?_) (fun c_24 => ?_)
                  · refine lv_aload_n hx hb dL_isWell_291 rfl (lv_at hl 10 rfl) ?_
                    refine lv_iconst (v := 0) hx hb dL_isWell_292 (by decide) ?_
                    refine lv_iload hx hb dL_isWell_293 (lv_at hl 5 rfl) ?_
                    refine lv_iconst (v := 3) hx hb dL_isWell_295 (by decide) ?_
                    refine cb_iD (wr := wR Y tr q1 Z ++ (wP Y pp tx P ++ (wHi Y h sa u ++ wt))) (ws' := wX x r tr pp h sl ++ (wR Y r q S ++ (wR Y tr q1 Z ++ (wP Y pp tx P ++ (wHi Y h sa u ++ wt))))) (va_runV (As := [.int 0, .int (nI k_48), .int 3]) (rest := [.int (sm (S 9) k_48)]) ⟨hx, hb, hml, hown, hts⟩ (c_X3_pair l D Y H.size r tr pp h sl q S x 0 (nI k_48) 3) (cwV 3 hts gL_isWell_X3_pair rfl rfl rfl (by decide +kernel) ⟨Nat.le_of_ble_eq_true rfl, Nat.le_of_ble_eq_true rfl⟩) (psb_V (wr := wR Y tr q1 Z ++ (wP Y pp tx P ++ (wHi Y h sa u ++ wt))) hK hP hD (pl_cons (List.Perm.refl _) (List.Perm.refl _)) (q0 := 0) rfl rfl) rfl rfl hl.1 rfl (lv_room (Nat.le_of_ble_eq_true rfl)) dL_isWell_296 ⟨Nat.le_of_ble_eq_true rfl, Nat.le_of_ble_eq_true rfl⟩) hP hD hS hA (pl_cons (List.Perm.refl _) (List.Perm.refl _)) (pl_cons (List.Perm.refl _) (List.Perm.refl _)) (fun H locs hP hD hS => ?_)
                    refine W.widen (k := 0) (n := 0) (Nat.le_of_ble_eq_true rfl) (Nat.le_of_ble_eq_true rfl) ?_
                    refine lv_topi (fun y9 e9 => ?_)
                    obtain rfl : y9 = S 9 k_48 := e9.trans (wt_k hk_48 c_24)
                    refine lv_iadd hx hb dL_isWell_299 ?_
                    refine lv_istore (lv' := [(6, .int ((sm (S 9) k_48) + (S 9 k_48))), (10, .int (nI 9)), (4, .int ((sm (S 1) k_48) + (S 1 k_48))), (3, .int ((sm (S 5) k_48) + (S 5 k_48))), (2, .int ((sm (S 2) k_48) + (S 2 k_48))), (9, .int (sm (dw S k_48) 9)), (8, .int (nI k_48)), (7, .int 1), (5, .int (nI (uo S k_48 + ui S k_48 9))), (1, .int (sm (S 3) k_48)), (0, .ref x)]) hx hb dL_isWell_300 hl (by decide) rfl (fun ls hl => ?_)
                    have ej : sm (S 9) (k_48 + 1) = (sm (S 9) k_48) + (S 9 k_48) := rfl
                    have hl : lv_has ls 12 [(6, .int (sm (S 9) (k_48 + 1))), (10, .int (nI 9)), (4, .int ((sm (S 1) k_48) + (S 1 k_48))), (3, .int ((sm (S 5) k_48) + (S 5 k_48))), (2, .int ((sm (S 2) k_48) + (S 2 k_48))), (9, .int (sm (dw S k_48) 9)), (8, .int (nI k_48)), (7, .int 1), (5, .int (nI (uo S k_48 + ui S k_48 9))), (1, .int (sm (S 3) k_48)), (0, .ref x)] := by rw [ej]; exact hl
                    exact join_302_j_17 _ _ _ hP hD hS (lv_sub hl [0, 1, 2, 3, 4, 5, 6, 7, 8, 9, 10] rfl)
                  · refine lv_aload_n hx hb dL_isWell_280 rfl (lv_at hl 10 rfl) ?_
                    refine lv_iconst (v := 1) hx hb dL_isWell_281 (by decide) ?_
                    refine lv_bipush (v := 8) hx hb dL_isWell_282 (by decide) ?_
                    refine lv_iconst (v := 3) hx hb dL_isWell_284 (by decide) ?_
                    refine cb_iD (wr := wR Y tr q1 Z ++ (wP Y pp tx P ++ (wHi Y h sa u ++ wt))) (ws' := wX x r tr pp h sl ++ (wR Y r q S ++ (wR Y tr q1 Z ++ (wP Y pp tx P ++ (wHi Y h sa u ++ wt))))) (va_runV (As := [.int 1, .int 8, .int 3]) (rest := [.int (sm (S 9) k_48)]) ⟨hx, hb, hml, hown, hts⟩ (c_X3_pair l D Y H.size r tr pp h sl q S x 1 8 3) (cwV 3 hts gL_isWell_X3_pair rfl rfl rfl (by decide +kernel) ⟨Nat.le_of_ble_eq_true rfl, Nat.le_of_ble_eq_true rfl⟩) (psb_V (wr := wR Y tr q1 Z ++ (wP Y pp tx P ++ (wHi Y h sa u ++ wt))) hK hP hD (pl_cons (List.Perm.refl _) (List.Perm.refl _)) (q0 := 0) rfl rfl) rfl rfl hl.1 rfl (lv_room (Nat.le_of_ble_eq_true rfl)) dL_isWell_285 ⟨Nat.le_of_ble_eq_true rfl, Nat.le_of_ble_eq_true rfl⟩) hP hD hS hA (pl_cons (List.Perm.refl _) (List.Perm.refl _)) (pl_cons (List.Perm.refl _) (List.Perm.refl _)) (fun H locs hP hD hS => ?_)
                    refine W.widen (k := 0) (n := 0) (Nat.le_of_ble_eq_true rfl) (Nat.le_of_ble_eq_true rfl) ?_
                    refine lv_topi (fun y9 e9 => ?_)
                    obtain rfl : y9 = S 9 0 := e9.trans (wt_0)
                    refine lv_goto (tgt := 299) hx hb dL_isWell_288 (by decide) ?_
                    refine lv_iadd hx hb dL_isWell_299 ?_
                    refine lv_istore (lv' := [(6, .int ((sm (S 9) k_48) + (S 9 0))), (10, .int (nI 9)), (4, .int ((sm (S 1) k_48) + (S 1 k_48))), (3, .int ((sm (S 5) k_48) + (S 5 k_48))), (2, .int ((sm (S 2) k_48) + (S 2 k_48))), (9, .int (sm (dw S k_48) 9)), (8, .int (nI k_48)), (7, .int 1), (5, .int (nI (uo S k_48 + ui S k_48 9))), (1, .int (sm (S 3) k_48)), (0, .ref x)]) hx hb dL_isWell_300 hl (by decide) rfl (fun ls hl => ?_)
                    have ej : sm (S 9) (k_48 + 1) = (sm (S 9) k_48) + (S 9 0) := to_0 hk_48 c_24
                    have hl : lv_has ls 12 [(6, .int (sm (S 9) (k_48 + 1))), (10, .int (nI 9)), (4, .int ((sm (S 1) k_48) + (S 1 k_48))), (3, .int ((sm (S 5) k_48) + (S 5 k_48))), (2, .int ((sm (S 2) k_48) + (S 2 k_48))), (9, .int (sm (dw S k_48) 9)), (8, .int (nI k_48)), (7, .int 1), (5, .int (nI (uo S k_48 + ui S k_48 9))), (1, .int (sm (S 3) k_48)), (0, .ref x)] := by rw [ej]; exact hl
                    exact join_302_j_17 _ _ _ hP hD hS (lv_sub hl [0, 1, 2, 3, 4, 5, 6, 7, 8, 9, 10] rfl)
                · have hk_93 : k_93 < 9 := my_lt rfl (show (9 : Int32) = nI 9 from rfl) (by decide) hkN c_16
                  refine lv_iload hx hb dL_isWell_100 (lv_at hl 0 rfl) ?_
                  refine lv_iload hx hb dL_isWell_102 (lv_at hl 5 rfl) ?_
                  refine lv_icmp_eq (tgt := 267) hx hb dL_isWell_104 (by decide) (fun c_25 => ?_) (fun c_25 => ?_)
                  · refine lv_iinc (v := (nI k_93) + 1) (lv' := [(10, .int ((nI k_93) + 1)), (4, .int ((sm (S 1) k_48) + (S 1 k_48))), (3, .int ((sm (S 5) k_48) + (S 5 k_48))), (2, .int ((sm (S 2) k_48) + (S 2 k_48))), (9, .int (sm (dw S k_48) k_93)), (8, .int (nI k_48)), (7, .int 1), (6, .int (sm (S 9) k_48)), (5, .int (nI (uo S k_48 + ui S k_48 k_93))), (1, .int (sm (S 3) k_48)), (0, .ref x)]) hx hb dL_isWell_267 hl (k := 0) rfl rfl (by decide) rfl (fun ls hl => ?_)
                    refine lv_goto (tgt := 93) hx hb dL_isWell_270 (by decide) ?_
                    have el_10 : nI (k_93 + 1) = (nI k_93) + 1 := (nI_1 k_93).symm
                    have el_9 : sm (dw S k_48) (k_93 + 1) = sm (dw S k_48) k_93 := dw_s c_25 hk_93 hk_48
                    have el_5 : nI (uo S k_48 + ui S k_48 (k_93 + 1)) = nI (uo S k_48 + ui S k_48 k_93) := ui_s c_25 hk_93 hk_48
                    have hl : lv_has ls 12 [(10, .int (nI (k_93 + 1))), (4, .int ((sm (S 1) k_48) + (S 1 k_48))), (3, .int ((sm (S 5) k_48) + (S 5 k_48))), (2, .int ((sm (S 2) k_48) + (S 2 k_48))), (9, .int (sm (dw S k_48) (k_93 + 1))), (8, .int (nI k_48)), (7, .int 1), (6, .int (sm (S 9) k_48)), (5, .int (nI (uo S k_48 + ui S k_48 (k_93 + 1)))), (1, .int (sm (S 3) k_48)), (0, .ref x)] := by rw [el_10, el_9, el_5]; exact lv_sub hl [0, 1, 2, 3, 4, 5, 6, 7, 8, 9, 10] rfl
                    exact ih_93 (k_93 + 1) _ _ _ (by omega) (by omega) hP hD hS hl
                  · refine lv_aload_n hx hb dL_isWell_107 rfl (lv_at hl 10 rfl) ?_
                    refine lv_iload hx hb dL_isWell_108 (lv_at hl 5 rfl) ?_
                    refine lv_iload hx hb dL_isWell_110 (lv_at hl 0 rfl) ?_
                    refine lv_iconst (v := 1) hx hb dL_isWell_112 (by decide) ?_
                    refine cb_iD (wr := wR Y tr q1 Z ++ (wP Y pp tx P ++ (wHi Y h sa u ++ wt))) (ws' := wX x r tr pp h sl ++ (wR Y r q S ++ (wR Y tr q1 Z ++ (wP Y pp tx P ++ (wHi Y h sa u ++ wt))))) (va_runV (As := [.int (nI k_48), .int (nI k_93), .int 1]) (rest := []) ⟨hx, hb, hml, hown, hts⟩ (c_X3_pair l D Y H.size r tr pp h sl q S x (nI k_48) (nI k_93) 1) (cwV 3 hts gL_isWell_X3_pair rfl rfl rfl (by decide +kernel) ⟨Nat.le_of_ble_eq_true rfl, Nat.le_of_ble_eq_true rfl⟩) (psb_V (wr := wR Y tr q1 Z ++ (wP Y pp tx P ++ (wHi Y h sa u ++ wt))) hK hP hD (pl_cons (List.Perm.refl _) (List.Perm.refl _)) (q0 := 0) rfl rfl) rfl rfl hl.1 rfl (lv_room (Nat.le_of_ble_eq_true rfl)) dL_isWell_113 ⟨Nat.le_of_ble_eq_true rfl, Nat.le_of_ble_eq_true rfl⟩) hP hD hS hA (pl_cons (List.Perm.refl _) (List.Perm.refl _)) (pl_cons (List.Perm.refl _) (List.Perm.refl _)) (fun H locs hP hD hS => ?_)
                    refine W.widen (k := 0) (n := 0) (Nat.le_of_ble_eq_true rfl) (Nat.le_of_ble_eq_true rfl) ?_
                    refine lv_topi (fun y9 e9 => ?_)
                    obtain rfl : y9 = S 7 (px k_48 k_93) := e9.trans (pa_1 S hk_48 hk_93 (ne_of c_25))
                    refine lv_istore (lv' := [(11, .int (S 7 (px k_48 k_93))), (10, .int (nI k_93)), (4, .int ((sm (S 1) k_48) + (S 1 k_48))), (3, .int ((sm (S 5) k_48) + (S 5 k_48))), (2, .int ((sm (S 2) k_48) + (S 2 k_48))), (9, .int (sm (dw S k_48) k_93)), (8, .int (nI k_48)), (7, .int 1), (6, .int (sm (S 9) k_48)), (5, .int (nI (uo S k_48 + ui S k_48 k_93))), (1, .int (sm (S 3) k_48)), (0, .ref x)]) hx hb dL_isWell_116 hl (by decide) rfl (fun ls hl => ?_)
                    refine lv_iload hx hb dL_isWell_118 (lv_at hl 5 rfl) ?_
                    refine lv_iload hx hb dL_isWell_120 (lv_at hl 0 rfl) ?_
                    refine lv_iadd hx hb dL_isWell_122 ?_
                    refine lv_istore (lv' := [(9, .int ((sm (dw S k_48) k_93) + (S 7 (px k_48 k_93)))), (11, .int (S 7 (px k_48 k_93))), (10, .int (nI k_93)), (4, .int ((sm (S 1) k_48) + (S 1 k_48))), (3, .int ((sm (S 5) k_48) + (S 5 k_48))), (2, .int ((sm (S 2) k_48) + (S 2 k_48))), (8, .int (nI k_48)), (7, .int 1), (6, .int (sm (S 9) k_48)), (5, .int (nI (uo S k_48 + ui S k_48 k_93))), (1, .int (sm (S 3) k_48)), (0, .ref x)]) hx hb dL_isWell_123 hl (by decide) rfl (fun ls hl => ?_)
                    have join_169_j_26 : ∀ (H : Heap) (locs : List Loc) (ls : Array Slot), va_P D vwCl (wX x r tr pp h sl ++ (wR Y r q S ++ (wR Y tr q1 Z ++ (wP Y pp tx P ++ (wHi Y h sa u ++ wt))))) H → va_D A (wX x r tr pp h sl ++ (wR Y r q S ++ (wR Y tr q1 Z ++ (wP Y pp tx P ++ (wHi Y h sa u ++ wt))))) → va_S A s.heap H locs → lv_has ls 12 [(5, .int (nI (uo S k_48 + ui S k_48 (k_93 + 1)))), (9, .int ((sm (dw S k_48) k_93) + (S 7 (px k_48 k_93)))), (11, .int (S 7 (px k_48 k_93))), (10, .int (nI k_93)), (4, .int ((sm (S 1) k_48) + (S 1 k_48))), (3, .int ((sm (S 5) k_48) + (S 5 k_48))), (2, .int ((sm (S 2) k_48) + (S 2 k_48))), (8, .int (nI k_48)), (7, .int 1), (6, .int (sm (S 9) k_48)), (1, .int (sm (S 3) k_48)), (0, .ref x)] → W p l e ({ frames := 6, cells := 0, slots := 0, locals := 129 } : Room) s m ([.ref x] : List Value).toArray below meth c H locs 0 0 (MQ below (Qsi D (fun r9 w9 => r9 = 1 ∧ ∃ Z9 : Nat → Nat → Int32, w9 = wX x r tr pp h sl ++ (wR Y r q S ++ (wR Y tr q1 Z9 ++ (wP Y pp tx P ++ (wHi Y h sa u ++ wt))))) A) ([.ref x] : List Value).toArray s 0 0 A) (F0 m 169 ls []) := by
                      intro H locs ls hP hD hS hl
                      refine lv_iload hx hb dL_isWell_169 (lv_at hl 8 rfl) ?_
                      refine lv_if_eq (tgt := 264) hx hb dL_isWell_171 (by decide) (fun c_27 => ?_) (fun c_27 => ?_)
                      · exact absurd c_27 (by decide)
                      · refine lv_iload hx hb dL_isWell_174 (lv_at hl 2 rfl) ?_
                        refine lv_aload_n hx hb dL_isWell_176 rfl (lv_at hl 11 rfl) ?_
                        refine lv_iload hx hb dL_isWell_177 (lv_at hl 3 rfl) ?_
                        refine lv_iload hx hb dL_isWell_179 (lv_at hl 7 rfl) ?_
                        refine lv_iconst (v := 1) hx hb dL_isWell_181 (by decide) ?_
                        refine cb_iD (wr := wR Y tr q1 Z ++ (wP Y pp tx P ++ (wHi Y h sa u ++ wt))) (ws' := wX x r tr pp h sl ++ (wR Y r q S ++ (wR Y tr q1 Z ++ (wP Y pp tx P ++ (wHi Y h sa u ++ wt))))) (va_runV (As := [.int (nI k_93), .int (nI k_48), .int 1]) (rest := [.int (S 7 (px k_48 k_93))]) ⟨hx, hb, hml, hown, hts⟩ (c_X3_pair l D Y H.size r tr pp h sl q S x (nI k_93) (nI k_48) 1) (cwV 3 hts gL_isWell_X3_pair rfl rfl rfl (by decide +kernel) ⟨Nat.le_of_ble_eq_true rfl, Nat.le_of_ble_eq_true rfl⟩) (psb_V (wr := wR Y tr q1 Z ++ (wP Y pp tx P ++ (wHi Y h sa u ++ wt))) hK hP hD (pl_cons (List.Perm.refl _) (List.Perm.refl _)) (q0 := 0) rfl rfl) rfl rfl hl.1 rfl (lv_room (Nat.le_of_ble_eq_true rfl)) dL_isWell_182 ⟨Nat.le_of_ble_eq_true rfl, Nat.le_of_ble_eq_true rfl⟩) hP hD hS hA (pl_cons (List.Perm.refl _) (List.Perm.refl _)) (pl_cons (List.Perm.refl _) (List.Perm.refl _)) (fun H locs hP hD hS => ?_)
                        refine W.widen (k := 0) (n := 0) (Nat.le_of_ble_eq_true rfl) (Nat.le_of_ble_eq_true rfl) ?_
                        refine lv_topi (fun y9 e9 => ?_)
                        obtain rfl : y9 = S 7 (px k_48 k_93) := e9.trans ((pa_1 S hk_93 hk_48 (Ne.symm (ne_of c_25))).trans (by rw [px_sw]))
                        refine lv_icmp_ne (tgt := 264) hx hb dL_isWell_185 (by decide) (fun c_28 => ?_) (fun c_28 => ?_)
                        · exact absurd c_28 (fun q => q (rfl))
                        · refine lv_iload hx hb dL_isWell_188 (lv_at hl 2 rfl) ?_
                          refine lv_aload_n hx hb dL_isWell_190 rfl (lv_at hl 11 rfl) ?_
                          refine lv_iload hx hb dL_isWell_191 (lv_at hl 7 rfl) ?_
                          refine lv_iload hx hb dL_isWell_193 (lv_at hl 3 rfl) ?_
                          refine lv_iconst (v := 3) hx hb dL_isWell_195 (by decide) ?_
                          refine cb_iD (wr := wR Y tr q1 Z ++ (wP Y pp tx P ++ (wHi Y h sa u ++ wt))) (ws' := wX x r tr pp h sl ++ (wR Y r q S ++ (wR Y tr q1 Z ++ (wP Y pp tx P ++ (wHi Y h sa u ++ wt))))) (va_runV (As := [.int (nI k_48), .int (nI k_93), .int 3]) (rest := [.int (S 7 (px k_48 k_93))]) ⟨hx, hb, hml, hown, hts⟩ (c_X3_pair l D Y H.size r tr pp h sl q S x (nI k_48) (nI k_93) 3) (cwV 3 hts gL_isWell_X3_pair rfl rfl rfl (by decide +kernel) ⟨Nat.le_of_ble_eq_true rfl, Nat.le_of_ble_eq_true rfl⟩) (psb_V (wr := wR Y tr q1 Z ++ (wP Y pp tx P ++ (wHi Y h sa u ++ wt))) hK hP hD (pl_cons (List.Perm.refl _) (List.Perm.refl _)) (q0 := 0) rfl rfl) rfl rfl hl.1 rfl (lv_room (Nat.le_of_ble_eq_true rfl)) dL_isWell_196 ⟨Nat.le_of_ble_eq_true rfl, Nat.le_of_ble_eq_true rfl⟩) hP hD hS hA (pl_cons (List.Perm.refl _) (List.Perm.refl _)) (pl_cons (List.Perm.refl _) (List.Perm.refl _)) (fun H locs hP hD hS => ?_)
                          refine W.widen (k := 0) (n := 0) (Nat.le_of_ble_eq_true rfl) (Nat.le_of_ble_eq_true rfl) ?_
                          refine lv_topi (fun y9 e9 => ?_)
                          obtain rfl : y9 = S 9 ((k_48 + k_93) % 9) := e9.trans (pa_3 S hk_48 hk_93 (ne_of c_25))
                          refine lv_icmp_gt (tgt := 264) hx hb dL_isWell_199 (by decide) (fun c_29 => ?_) (fun c_29 => ?_)
                          · exact absurd c_29 (we_le hI hk_48 hk_93 (ne_of c_25))
                          · refine lv_iload hx hb dL_isWell_202 (lv_at hl 2 rfl) ?_
                            refine lv_if_ne (tgt := 211) hx hb dL_isWell_204 (by decide) (fun c_30 => ?_) (fun c_30 => ?_)
                            · refine lv_iconst (v := 0) hx hb dL_isWell_211 (by decide) ?_
                              refine lv_aload_n hx hb dL_isWell_212 rfl (lv_at hl 11 rfl) ?_
                              refine lv_iload hx hb dL_isWell_213 (lv_at hl 7 rfl) ?_
                              refine lv_iload hx hb dL_isWell_215 (lv_at hl 3 rfl) ?_
                              refine lv_iconst (v := 4) hx hb dL_isWell_217 (by decide) ?_
                              refine cb_iD (wr := wR Y tr q1 Z ++ (wP Y pp tx P ++ (wHi Y h sa u ++ wt))) (ws' := wX x r tr pp h sl ++ (wR Y r q S ++ (wR Y tr q1 Z ++ (wP Y pp tx P ++ (wHi Y h sa u ++ wt))))) (va_runV (As := [.int (nI k_48), .int (nI k_93), .int 4]) (rest := [.int 0]) ⟨hx, hb, hml, hown, hts⟩ (c_X3_pair l D Y H.size r tr pp h sl q S x (nI k_48) (nI k_93) 4) (cwV 3 hts gL_isWell_X3_pair rfl rfl rfl (by decide +kernel) ⟨Nat.le_of_ble_eq_true rfl, Nat.le_of_ble_eq_true rfl⟩) (psb_V (wr := wR Y tr q1 Z ++ (wP Y pp tx P ++ (wHi Y h sa u ++ wt))) hK hP hD (pl_cons (List.Perm.refl _) (List.Perm.refl _)) (q0 := 0) rfl rfl) rfl rfl hl.1 rfl (lv_room (Nat.le_of_ble_eq_true rfl)) dL_isWell_218 ⟨Nat.le_of_ble_eq_true rfl, Nat.le_of_ble_eq_true rfl⟩) hP hD hS hA (pl_cons (List.Perm.refl _) (List.Perm.refl _)) (pl_cons (List.Perm.refl _) (List.Perm.refl _)) (fun H locs hP hD hS => ?_)
                              refine W.widen (k := 0) (n := 0) (Nat.le_of_ble_eq_true rfl) (Nat.le_of_ble_eq_true rfl) ?_
                              refine lv_topi (fun y9 e9 => ?_)
                              obtain rfl : y9 = S 8 (px k_48 k_93) := e9.trans (pa_4 S hk_48 hk_93 (ne_of c_25))
                              refine lv_ldc (v := (-1000006)) hx hb hown (hts (.constant RL 93 (-1000006)) (by decide +kernel)) dL_isWell_221 ?_
                              refine lv_icmp_ne (tgt := 230) hx hb dL_isWell_223 (by decide) (fun c_31 => ?_) (fun c_31 => ?_)
                              · refine lv_iconst (v := 0) hx hb dL_isWell_230 (by decide) ?_
                                refine lv_icmp_ne (tgt := 264) hx hb dL_isWell_231 (by decide) (fun c_32 => ?_) (fun c_32 => ?_)
                                · exact absurd c_32 (by decide)
                                · refine lv_aload_n hx hb dL_isWell_234 rfl (lv_at hl 11 rfl) ?_
                                  refine lv_iload hx hb dL_isWell_235 (lv_at hl 7 rfl) ?_
                                  refine lv_bipush (v := 6) hx hb dL_isWell_237 (by decide) ?_
                                  refine cb_iD (wr := wR Y tr q1 Z ++ (wP Y pp tx P ++ (wHi Y h sa u ++ wt))) (ws' := wX x r tr pp h sl ++ (wR Y r q S ++ (wR Y tr q1 Z ++ (wP Y pp tx P ++ (wHi Y h sa u ++ wt))))) (va_runV (As := [.int (nI k_48), .int 6]) (rest := []) ⟨hx, hb, hml, hown, hts⟩ (c_X3_villager l D Y H.size r tr pp h sl q S x (nI k_48) 6) (cwV 2 hts gL_isWell_X3_villager rfl rfl rfl (by decide +kernel) ⟨Nat.le_of_ble_eq_true rfl, Nat.le_of_ble_eq_true rfl⟩) (psb_V (wr := wR Y tr q1 Z ++ (wP Y pp tx P ++ (wHi Y h sa u ++ wt))) hK hP hD (pl_cons (List.Perm.refl _) (List.Perm.refl _)) (q0 := 0) rfl rfl) rfl rfl hl.1 rfl (lv_room (Nat.le_of_ble_eq_true rfl)) dL_isWell_239 ⟨Nat.le_of_ble_eq_true rfl, Nat.le_of_ble_eq_true rfl⟩) hP hD hS hA (pl_cons (List.Perm.refl _) (List.Perm.refl _)) (pl_cons (List.Perm.refl _) (List.Perm.refl _)) (fun H locs hP hD hS => ?_)
                                  refine W.widen (k := 0) (n := 0) (Nat.le_of_ble_eq_true rfl) (Nat.le_of_ble_eq_true rfl) ?_
                                  refine lv_topi (fun y9 e9 => ?_)
                                  obtain rfl : y9 = D_X2_dancedWith S (nI k_48) := e9.trans (vi_6 S hk_48)
                                  refine lv_iload hx hb dL_isWell_242 (lv_at hl 3 rfl) ?_
                                  refine lv_ishr hx hb dL_isWell_244 ?_
                                  refine lv_iconst (v := 1) hx hb dL_isWell_245 (by decide) ?_
                                  refine lv_iand hx hb dL_isWell_246 ?_
                                  refine lv_topi (fun y9 e9 => ?_)
                                  obtain rfl : y9 = 1 := e9.trans (we_b1 hI hk_48 hk_93 (ne_of c_25) c_30)
                                  refine lv_iload hx hb dL_isWell_247 (lv_at hl 2 rfl) ?_
                                  refine lv_if_le (tgt := 256) hx hb dL_isWell_249 (by decide) (fun c_33 => ?_) (fun c_33 => ?_)
                                  · exact absurd c_33 (we_pos hI hk_48 hk_93 (ne_of c_25) c_30)
                                  · refine lv_iconst (v := 1) hx hb dL_isWell_252 (by decide) ?_
                                    refine lv_goto (tgt := 257) hx hb dL_isWell_253 (by decide) ?_
                                    refine lv_icmp_ne (tgt := 264) hx hb dL_isWell_257 (by decide) (fun c_34 => ?_) (fun c_34 => ?_)
                                    · exact absurd c_34 (by decide)
                                    · refine lv_iconst (v := 1) hx hb dL_isWell_260 (by decide) ?_
                                      refine lv_goto (tgt := 265) hx hb dL_isWell_261 (by decide) ?_
                                      refine lv_istore (lv' := [(7, .int 1), (5, .int (nI (uo S k_48 + ui S k_48 (k_93 + 1)))), (9, .int ((sm (dw S k_48) k_93) + (S 7 (px k_48 k_93)))), (11, .int (S 7 (px k_48 k_93))), (10, .int (nI k_93)), (4, .int ((sm (S 1) k_48) + (S 1 k_48))), (3, .int ((sm (S 5) k_48) + (S 5 k_48))), (2, .int ((sm (S 2) k_48) + (S 2 k_48))), (8, .int (nI k_48)), (6, .int (sm (S 9) k_48)), (1, .int (sm (S 3) k_48)), (0, .ref x)]) hx hb dL_isWell_265 hl (by decide) rfl (fun ls hl => ?_)
                                      refine lv_iinc (v := (nI k_93) + 1) (lv' := [(10, .int ((nI k_93) + 1)), (7, .int 1), (5, .int (nI (uo S k_48 + ui S k_48 (k_93 + 1)))), (9, .int ((sm (dw S k_48) k_93) + (S 7 (px k_48 k_93)))), (11, .int (S 7 (px k_48 k_93))), (4, .int ((sm (S 1) k_48) + (S 1 k_48))), (3, .int ((sm (S 5) k_48) + (S 5 k_48))), (2, .int ((sm (S 2) k_48) + (S 2 k_48))), (8, .int (nI k_48)), (6, .int (sm (S 9) k_48)), (1, .int (sm (S 3) k_48)), (0, .ref x)]) hx hb dL_isWell_267 hl (k := 4) rfl rfl (by decide) rfl (fun ls hl => ?_)
                                      refine lv_goto (tgt := 93) hx hb dL_isWell_270 (by decide) ?_
                                      have el_10 : nI (k_93 + 1) = (nI k_93) + 1 := (nI_1 k_93).symm
                                      have el_9 : sm (dw S k_48) (k_93 + 1) = (sm (dw S k_48) k_93) + (S 7 (px k_48 k_93)) := dw_p c_25
                                      have hl : lv_has ls 12 [(10, .int (nI (k_93 + 1))), (4, .int ((sm (S 1) k_48) + (S 1 k_48))), (3, .int ((sm (S 5) k_48) + (S 5 k_48))), (2, .int ((sm (S 2) k_48) + (S 2 k_48))), (9, .int (sm (dw S k_48) (k_93 + 1))), (8, .int (nI k_48)), (7, .int 1), (6, .int (sm (S 9) k_48)), (5, .int (nI (uo S k_48 + ui S k_48 (k_93 + 1)))), (1, .int (sm (S 3) k_48)), (0, .ref x)] := by rw [el_10, el_9]; exact lv_sub hl [0, 5, 6, 7, 3, 8, 1, 9, 2, 10, 11] rfl
                                      exact ih_93 (k_93 + 1) _ _ _ (by omega) (by omega) hP hD hS hl
                              · exact absurd c_31 (fun q => c_30 ((we_8 hI hk_48 hk_93 (ne_of c_25)).mpr q))
                            · refine lv_iconst (v := 1) hx hb dL_isWell_207 (by decide) ?_
                              refine lv_goto (tgt := 212) hx hb dL_isWell_208 (by decide) ?_
                              refine lv_aload_n hx hb dL_isWell_212 rfl (lv_at hl 11 rfl) ?_
                              refine lv_iload hx hb dL_isWell_213 (lv_at hl 7 rfl) ?_
                              refine lv_iload hx hb dL_isWell_215 (lv_at hl 3 rfl) ?_
                              refine lv_iconst (v := 4) hx hb dL_isWell_217 (by decide) ?_
                              refine cb_iD (wr := wR Y tr q1 Z ++ (wP Y pp tx P ++ (wHi Y h sa u ++ wt))) (ws' := wX x r tr pp h sl ++ (wR Y r q S ++ (wR Y tr q1 Z ++ (wP Y pp tx P ++ (wHi Y h sa u ++ wt))))) (va_runV (As := [.int (nI k_48), .int (nI k_93), .int 4]) (rest := [.int 1]) ⟨hx, hb, hml, hown, hts⟩ (c_X3_pair l D Y H.size r tr pp h sl q S x (nI k_48) (nI k_93) 4) (cwV 3 hts gL_isWell_X3_pair rfl rfl rfl (by decide +kernel) ⟨Nat.le_of_ble_eq_true rfl, Nat.le_of_ble_eq_true rfl⟩) (psb_V (wr := wR Y tr q1 Z ++ (wP Y pp tx P ++ (wHi Y h sa u ++ wt))) hK hP hD (pl_cons (List.Perm.refl _) (List.Perm.refl _)) (q0 := 0) rfl rfl) rfl rfl hl.1 rfl (lv_room (Nat.le_of_ble_eq_true rfl)) dL_isWell_218 ⟨Nat.le_of_ble_eq_true rfl, Nat.le_of_ble_eq_true rfl⟩) hP hD hS hA (pl_cons (List.Perm.refl _) (List.Perm.refl _)) (pl_cons (List.Perm.refl _) (List.Perm.refl _)) (fun H locs hP hD hS => ?_)
                              refine W.widen (k := 0) (n := 0) (Nat.le_of_ble_eq_true rfl) (Nat.le_of_ble_eq_true rfl) ?_
                              refine lv_topi (fun y9 e9 => ?_)
                              obtain rfl : y9 = S 8 (px k_48 k_93) := e9.trans (pa_4 S hk_48 hk_93 (ne_of c_25))
                              refine lv_ldc (v := (-1000006)) hx hb hown (hts (.constant RL 93 (-1000006)) (by decide +kernel)) dL_isWell_221 ?_
                              refine lv_icmp_ne (tgt := 230) hx hb dL_isWell_223 (by decide) (fun c_35 => ?_) (fun c_35 => ?_)
                              · exact absurd c_35 (fun q => q ((we_8 hI hk_48 hk_93 (ne_of c_25)).mp c_30))
                              · refine lv_iconst (v := 1) hx hb dL_isWell_226 (by decide) ?_
                                refine lv_goto (tgt := 231) hx hb dL_isWell_227 (by decide) ?_
                                refine lv_icmp_ne (tgt := 264) hx hb dL_isWell_231 (by decide) (fun c_36 => ?_) (fun c_36 => ?_)
                                · exact absurd c_36 (by decide)
                                · refine lv_aload_n hx hb dL_isWell_234 rfl (lv_at hl 11 rfl) ?_
                                  refine lv_iload hx hb dL_isWell_235 (lv_at hl 7 rfl) ?_
                                  refine lv_bipush (v := 6) hx hb dL_isWell_237 (by decide) ?_
                                  refine cb_iD (wr := wR Y tr q1 Z ++ (wP Y pp tx P ++ (wHi Y h sa u ++ wt))) (ws' := wX x r tr pp h sl ++ (wR Y r q S ++ (wR Y tr q1 Z ++ (wP Y pp tx P ++ (wHi Y h sa u ++ wt))))) (va_runV (As := [.int (nI k_48), .int 6]) (rest := []) ⟨hx, hb, hml, hown, hts⟩ (c_X3_villager l D Y H.size r tr pp h sl q S x (nI k_48) 6) (cwV 2 hts gL_isWell_X3_villager rfl rfl rfl (by decide +kernel) ⟨Nat.le_of_ble_eq_true rfl, Nat.le_of_ble_eq_true rfl⟩) (psb_V (wr := wR Y tr q1 Z ++ (wP Y pp tx P ++ (wHi Y h sa u ++ wt))) hK hP hD (pl_cons (List.Perm.refl _) (List.Perm.refl _)) (q0 := 0) rfl rfl) rfl rfl hl.1 rfl (lv_room (Nat.le_of_ble_eq_true rfl)) dL_isWell_239 ⟨Nat.le_of_ble_eq_true rfl, Nat.le_of_ble_eq_true rfl⟩) hP hD hS hA (pl_cons (List.Perm.refl _) (List.Perm.refl _)) (pl_cons (List.Perm.refl _) (List.Perm.refl _)) (fun H locs hP hD hS => ?_)
                                  refine W.widen (k := 0) (n := 0) (Nat.le_of_ble_eq_true rfl) (Nat.le_of_ble_eq_true rfl) ?_
                                  refine lv_topi (fun y9 e9 => ?_)
                                  obtain rfl : y9 = D_X2_dancedWith S (nI k_48) := e9.trans (vi_6 S hk_48)
                                  refine lv_iload hx hb dL_isWell_242 (lv_at hl 3 rfl) ?_
                                  refine lv_ishr hx hb dL_isWell_244 ?_
                                  refine lv_iconst (v := 1) hx hb dL_isWell_245 (by decide) ?_
                                  refine lv_iand hx hb dL_isWell_246 ?_
                                  refine lv_topi (fun y9 e9 => ?_)
                                  obtain rfl : y9 = 0 := e9.trans (we_b0 hk_48 hk_93 c_30)
                                  refine lv_iload hx hb dL_isWell_247 (lv_at hl 2 rfl) ?_
                                  refine lv_if_le (tgt := 256) hx hb dL_isWell_249 (by decide) (fun c_37 => ?_) (fun c_37 => ?_)
                                  · refine lv_iconst (v := 0) hx hb dL_isWell_256 (by decide) ?_
                                    refine lv_icmp_ne (tgt := 264) hx hb dL_isWell_257 (by decide) (fun c_38 => ?_) (fun c_38 => ?_)
                                    · exact absurd c_38 (by decide)
                                    · refine lv_iconst (v := 1) hx hb dL_isWell_260 (by decide) ?_
                                      refine lv_goto (tgt := 265) hx hb dL_isWell_261 (by decide) ?_
                                      refine lv_istore (lv' := [(7, .int 1), (5, .int (nI (uo S k_48 + ui S k_48 (k_93 + 1)))), (9, .int ((sm (dw S k_48) k_93) + (S 7 (px k_48 k_93)))), (11, .int (S 7 (px k_48 k_93))), (10, .int (nI k_93)), (4, .int ((sm (S 1) k_48) + (S 1 k_48))), (3, .int ((sm (S 5) k_48) + (S 5 k_48))), (2, .int ((sm (S 2) k_48) + (S 2 k_48))), (8, .int (nI k_48)), (6, .int (sm (S 9) k_48)), (1, .int (sm (S 3) k_48)), (0, .ref x)]) hx hb dL_isWell_265 hl (by decide) rfl (fun ls hl => ?_)
                                      refine lv_iinc (v := (nI k_93) + 1) (lv' := [(10, .int ((nI k_93) + 1)), (7, .int 1), (5, .int (nI (uo S k_48 + ui S k_48 (k_93 + 1)))), (9, .int ((sm (dw S k_48) k_93) + (S 7 (px k_48 k_93)))), (11, .int (S 7 (px k_48 k_93))), (4, .int ((sm (S 1) k_48) + (S 1 k_48))), (3, .int ((sm (S 5) k_48) + (S 5 k_48))), (2, .int ((sm (S 2) k_48) + (S 2 k_48))), (8, .int (nI k_48)), (6, .int (sm (S 9) k_48)), (1, .int (sm (S 3) k_48)), (0, .ref x)]) hx hb dL_isWell_267 hl (k := 4) rfl rfl (by decide) rfl (fun ls hl => ?_)
                                      refine lv_goto (tgt := 93) hx hb dL_isWell_270 (by decide) ?_
                                      have el_10 : nI (k_93 + 1) = (nI k_93) + 1 := (nI_1 k_93).symm
                                      have el_9 : sm (dw S k_48) (k_93 + 1) = (sm (dw S k_48) k_93) + (S 7 (px k_48 k_93)) := dw_p c_25
                                      have hl : lv_has ls 12 [(10, .int (nI (k_93 + 1))), (4, .int ((sm (S 1) k_48) + (S 1 k_48))), (3, .int ((sm (S 5) k_48) + (S 5 k_48))), (2, .int ((sm (S 2) k_48) + (S 2 k_48))), (9, .int (sm (dw S k_48) (k_93 + 1))), (8, .int (nI k_48)), (7, .int 1), (6, .int (sm (S 9) k_48)), (5, .int (nI (uo S k_48 + ui S k_48 (k_93 + 1)))), (1, .int (sm (S 3) k_48)), (0, .ref x)] := by rw [el_10, el_9]; exact lv_sub hl [0, 5, 6, 7, 3, 8, 1, 9, 2, 10, 11] rfl
                                      exact ih_93 (k_93 + 1) _ _ _ (by omega) (by omega) hP hD hS hl
                                  · exact absurd c_37 (fun q => q (by rw [c_30]; decide))
                    refine lv_iload hx hb dL_isWell_125 (lv_at hl 9 rfl) ?_
                    refine lv_iload hx hb dL_isWell_127 (lv_at hl 2 rfl) ?_
                    refine lv_iload hx hb dL_isWell_129 (lv_at hl 6 rfl) ?_
                    refine lv_icmp_ge (tgt := 165) hx hb dL_isWell_131 (by decide) (fun c_39 => ?_) (fun c_39 => ?_)
                    · refine lv_iconst (v := 0) hx hb dL_isWell_165 (by decide) ?_
                      refine lv_iadd hx hb dL_isWell_166 ?_
                      refine lv_istore (lv' := [(5, .int ((nI (uo S k_48 + ui S k_48 k_93)) + 0)), (9, .int ((sm (dw S k_48) k_93) + (S 7 (px k_48 k_93)))), (11, .int (S 7 (px k_48 k_93))), (10, .int (nI k_93)), (4, .int ((sm (S 1) k_48) + (S 1 k_48))), (3, .int ((sm (S 5) k_48) + (S 5 k_48))), (2, .int ((sm (S 2) k_48) + (S 2 k_48))), (8, .int (nI k_48)), (7, .int 1), (6, .int (sm (S 9) k_48)), (1, .int (sm (S 3) k_48)), (0, .ref x)]) hx hb dL_isWell_167 hl (by decide) rfl (fun ls hl => ?_)
                      have ej : nI (uo S k_48 + ui S k_48 (k_93 + 1)) = (nI (uo S k_48 + ui S k_48 k_93)) + 0 := ui_a hk_93 hk_48 c_39
                      have hl : lv_has ls 12 [(5, .int (nI (uo S k_48 + ui S k_48 (k_93 + 1)))), (9, .int ((sm (dw S k_48) k_93) + (S 7 (px k_48 k_93)))), (11, .int (S 7 (px k_48 k_93))), (10, .int (nI k_93)), (4, .int ((sm (S 1) k_48) + (S 1 k_48))), (3, .int ((sm (S 5) k_48) + (S 5 k_48))), (2, .int ((sm (S 2) k_48) + (S 2 k_48))), (8, .int (nI k_48)), (7, .int 1), (6, .int (sm (S 9) k_48)), (1, .int (sm (S 3) k_48)), (0, .ref x)] := by rw [ej]; exact hl
                      exact join_169_j_26 _ _ _ hP hD hS (lv_sub hl [0, 1, 2, 3, 4, 5, 6, 7, 8, 9, 10, 11] rfl)
                    · refine lv_iload hx hb dL_isWell_134 (lv_at hl 1 rfl) ?_
                      refine lv_if_ne (tgt := 165) hx hb dL_isWell_136 (by decide) (fun c_40 => ?_) (fun c_40 => ?_)
                      · refine lv_iconst (v := 0) hx hb dL_isWell_165 (by decide) ?_
                        refine lv_iadd hx hb dL_isWell_166 ?_
                        refine lv_istore (lv' := [(5, .int ((nI (uo S k_48 + ui S k_48 k_93)) + 0)), (9, .int ((sm (dw S k_48) k_93) + (S 7 (px k_48 k_93)))), (11, .int (S 7 (px k_48 k_93))), (10, .int (nI k_93)), (4, .int ((sm (S 1) k_48) + (S 1 k_48))), (3, .int ((sm (S 5) k_48) + (S 5 k_48))), (2, .int ((sm (S 2) k_48) + (S 2 k_48))), (8, .int (nI k_48)), (7, .int 1), (6, .int (sm (S 9) k_48)), (1, .int (sm (S 3) k_48)), (0, .ref x)]) hx hb dL_isWell_167 hl (by decide) rfl (fun ls hl => ?_)
                        have ej : nI (uo S k_48 + ui S k_48 (k_93 + 1)) = (nI (uo S k_48 + ui S k_48 k_93)) + 0 := ui_b hk_93 hk_48 c_40
                        have hl : lv_has ls 12 [(5, .int (nI (uo S k_48 + ui S k_48 (k_93 + 1)))), (9, .int ((sm (dw S k_48) k_93) + (S 7 (px k_48 k_93)))), (11, .int (S 7 (px k_48 k_93))), (10, .int (nI k_93)), (4, .int ((sm (S 1) k_48) + (S 1 k_48))), (3, .int ((sm (S 5) k_48) + (S 5 k_48))), (2, .int ((sm (S 2) k_48) + (S 2 k_48))), (8, .int (nI k_48)), (7, .int 1), (6, .int (sm (S 9) k_48)), (1, .int (sm (S 3) k_48)), (0, .ref x)] := by rw [ej]; exact hl
                        exact join_169_j_26 _ _ _ hP hD hS (lv_sub hl [0, 1, 2, 3, 4, 5, 6, 7, 8, 9, 10, 11] rfl)
                      · refine lv_aload_n hx hb dL_isWell_139 rfl (lv_at hl 11 rfl) ?_
                        refine lv_iload hx hb dL_isWell_140 (lv_at hl 6 rfl) ?_
                        refine lv_iconst (v := 0) hx hb dL_isWell_142 (by decide) ?_
                        refine cb_iD (wr := wR Y tr q1 Z ++ (wP Y pp tx P ++ (wHi Y h sa u ++ wt))) (ws' := wX x r tr pp h sl ++ (wR Y r q S ++ (wR Y tr q1 Z ++ (wP Y pp tx P ++ (wHi Y h sa u ++ wt))))) (va_runV (As := [.int (nI k_48), .int 0]) (rest := [.int (nI (uo S k_48 + ui S k_48 k_93))]) ⟨hx, hb, hml, hown, hts⟩ (c_X3_villager l D Y H.size r tr pp h sl q S x (nI k_48) 0) (cwV 2 hts gL_isWell_X3_villager rfl rfl rfl (by decide +kernel) ⟨Nat.le_of_ble_eq_true rfl, Nat.le_of_ble_eq_true rfl⟩) (psb_V (wr := wR Y tr q1 Z ++ (wP Y pp tx P ++ (wHi Y h sa u ++ wt))) hK hP hD (pl_cons (List.Perm.refl _) (List.Perm.refl _)) (q0 := 0) rfl rfl) rfl rfl hl.1 rfl (lv_room (Nat.le_of_ble_eq_true rfl)) dL_isWell_143 ⟨Nat.le_of_ble_eq_true rfl, Nat.le_of_ble_eq_true rfl⟩) hP hD hS hA (pl_cons (List.Perm.refl _) (List.Perm.refl _)) (pl_cons (List.Perm.refl _) (List.Perm.refl _)) (fun H locs hP hD hS => ?_)
                        refine W.widen (k := 0) (n := 0) (Nat.le_of_ble_eq_true rfl) (Nat.le_of_ble_eq_true rfl) ?_
                        refine lv_topi (fun y9 e9 => ?_)
                        obtain rfl : y9 = D_X2_isThere S (nI k_48) := e9.trans (vi_0 S hk_48)
                        refine lv_iconst (v := 1) hx hb dL_isWell_146 (by decide) ?_
                        refine lv_icmp_ne (tgt := 165) hx hb dL_isWell_147 (by decide) (fun c_41 => ?_) (fun c_41 => ?_)
                        · refine lv_iconst (v := 0) hx hb dL_isWell_165 (by decide) ?_
                          refine lv_iadd hx hb dL_isWell_166 ?_
                          refine lv_istore (lv' := [(5, .int ((nI (uo S k_48 + ui S k_48 k_93)) + 0)), (9, .int ((sm (dw S k_48) k_93) + (S 7 (px k_48 k_93)))), (11, .int (S 7 (px k_48 k_93))), (10, .int (nI k_93)), (4, .int ((sm (S 1) k_48) + (S 1 k_48))), (3, .int ((sm (S 5) k_48) + (S 5 k_48))), (2, .int ((sm (S 2) k_48) + (S 2 k_48))), (8, .int (nI k_48)), (7, .int 1), (6, .int (sm (S 9) k_48)), (1, .int (sm (S 3) k_48)), (0, .ref x)]) hx hb dL_isWell_167 hl (by decide) rfl (fun ls hl => ?_)
                          have ej : nI (uo S k_48 + ui S k_48 (k_93 + 1)) = (nI (uo S k_48 + ui S k_48 k_93)) + 0 := ui_c hk_93 hk_48 c_41
                          have hl : lv_has ls 12 [(5, .int (nI (uo S k_48 + ui S k_48 (k_93 + 1)))), (9, .int ((sm (dw S k_48) k_93) + (S 7 (px k_48 k_93)))), (11, .int (S 7 (px k_48 k_93))), (10, .int (nI k_93)), (4, .int ((sm (S 1) k_48) + (S 1 k_48))), (3, .int ((sm (S 5) k_48) + (S 5 k_48))), (2, .int ((sm (S 2) k_48) + (S 2 k_48))), (8, .int (nI k_48)), (7, .int 1), (6, .int (sm (S 9) k_48)), (1, .int (sm (S 3) k_48)), (0, .ref x)] := by rw [ej]; exact hl
                          exact join_169_j_26 _ _ _ hP hD hS (lv_sub hl [0, 1, 2, 3, 4, 5, 6, 7, 8, 9, 10, 11] rfl)
                        · refine lv_aload_n hx hb dL_isWell_150 rfl (lv_at hl 11 rfl) ?_
                          refine lv_iload hx hb dL_isWell_151 (lv_at hl 2 rfl) ?_
                          refine lv_iconst (v := 0) hx hb dL_isWell_153 (by decide) ?_
                          refine cb_iD (wr := wR Y tr q1 Z ++ (wP Y pp tx P ++ (wHi Y h sa u ++ wt))) (ws' := wX x r tr pp h sl ++ (wR Y r q S ++ (wR Y tr q1 Z ++ (wP Y pp tx P ++ (wHi Y h sa u ++ wt))))) (va_runV (As := [.int (nI k_93), .int 0]) (rest := [.int (nI (uo S k_48 + ui S k_48 k_93))]) ⟨hx, hb, hml, hown, hts⟩ (c_X3_villager l D Y H.size r tr pp h sl q S x (nI k_93) 0) (cwV 2 hts gL_isWell_X3_villager rfl rfl rfl (by decide +kernel) ⟨Nat.le_of_ble_eq_true rfl, Nat.le_of_ble_eq_true rfl⟩) (psb_V (wr := wR Y tr q1 Z ++ (wP Y pp tx P ++ (wHi Y h sa u ++ wt))) hK hP hD (pl_cons (List.Perm.refl _) (List.Perm.refl _)) (q0 := 0) rfl rfl) rfl rfl hl.1 rfl (lv_room (Nat.le_of_ble_eq_true rfl)) dL_isWell_154 ⟨Nat.le_of_ble_eq_true rfl, Nat.le_of_ble_eq_true rfl⟩) hP hD hS hA (pl_cons (List.Perm.refl _) (List.Perm.refl _)) (pl_cons (List.Perm.refl _) (List.Perm.refl _)) (fun H locs hP hD hS => ?_)
                          refine W.widen (k := 0) (n := 0) (Nat.le_of_ble_eq_true rfl) (Nat.le_of_ble_eq_true rfl) ?_
                          refine lv_topi (fun y9 e9 => ?_)
                          obtain rfl : y9 = D_X2_isThere S (nI k_93) := e9.trans (vi_0 S hk_93)
                          refine lv_iconst (v := 1) hx hb dL_isWell_157 (by decide) ?_
                          refine lv_icmp_ne (tgt := 165) hx hb dL_isWell_158 (by decide) (fun c_42 => ?_) (fun c_42 => ?_)
                          · refine lv_iconst (v := 0) hx hb dL_isWell_165 (by decide) ?_
                            refine lv_iadd hx hb dL_isWell_166 ?_
                            refine lv_istore (lv' := [(5, .int ((nI (uo S k_48 + ui S k_48 k_93)) + 0)), (9, .int ((sm (dw S k_48) k_93) + (S 7 (px k_48 k_93)))), (11, .int (S 7 (px k_48 k_93))), (10, .int (nI k_93)), (4, .int ((sm (S 1) k_48) + (S 1 k_48))), (3, .int ((sm (S 5) k_48) + (S 5 k_48))), (2, .int ((sm (S 2) k_48) + (S 2 k_48))), (8, .int (nI k_48)), (7, .int 1), (6, .int (sm (S 9) k_48)), (1, .int (sm (S 3) k_48)), (0, .ref x)]) hx hb dL_isWell_167 hl (by decide) rfl (fun ls hl => ?_)
                            have ej : nI (uo S k_48 + ui S k_48 (k_93 + 1)) = (nI (uo S k_48 + ui S k_48 k_93)) + 0 := ui_d hk_93 hk_48 c_42
                            have hl : lv_has ls 12 [(5, .int (nI (uo S k_48 + ui S k_48 (k_93 + 1)))), (9, .int ((sm (dw S k_48) k_93) + (S 7 (px k_48 k_93)))), (11, .int (S 7 (px k_48 k_93))), (10, .int (nI k_93)), (4, .int ((sm (S 1) k_48) + (S 1 k_48))), (3, .int ((sm (S 5) k_48) + (S 5 k_48))), (2, .int ((sm (S 2) k_48) + (S 2 k_48))), (8, .int (nI k_48)), (7, .int 1), (6, .int (sm (S 9) k_48)), (1, .int (sm (S 3) k_48)), (0, .ref x)] := by rw [ej]; exact hl
                            exact join_169_j_26 _ _ _ hP hD hS (lv_sub hl [0, 1, 2, 3, 4, 5, 6, 7, 8, 9, 10, 11] rfl)
                          · refine lv_iconst (v := 1) hx hb dL_isWell_161 (by decide) ?_
                            refine lv_goto (tgt := 166) hx hb dL_isWell_162 (by decide) ?_
                            refine lv_iadd hx hb dL_isWell_166 ?_
                            refine lv_istore (lv' := [(5, .int ((nI (uo S k_48 + ui S k_48 k_93)) + 1)), (9, .int ((sm (dw S k_48) k_93) + (S 7 (px k_48 k_93)))), (11, .int (S 7 (px k_48 k_93))), (10, .int (nI k_93)), (4, .int ((sm (S 1) k_48) + (S 1 k_48))), (3, .int ((sm (S 5) k_48) + (S 5 k_48))), (2, .int ((sm (S 2) k_48) + (S 2 k_48))), (8, .int (nI k_48)), (7, .int 1), (6, .int (sm (S 9) k_48)), (1, .int (sm (S 3) k_48)), (0, .ref x)]) hx hb dL_isWell_167 hl (by decide) rfl (fun ls hl => ?_)
                            have ej : nI (uo S k_48 + ui S k_48 (k_93 + 1)) = (nI (uo S k_48 + ui S k_48 k_93)) + 1 := ui_e hk_93 hk_48 c_39 c_40 c_41 c_42
                            have hl : lv_has ls 12 [(5, .int (nI (uo S k_48 + ui S k_48 (k_93 + 1)))), (9, .int ((sm (dw S k_48) k_93) + (S 7 (px k_48 k_93)))), (11, .int (S 7 (px k_48 k_93))), (10, .int (nI k_93)), (4, .int ((sm (S 1) k_48) + (S 1 k_48))), (3, .int ((sm (S 5) k_48) + (S 5 k_48))), (2, .int ((sm (S 2) k_48) + (S 2 k_48))), (8, .int (nI k_48)), (7, .int 1), (6, .int (sm (S 9) k_48)), (1, .int (sm (S 3) k_48)), (0, .ref x)] := by rw [ej]; exact hl
                            exact join_169_j_26 _ _ _ hP hD hS (lv_sub hl [0, 1, 2, 3, 4, 5, 6, 7, 8, 9, 10, 11] rfl)
            have hl : lv_has ls 12 [(10, .int (nI 0)), (4, .int ((sm (S 1) k_48) + (S 1 k_48))), (3, .int ((sm (S 5) k_48) + (S 5 k_48))), (2, .int ((sm (S 2) k_48) + (S 2 k_48))), (9, .int (sm (dw S k_48) 0)), (8, .int (nI k_48)), (7, .int 1), (6, .int (sm (S 9) k_48)), (5, .int (nI (uo S k_48 + ui S k_48 0))), (1, .int (sm (S 3) k_48)), (0, .ref x)] := lv_sub hl [0, 1, 2, 3, 4, 5, 6, 7, 8, 9, 10] rfl
            exact loop_93 10 0 _ _ _ (by omega) (by omega) hP hD hS hl
      have hl : lv_has ls 12 [(8, .int (nI 0)), (7, .int 1), (6, .int (sm (S 9) 0)), (5, .int (nI (uo S 0))), (4, .int (sm (S 1) 0)), (3, .int (sm (S 5) 0)), (2, .int (sm (S 2) 0)), (1, .int (sm (S 3) 0)), (0, .ref x)] := lv_sub hl [0, 1, 2, 3, 4, 5, 6, 7, 8] rfl
      exact loop_48 10 0 _ _ _ (by omega) (by omega) hP hD hS hl

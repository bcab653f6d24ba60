def T_X2_init_1  : Nat → Int32 := upd (fun _ => 0) (0 : Int32).toNatClampNeg 2
def T_X2_init_2  : Nat → Int32 := upd T_X2_init_1 (1 : Int32).toNatClampNeg 3
def T_X2_init_3  : Nat → Int32 := upd T_X2_init_2 (2 : Int32).toNatClampNeg 2
def S0_X2 : Nat → Nat → Int32 := fun a => cond (Nat.beq a 0) (T_X2_init_3 : Nat → Int32) (cond (Nat.beq a 1) ((D_J7_fill_53178 9 (fun _ => 0) 10) : Nat → Int32) (cond (Nat.beq a 2) ((fun _ => 0) : Nat → Int32) (cond (Nat.beq a 3) ((fun _ => 0) : Nat → Int32) (cond (Nat.beq a 4) ((fun _ => 0) : Nat → Int32) (cond (Nat.beq a 5) ((fun _ => 0) : Nat → Int32) (cond (Nat.beq a 6) ((fun _ => 0) : Nat → Int32) (cond (Nat.beq a 7) ((fun _ => 0) : Nat → Int32) (cond (Nat.beq a 8) ((D_J7_fill_53178 81 (fun _ => 0) (-1000006)) : Nat → Int32) (cond (Nat.beq a 9) ((fun _ => 0) : Nat → Int32) ((fun j => cond (Nat.beq j 0) 511 (cond (Nat.beq j 1) 0 (-1000006)))))))))))))
set_option maxRecDepth 100000 in
theorem in_X2_init_RX2 : ∀ w ∈ u_ws RX2 TX2 13, w ∈ wsX2_init := by decide +kernel
set_option maxHeartbeats 4000000 in
set_option maxRecDepth 100000 in
theorem c_X2_init (l : Launch) (D : va_G) (Y : YY) (sz : Nat) (r : Nat) : Met l yX2_init wsX2_init ({ frames := 1, cells := 10, slots := 300, locals := 23 } : Room) (va_Pc [.ref r] (Pst D Y sz ([(r, .inr (2, [.null, .int 0, .null, .null, .null, .null, .null, .null, .null, .null, .null, .int 0, .int 0]))]))) ((fun A : Nat → Prop => Qsv D (fun w9 => ∃ q : Nat → Nat, w9 = wR Y r q S0_X2) A) (va_A ([(r, .inr (2, [.null, .int 0, .null, .null, .null, .null, .null, .null, .null, .null, .null, .int 0, .int 0]))]) sz)) 10 300 (va_A ([(r, .inr (2, [.null, .int 0, .null, .null, .null, .null, .null, .null, .null, .null, .null, .int 0, .int 0]))]) sz) := by
  refine ct_in (cc := cX2_init) (maxL := 1) (ret := none) (Qc := fun A : Nat → Prop => Qsv D (fun w9 => ∃ q : Nat → Nat, w9 = wR Y r q S0_X2) A) (by decide +kernel) rfl (Nat.le_of_ble_eq_true rfl) ?_
  intro p e s m below meth c A ls hx hb hr hts hown hml hlk hin hsz hA hP hD hK hS hl
  have hown : s.vm.findClass RX2 = some m.cls := hown
  have hl : lv_has ls 1 [(0, .ref r)] := hl
  show W p l e ({ frames := 1, cells := 10, slots := 300, locals := 23 } : Room) s m ([.ref r] : List Value).toArray below meth c s.heap [] 0 0 (MQ below (Qsv D (fun w9 => ∃ q : Nat → Nat, w9 = wR Y r q S0_X2) A) ([.ref r] : List Value).toArray s 10 300 A) (F0 m 0 ls [])
  refine lv_aload_n hx hb dX2_init_0 rfl (lv_at hl 0 rfl) ?_
  refine W.objInit hx hb hown (hts (.methodLink RX2 3 objectInit) (by decide +kernel)) (hts (.instanceMethod objectInit) (by decide +kernel)) (hts _ (List.mem_of_getElem? (i := 3) rfl)) rfl (by rw [hml]; exact hl.1) rfl dX2_init_1 (Nat.le_of_ble_eq_true rfl) (Nat.le_of_ble_eq_true rfl) ?_
  refine W.eq (g2 := F0 m 4 ls []) rfl ?_
  refine lv_aload_n hx hb dX2_init_4 rfl (lv_at hl 0 rfl) ?_
  refine lv_iconst (v := 3) hx hb dX2_init_5 (by decide) ?_
  refine my_newI (D := D) (N := 3) hx hb (hts (.arrayClass .int) (by decide +kernel)) hK hP hD hS hA rfl (by decide) (Nat.le_of_ble_eq_true rfl) (Nat.le_of_ble_eq_true rfl) dX2_init_6 (fun a_6 H hP hD hS => ?_)
  have hP : va_P D vwCl ([(r, .inr (2, [.null, .int 0, .null, .null, .null, .null, .null, .null, .null, .null, .null, .int 0, .int 0]))] ++ wI Y a_6 3 (fun _ => 0)) H := hP
  have hD : va_D A ([(r, .inr (2, [.null, .int 0, .null, .null, .null, .null, .null, .null, .null, .null, .null, .int 0, .int 0]))] ++ wI Y a_6 3 (fun _ => 0)) := hD
  refine W.widen (k := 1) (n := 3) (Nat.le_of_ble_eq_true rfl) (Nat.le_of_ble_eq_true rfl) ?_
  refine va_putF (D := D) (ci := 2) (v := .ref a_6) (ty := .array .int) (C := RX2) (T := TX2) (N := 13) hx hb hts in_X2_init_RX2 tyX2 tyX2_ok nmX2 hown hK.1 hP hD hS 0 rfl rfl 0 (by decide) (hts (.fieldLink RX2 9 "NineDancers$Ring" "settings" "[I") (by decide +kernel)) (fun _ h9 => h9) rfl hin rfl (by decide +kernel) rfl rfl (Nat.le_of_ble_eq_true rfl) dX2_init_8 (fun H locs hP hD hS => ?_)
  have hP : va_P D vwCl ([(r, .inr (2, [.ref a_6, .int 0, .null, .null, .null, .null, .null, .null, .null, .null, .null, .int 0, .int 0]))] ++ wI Y a_6 3 (fun _ => 0)) H := hP
  have hD : va_D A ([(r, .inr (2, [.ref a_6, .int 0, .null, .null, .null, .null, .null, .null, .null, .null, .null, .int 0, .int 0]))] ++ wI Y a_6 3 (fun _ => 0)) := hD
  refine lv_aload_n hx hb dX2_init_11 rfl (lv_at hl 0 rfl) ?_
  refine lv_sipush (v := 511) hx hb dX2_init_12 (by decide) ?_
  refine va_put (D := D) (ci := 2) (v := .int 511) (ty := .int) (C := RX2) (T := TX2) (N := 13) hx hb hts in_X2_init_RX2 tyX2 tyX2_ok nmX2 hown hK.1 hP hD hS 0 rfl rfl 1 (by decide) (hts (.fieldLink RX2 15 "NineDancers$Ring" "there" "I") (by decide +kernel)) (fun _ h9 => h9) rfl (by decide +kernel) rfl rfl (Nat.le_of_ble_eq_true rfl) dX2_init_15 (fun H locs hP hD hS => ?_)
  have hP : va_P D vwCl ([(r, .inr (2, [.ref a_6, .int 511, .null, .null, .null, .null, .null, .null, .null, .null, .null, .int 0, .int 0]))] ++ wI Y a_6 3 (fun _ => 0)) H := hP
  have hD : va_D A ([(r, .inr (2, [.ref a_6, .int 511, .null, .null, .null, .null, .null, .null, .null, .null, .null, .int 0, .int 0]))] ++ wI Y a_6 3 (fun _ => 0)) := hD
  refine lv_aload_n hx hb dX2_init_18 rfl (lv_at hl 0 rfl) ?_
  refine lv_bipush (v := 9) hx hb dX2_init_19 (by decide) ?_
  refine my_newI (D := D) (N := 9) hx hb (hts (.arrayClass .int) (by decide +kernel)) hK hP hD hS hA rfl (by decide) (Nat.le_of_ble_eq_true rfl) (Nat.le_of_ble_eq_true rfl) dX2_init_21 (fun a_21 H hP hD hS => ?_)
  have hP : va_P D vwCl ([(r, .inr (2, [.ref a_6, .int 511, .null, .null, .null, .null, .null, .null, .null, .null, .null, .int 0, .int 0]))] ++ (wI Y a_6 3 (fun _ => 0) ++ wI Y a_21 9 (fun _ => 0))) H := hP
  have hD : va_D A ([(r, .inr (2, [.ref a_6, .int 511, .null, .null, .null, .null, .null, .null, .null, .null, .null, .int 0, .int 0]))] ++ (wI Y a_6 3 (fun _ => 0) ++ wI Y a_21 9 (fun _ => 0))) := hD
  refine W.widen (k := 2) (n := 12) (Nat.le_of_ble_eq_true rfl) (Nat.le_of_ble_eq_true rfl) ?_
  refine va_putF (D := D) (ci := 2) (v := .ref a_21) (ty := .array .int) (C := RX2) (T := TX2) (N := 13) hx hb hts in_X2_init_RX2 tyX2 tyX2_ok nmX2 hown hK.1 hP hD hS 0 rfl rfl 2 (by decide) (hts (.fieldLink RX2 19 "NineDancers$Ring" "strengths" "[I") (by decide +kernel)) (fun _ h9 => h9) rfl hin rfl (by decide +kernel) rfl rfl (Nat.le_of_ble_eq_true rfl) dX2_init_23 (fun H locs hP hD hS => ?_)
  have hP : va_P D vwCl ([(r, .inr (2, [.ref a_6, .int 511, .ref a_21, .null, .null, .null, .null, .null, .null, .null, .null, .int 0, .int 0]))] ++ (wI Y a_6 3 (fun _ => 0) ++ wI Y a_21 9 (fun _ => 0))) H := hP
  have hD : va_D A ([(r, .inr (2, [.ref a_6, .int 511, .ref a_21, .null, .null, .null, .null, .null, .null, .null, .null, .int 0, .int 0]))] ++ (wI Y a_6 3 (fun _ => 0) ++ wI Y a_21 9 (fun _ => 0))) := hD
  refine lv_aload_n hx hb dX2_init_26 rfl (lv_at hl 0 rfl) ?_
  refine lv_bipush (v := 9) hx hb dX2_init_27 (by decide) ?_
  refine my_newI (D := D) (N := 9) hx hb (hts (.arrayClass .int) (by decide +kernel)) hK hP hD hS hA rfl (by decide) (Nat.le_of_ble_eq_true rfl) (Nat.le_of_ble_eq_true rfl) dX2_init_29 (fun a_29 H hP hD hS => ?_)
  have hP : va_P D vwCl ([(r, .inr (2, [.ref a_6, .int 511, .ref a_21, .null, .null, .null, .null, .null, .null, .null, .null, .int 0, .int 0]))] ++ (wI Y a_6 3 (fun _ => 0) ++ (wI Y a_21 9 (fun _ => 0) ++ wI Y a_29 9 (fun _ => 0)))) H := hP
  have hD : va_D A ([(r, .inr (2, [.ref a_6, .int 511, .ref a_21, .null, .null, .null, .null, .null, .null, .null, .null, .int 0, .int 0]))] ++ (wI Y a_6 3 (fun _ => 0) ++ (wI Y a_21 9 (fun _ => 0) ++ wI Y a_29 9 (fun _ => 0)))) := hD
  refine W.widen (k := 3) (n := 21) (Nat.le_of_ble_eq_true rfl) (Nat.le_of_ble_eq_true rfl) ?_
  refine va_putF (D := D) (ci := 2) (v := .ref a_29) (ty := .array .int) (C := RX2) (T := TX2) (N := 13) hx hb hts in_X2_init_RX2 tyX2 tyX2_ok nmX2 hown hK.1 hP hD hS 0 rfl rfl 3 (by decide) (hts (.fieldLink RX2 22 "NineDancers$Ring" "joys" "[I") (by decide +kernel)) (fun _ h9 => h9) rfl hin rfl (by decide +kernel) rfl rfl (Nat.le_of_ble_eq_true rfl) dX2_init_31 (fun H locs hP hD hS => ?_)
  have hP : va_P D vwCl ([(r, .inr (2, [.ref a_6, .int 511, .ref a_21, .ref a_29, .null, .null, .null, .null, .null, .null, .null, .int 0, .int 0]))] ++ (wI Y a_6 3 (fun _ => 0) ++ (wI Y a_21 9 (fun _ => 0) ++ wI Y a_29 9 (fun _ => 0)))) H := hP
  have hD : va_D A ([(r, .inr (2, [.ref a_6, .int 511, .ref a_21, .ref a_29, .null, .null, .null, .null, .null, .null, .null, .int 0, .int 0]))] ++ (wI Y a_6 3 (fun _ => 0) ++ (wI Y a_21 9 (fun _ => 0) ++ wI Y a_29 9 (fun _ => 0)))) := hD
  refine lv_aload_n hx hb dX2_init_34 rfl (lv_at hl 0 rfl) ?_
  refine lv_bipush (v := 9) hx hb dX2_init_35 (by decide) ?_
  refine my_newI (D := D) (N := 9) hx hb (hts (.arrayClass .int) (by decide +kernel)) hK hP hD hS hA rfl (by decide) (Nat.le_of_ble_eq_true rfl) (Nat.le_of_ble_eq_true rfl) dX2_init_37 (fun a_37 H hP hD hS => ?_)
  have hP : va_P D vwCl ([(r, .inr (2, [.ref a_6, .int 511, .ref a_21, .ref a_29, .null, .null, .null, .null, .null, .null, .null, .int 0, .int 0]))] ++ (wI Y a_6 3 (fun _ => 0) ++ (wI Y a_21 9 (fun _ => 0) ++ (wI Y a_29 9 (fun _ => 0) ++ wI Y a_37 9 (fun _ => 0))))) H := hP
  have hD : va_D A ([(r, .inr (2, [.ref a_6, .int 511, .ref a_21, .ref a_29, .null, .null, .null, .null, .null, .null, .null, .int 0, .int 0]))] ++ (wI Y a_6 3 (fun _ => 0) ++ (wI Y a_21 9 (fun _ => 0) ++ (wI Y a_29 9 (fun _ => 0) ++ wI Y a_37 9 (fun _ => 0))))) := hD
  refine W.widen (k := 4) (n := 30) (Nat.le_of_ble_eq_true rfl) (Nat.le_of_ble_eq_true rfl) ?_
  refine va_putF (D := D) (ci := 2) (v := .ref a_37) (ty := .array .int) (C := RX2) (T := TX2) (N := 13) hx hb hts in_X2_init_RX2 tyX2 tyX2_ok nmX2 hown hK.1 hP hD hS 0 rfl rfl 4 (by decide) (hts (.fieldLink RX2 25 "NineDancers$Ring" "roundsDanced" "[I") (by decide +kernel)) (fun _ h9 => h9) rfl hin rfl (by decide +kernel) rfl rfl (Nat.le_of_ble_eq_true rfl) dX2_init_39 (fun H locs hP hD hS => ?_)
  have hP : va_P D vwCl ([(r, .inr (2, [.ref a_6, .int 511, .ref a_21, .ref a_29, .ref a_37, .null, .null, .null, .null, .null, .null, .int 0, .int 0]))] ++ (wI Y a_6 3 (fun _ => 0) ++ (wI Y a_21 9 (fun _ => 0) ++ (wI Y a_29 9 (fun _ => 0) ++ wI Y a_37 9 (fun _ => 0))))) H := hP
  have hD : va_D A ([(r, .inr (2, [.ref a_6, .int 511, .ref a_21, .ref a_29, .ref a_37, .null, .null, .null, .null, .null, .null, .int 0, .int 0]))] ++ (wI Y a_6 3 (fun _ => 0) ++ (wI Y a_21 9 (fun _ => 0) ++ (wI Y a_29 9 (fun _ => 0) ++ wI Y a_37 9 (fun _ => 0))))) := hD
  refine lv_aload_n hx hb dX2_init_42 rfl (lv_at hl 0 rfl) ?_
  refine lv_bipush (v := 9) hx hb dX2_init_43 (by decide) ?_
  refine my_newI (D := D) (N := 9) hx hb (hts (.arrayClass .int) (by decide +kernel)) hK hP hD hS hA rfl (by decide) (Nat.le_of_ble_eq_true rfl) (Nat.le_of_ble_eq_true rfl) dX2_init_45 (fun a_45 H hP hD hS => ?_)
  have hP : va_P D vwCl ([(r, .inr (2, [.ref a_6, .int 511, .ref a_21, .ref a_29, .ref a_37, .null, .null, .null, .null, .null, .null, .int 0, .int 0]))] ++ (wI Y a_6 3 (fun _ => 0) ++ (wI Y a_21 9 (fun _ => 0) ++ (wI Y a_29 9 (fun _ => 0) ++ (wI Y a_37 9 (fun _ => 0) ++ wI Y a_45 9 (fun _ => 0)))))) H := hP
  have hD : va_D A ([(r, .inr (2, [.ref a_6, .int 511, .ref a_21, .ref a_29, .ref a_37, .null, .null, .null, .null, .null, .null, .int 0, .int 0]))] ++ (wI Y a_6 3 (fun _ => 0) ++ (wI Y a_21 9 (fun _ => 0) ++ (wI Y a_29 9 (fun _ => 0) ++ (wI Y a_37 9 (fun _ => 0) ++ wI Y a_45 9 (fun _ => 0)))))) := hD
  refine W.widen (k := 5) (n := 39) (Nat.le_of_ble_eq_true rfl) (Nat.le_of_ble_eq_true rfl) ?_
  refine va_putF (D := D) (ci := 2) (v := .ref a_45) (ty := .array .int) (C := RX2) (T := TX2) (N := 13) hx hb hts in_X2_init_RX2 tyX2 tyX2_ok nmX2 hown hK.1 hP hD hS 0 rfl rfl 5 (by decide) (hts (.fieldLink RX2 28 "NineDancers$Ring" "roundsRested" "[I") (by decide +kernel)) (fun _ h9 => h9) rfl hin rfl (by decide +kernel) rfl rfl (Nat.le_of_ble_eq_true rfl) dX2_init_47 (fun H locs hP hD hS => ?_)
  have hP : va_P D vwCl ([(r, .inr (2, [.ref a_6, .int 511, .ref a_21, .ref a_29, .ref a_37, .ref a_45, .null, .null, .null, .null, .null, .int 0, .int 0]))] ++ (wI Y a_6 3 (fun _ => 0) ++ (wI Y a_21 9 (fun _ => 0) ++ (wI Y a_29 9 (fun _ => 0) ++ (wI Y a_37 9 (fun _ => 0) ++ wI Y a_45 9 (fun _ => 0)))))) H := hP
  have hD : va_D A ([(r, .inr (2, [.ref a_6, .int 511, .ref a_21, .ref a_29, .ref a_37, .ref a_45, .null, .null, .null, .null, .null, .int 0, .int 0]))] ++ (wI Y a_6 3 (fun _ => 0) ++ (wI Y a_21 9 (fun _ => 0) ++ (wI Y a_29 9 (fun _ => 0) ++ (wI Y a_37 9 (fun _ => 0) ++ wI Y a_45 9 (fun _ => 0)))))) := hD
  refine lv_aload_n hx hb dX2_init_50 rfl (lv_at hl 0 rfl) ?_
  refine lv_bipush (v := 9) hx hb dX2_init_51 (by decide) ?_
  refine my_newI (D := D) (N := 9) hx hb (hts (.arrayClass .int) (by decide +kernel)) hK hP hD hS hA rfl (by decide) (Nat.le_of_ble_eq_true rfl) (Nat.le_of_ble_eq_true rfl) dX2_init_53 (fun a_53 H hP hD hS => ?_)
  have hP : va_P D vwCl ([(r, .inr (2, [.ref a_6, .int 511, .ref a_21, .ref a_29, .ref a_37, .ref a_45, .null, .null, .null, .null, .null, .int 0, .int 0]))] ++ (wI Y a_6 3 (fun _ => 0) ++ (wI Y a_21 9 (fun _ => 0) ++ (wI Y a_29 9 (fun _ => 0) ++ (wI Y a_37 9 (fun _ => 0) ++ (wI Y a_45 9 (fun _ => 0) ++ wI Y a_53 9 (fun _ => 0))))))) H := hP
  have hD : va_D A ([(r, .inr (2, [.ref a_6, .int 511, .ref a_21, .ref a_29, .ref a_37, .ref a_45, .null, .null, .null, .null, .null, .int 0, .int 0]))] ++ (wI Y a_6 3 (fun _ => 0) ++ (wI Y a_21 9 (fun _ => 0) ++ (wI Y a_29 9 (fun _ => 0) ++ (wI Y a_37 9 (fun _ => 0) ++ (wI Y a_45 9 (fun _ => 0) ++ wI Y a_53 9 (fun _ => 0))))))) := hD
  refine W.widen (k := 6) (n := 48) (Nat.le_of_ble_eq_true rfl) (Nat.le_of_ble_eq_true rfl) ?_
  refine va_putF (D := D) (ci := 2) (v := .ref a_53) (ty := .array .int) (C := RX2) (T := TX2) (N := 13) hx hb hts in_X2_init_RX2 tyX2 tyX2_ok nmX2 hown hK.1 hP hD hS 0 rfl rfl 6 (by decide) (hts (.fieldLink RX2 31 "NineDancers$Ring" "roundsAlone" "[I") (by decide +kernel)) (fun _ h9 => h9) rfl hin rfl (by decide +kernel) rfl rfl (Nat.le_of_ble_eq_true rfl) dX2_init_55 (fun H locs hP hD hS => ?_)
  have hP : va_P D vwCl ([(r, .inr (2, [.ref a_6, .int 511, .ref a_21, .ref a_29, .ref a_37, .ref a_45, .ref a_53, .null, .null, .null, .null, .int 0, .int 0]))] ++ (wI Y a_6 3 (fun _ => 0) ++ (wI Y a_21 9 (fun _ => 0) ++ (wI Y a_29 9 (fun _ => 0) ++ (wI Y a_37 9 (fun _ => 0) ++ (wI Y a_45 9 (fun _ => 0) ++ wI Y a_53 9 (fun _ => 0))))))) H := hP
  have hD : va_D A ([(r, .inr (2, [.ref a_6, .int 511, .ref a_21, .ref a_29, .ref a_37, .ref a_45, .ref a_53, .null, .null, .null, .null, .int 0, .int 0]))] ++ (wI Y a_6 3 (fun _ => 0) ++ (wI Y a_21 9 (fun _ => 0) ++ (wI Y a_29 9 (fun _ => 0) ++ (wI Y a_37 9 (fun _ => 0) ++ (wI Y a_45 9 (fun _ => 0) ++ wI Y a_53 9 (fun _ => 0))))))) := hD
  refine lv_aload_n hx hb dX2_init_58 rfl (lv_at hl 0 rfl) ?_
  refine lv_bipush (v := 81) hx hb dX2_init_59 (by decide) ?_
  refine my_newI (D := D) (N := 81) hx hb (hts (.arrayClass .int) (by decide +kernel)) hK hP hD hS hA rfl (by decide) (Nat.le_of_ble_eq_true rfl) (Nat.le_of_ble_eq_true rfl) dX2_init_61 (fun a_61 H hP hD hS => ?_)
  have hP : va_P D vwCl ([(r, .inr (2, [.ref a_6, .int 511, .ref a_21, .ref a_29, .ref a_37, .ref a_45, .ref a_53, .null, .null, .null, .null, .int 0, .int 0]))] ++ (wI Y a_6 3 (fun _ => 0) ++ (wI Y a_21 9 (fun _ => 0) ++ (wI Y a_29 9 (fun _ => 0) ++ (wI Y a_37 9 (fun _ => 0) ++ (wI Y a_45 9 (fun _ => 0) ++ (wI Y a_53 9 (fun _ => 0) ++ wI Y a_61 81 (fun _ => 0)))))))) H := hP
  have hD : va_D A ([(r, .inr (2, [.ref a_6, .int 511, .ref a_21, .ref a_29, .ref a_37, .ref a_45, .ref a_53, .null, .null, .null, .null, .int 0, .int 0]))] ++ (wI Y a_6 3 (fun _ => 0) ++ (wI Y a_21 9 (fun _ => 0) ++ (wI Y a_29 9 (fun _ => 0) ++ (wI Y a_37 9 (fun _ => 0) ++ (wI Y a_45 9 (fun _ => 0) ++ (wI Y a_53 9 (fun _ => 0) ++ wI Y a_61 81 (fun _ => 0)))))))) := hD
  refine W.widen (k := 7) (n := 129) (Nat.le_of_ble_eq_true rfl) (Nat.le_of_ble_eq_true rfl) ?_
  refine va_putF (D := D) (ci := 2) (v := .ref a_61) (ty := .array .int) (C := RX2) (T := TX2) (N := 13) hx hb hts in_X2_init_RX2 tyX2 tyX2_ok nmX2 hown hK.1 hP hD hS 0 rfl rfl 7 (by decide) (hts (.fieldLink RX2 34 "NineDancers$Ring" "likings" "[I") (by decide +kernel)) (fun _ h9 => h9) rfl hin rfl (by decide +kernel) rfl rfl (Nat.le_of_ble_eq_true rfl) dX2_init_63 (fun H locs hP hD hS => ?_)
  have hP : va_P D vwCl ([(r, .inr (2, [.ref a_6, .int 511, .ref a_21, .ref a_29, .ref a_37, .ref a_45, .ref a_53, .ref a_61, .null, .null, .null, .int 0, .int 0]))] ++ (wI Y a_6 3 (fun _ => 0) ++ (wI Y a_21 9 (fun _ => 0) ++ (wI Y a_29 9 (fun _ => 0) ++ (wI Y a_37 9 (fun _ => 0) ++ (wI Y a_45 9 (fun _ => 0) ++ (wI Y a_53 9 (fun _ => 0) ++ wI Y a_61 81 (fun _ => 0)))))))) H := hP
  have hD : va_D A ([(r, .inr (2, [.ref a_6, .int 511, .ref a_21, .ref a_29, .ref a_37, .ref a_45, .ref a_53, .ref a_61, .null, .null, .null, .int 0, .int 0]))] ++ (wI Y a_6 3 (fun _ => 0) ++ (wI Y a_21 9 (fun _ => 0) ++ (wI Y a_29 9 (fun _ => 0) ++ (wI Y a_37 9 (fun _ => 0) ++ (wI Y a_45 9 (fun _ => 0) ++ (wI Y a_53 9 (fun _ => 0) ++ wI Y a_61 81 (fun _ => 0)))))))) := hD
  refine lv_aload_n hx hb dX2_init_66 rfl (lv_at hl 0 rfl) ?_
  refine lv_bipush (v := 81) hx hb dX2_init_67 (by decide) ?_
  refine my_newI (D := D) (N := 81) hx hb (hts (.arrayClass .int) (by decide +kernel)) hK hP hD hS hA rfl (by decide) (Nat.le_of_ble_eq_true rfl) (Nat.le_of_ble_eq_true rfl) dX2_init_69 (fun a_69 H hP hD hS => ?_)
  have hP : va_P D vwCl ([(r, .inr (2, [.ref a_6, .int 511, .ref a_21, .ref a_29, .ref a_37, .ref a_45, .ref a_53, .ref a_61, .null, .null, .null, .int 0, .int 0]))] ++ (wI Y a_6 3 (fun _ => 0) ++ (wI Y a_21 9 (fun _ => 0) ++ (wI Y a_29 9 (fun _ => 0) ++ (wI Y a_37 9 (fun _ => 0) ++ (wI Y a_45 9 (fun _ => 0) ++ (wI Y a_53 9 (fun _ => 0) ++ (wI Y a_61 81 (fun _ => 0) ++ wI Y a_69 81 (fun _ => 0))))))))) H := hP
  have hD : va_D A ([(r, .inr (2, [.ref a_6, .int 511, .ref a_21, .ref a_29, .ref a_37, .ref a_45, .ref a_53, .ref a_61, .null, .null, .null, .int 0, .int 0]))] ++ (wI Y a_6 3 (fun _ => 0) ++ (wI Y a_21 9 (fun _ => 0) ++ (wI Y a_29 9 (fun _ => 0) ++ (wI Y a_37 9 (fun _ => 0) ++ (wI Y a_45 9 (fun _ => 0) ++ (wI Y a_53 9 (fun _ => 0) ++ (wI Y a_61 81 (fun _ => 0) ++ wI Y a_69 81 (fun _ => 0))))))))) := hD
  refine W.widen (k := 8) (n := 210) (Nat.le_of_ble_eq_true rfl) (Nat.le_of_ble_eq_true rfl) ?_
  refine va_putF (D := D) (ci := 2) (v := .ref a_69) (ty := .array .int) (C := RX2) (T := TX2) (N := 13) hx hb hts in_X2_init_RX2 tyX2 tyX2_ok nmX2 hown hK.1 hP hD hS 0 rfl rfl 8 (by decide) (hts (.fieldLink RX2 37 "NineDancers$Ring" "dances" "[I") (by decide +kernel)) (fun _ h9 => h9) rfl hin rfl (by decide +kernel) rfl rfl (Nat.le_of_ble_eq_true rfl) dX2_init_71 (fun H locs hP hD hS => ?_)
  have hP : va_P D vwCl ([(r, .inr (2, [.ref a_6, .int 511, .ref a_21, .ref a_29, .ref a_37, .ref a_45, .ref a_53, .ref a_61, .ref a_69, .null, .null, .int 0, .int 0]))] ++ (wI Y a_6 3 (fun _ => 0) ++ (wI Y a_21 9 (fun _ => 0) ++ (wI Y a_29 9 (fun _ => 0) ++ (wI Y a_37 9 (fun _ => 0) ++ (wI Y a_45 9 (fun _ => 0) ++ (wI Y a_53 9 (fun _ => 0) ++ (wI Y a_61 81 (fun _ => 0) ++ wI Y a_69 81 (fun _ => 0))))))))) H := hP
  have hD : va_D A ([(r, .inr (2, [.ref a_6, .int 511, .ref a_21, .ref a_29, .ref a_37, .ref a_45, .ref a_53, .ref a_61, .ref a_69, .null, .null, .int 0, .int 0]))] ++ (wI Y a_6 3 (fun _ => 0) ++ (wI Y a_21 9 (fun _ => 0) ++ (wI Y a_29 9 (fun _ => 0) ++ (wI Y a_37 9 (fun _ => 0) ++ (wI Y a_45 9 (fun _ => 0) ++ (wI Y a_53 9 (fun _ => 0) ++ (wI Y a_61 81 (fun _ => 0) ++ wI Y a_69 81 (fun _ => 0))))))))) := hD
  refine lv_aload_n hx hb dX2_init_74 rfl (lv_at hl 0 rfl) ?_
  refine lv_bipush (v := 81) hx hb dX2_init_75 (by decide) ?_
  refine my_newI (D := D) (N := 81) hx hb (hts (.arrayClass .int) (by decide +kernel)) hK hP hD hS hA rfl (by decide) (Nat.le_of_ble_eq_true rfl) (Nat.le_of_ble_eq_true rfl) dX2_init_77 (fun a_77 H hP hD hS => ?_)
  have hP : va_P D vwCl ([(r, .inr (2, [.ref a_6, .int 511, .ref a_21, .ref a_29, .ref a_37, .ref a_45, .ref a_53, .ref a_61, .ref a_69, .null, .null, .int 0, .int 0]))] ++ (wI Y a_6 3 (fun _ => 0) ++ (wI Y a_21 9 (fun _ => 0) ++ (wI Y a_29 9 (fun _ => 0) ++ (wI Y a_37 9 (fun _ => 0) ++ (wI Y a_45 9 (fun _ => 0) ++ (wI Y a_53 9 (fun _ => 0) ++ (wI Y a_61 81 (fun _ => 0) ++ (wI Y a_69 81 (fun _ => 0) ++ wI Y a_77 81 (fun _ => 0)))))))))) H := hP
  have hD : va_D A ([(r, .inr (2, [.ref a_6, .int 511, .ref a_21, .ref a_29, .ref a_37, .ref a_45, .ref a_53, .ref a_61, .ref a_69, .null, .null, .int 0, .int 0]))] ++ (wI Y a_6 3 (fun _ => 0) ++ (wI Y a_21 9 (fun _ => 0) ++ (wI Y a_29 9 (fun _ => 0) ++ (wI Y a_37 9 (fun _ => 0) ++ (wI Y a_45 9 (fun _ => 0) ++ (wI Y a_53 9 (fun _ => 0) ++ (wI Y a_61 81 (fun _ => 0) ++ (wI Y a_69 81 (fun _ => 0) ++ wI Y a_77 81 (fun _ => 0)))))))))) := hD
  refine W.widen (k := 9) (n := 291) (Nat.le_of_ble_eq_true rfl) (Nat.le_of_ble_eq_true rfl) ?_
  refine va_putF (D := D) (ci := 2) (v := .ref a_77) (ty := .array .int) (C := RX2) (T := TX2) (N := 13) hx hb hts in_X2_init_RX2 tyX2 tyX2_ok nmX2 hown hK.1 hP hD hS 0 rfl rfl 9 (by decide) (hts (.fieldLink RX2 40 "NineDancers$Ring" "lastDances" "[I") (by decide +kernel)) (fun _ h9 => h9) rfl hin rfl (by decide +kernel) rfl rfl (Nat.le_of_ble_eq_true rfl) dX2_init_79 (fun H locs hP hD hS => ?_)
  have hP : va_P D vwCl ([(r, .inr (2, [.ref a_6, .int 511, .ref a_21, .ref a_29, .ref a_37, .ref a_45, .ref a_53, .ref a_61, .ref a_69, .ref a_77, .null, .int 0, .int 0]))] ++ (wI Y a_6 3 (fun _ => 0) ++ (wI Y a_21 9 (fun _ => 0) ++ (wI Y a_29 9 (fun _ => 0) ++ (wI Y a_37 9 (fun _ => 0) ++ (wI Y a_45 9 (fun _ => 0) ++ (wI Y a_53 9 (fun _ => 0) ++ (wI Y a_61 81 (fun _ => 0) ++ (wI Y a_69 81 (fun _ => 0) ++ wI Y a_77 81 (fun _ => 0)))))))))) H := hP
  have hD : va_D A ([(r, .inr (2, [.ref a_6, .int 511, .ref a_21, .ref a_29, .ref a_37, .ref a_45, .ref a_53, .ref a_61, .ref a_69, .ref a_77, .null, .int 0, .int 0]))] ++ (wI Y a_6 3 (fun _ => 0) ++ (wI Y a_21 9 (fun _ => 0) ++ (wI Y a_29 9 (fun _ => 0) ++ (wI Y a_37 9 (fun _ => 0) ++ (wI Y a_45 9 (fun _ => 0) ++ (wI Y a_53 9 (fun _ => 0) ++ (wI Y a_61 81 (fun _ => 0) ++ (wI Y a_69 81 (fun _ => 0) ++ wI Y a_77 81 (fun _ => 0)))))))))) := hD
  refine lv_aload_n hx hb dX2_init_82 rfl (lv_at hl 0 rfl) ?_
  refine lv_bipush (v := 9) hx hb dX2_init_83 (by decide) ?_
  refine my_newI (D := D) (N := 9) hx hb (hts (.arrayClass .int) (by decide +kernel)) hK hP hD hS hA rfl (by decide) (Nat.le_of_ble_eq_true rfl) (Nat.le_of_ble_eq_true rfl) dX2_init_85 (fun a_85 H hP hD hS => ?_)
  have hP : va_P D vwCl ([(r, .inr (2, [.ref a_6, .int 511, .ref a_21, .ref a_29, .ref a_37, .ref a_45, .ref a_53, .ref a_61, .ref a_69, .ref a_77, .null, .int 0, .int 0]))] ++ (wI Y a_6 3 (fun _ => 0) ++ (wI Y a_21 9 (fun _ => 0) ++ (wI Y a_29 9 (fun _ => 0) ++ (wI Y a_37 9 (fun _ => 0) ++ (wI Y a_45 9 (fun _ => 0) ++ (wI Y a_53 9 (fun _ => 0) ++ (wI Y a_61 81 (fun _ => 0) ++ (wI Y a_69 81 (fun _ => 0) ++ (wI Y a_77 81 (fun _ => 0) ++ wI Y a_85 9 (fun _ => 0))))))))))) H := hP
  have hD : va_D A ([(r, .inr (2, [.ref a_6, .int 511, .ref a_21, .ref a_29, .ref a_37, .ref a_45, .ref a_53, .ref a_61, .ref a_69, .ref a_77, .null, .int 0, .int 0]))] ++ (wI Y a_6 3 (fun _ => 0) ++ (wI Y a_21 9 (fun _ => 0) ++ (wI Y a_29 9 (fun _ => 0) ++ (wI Y a_37 9 (fun _ => 0) ++ (wI Y a_45 9 (fun _ => 0) ++ (wI Y a_53 9 (fun _ => 0) ++ (wI Y a_61 81 (fun _ => 0) ++ (wI Y a_69 81 (fun _ => 0) ++ (wI Y a_77 81 (fun _ => 0) ++ wI Y a_85 9 (fun _ => 0))))))))))) := hD
  refine W.widen (k := 10) (n := 300) (Nat.le_of_ble_eq_true rfl) (Nat.le_of_ble_eq_true rfl) ?_
  refine va_putF (D := D) (ci := 2) (v := .ref a_85) (ty := .array .int) (C := RX2) (T := TX2) (N := 13) hx hb hts in_X2_init_RX2 tyX2 tyX2_ok nmX2 hown hK.1 hP hD hS 0 rfl rfl 10 (by decide) (hts (.fieldLink RX2 43 "NineDancers$Ring" "timesTold" "[I") (by decide +kernel)) (fun _ h9 => h9) rfl hin rfl (by decide +kernel) rfl rfl (Nat.le_of_ble_eq_true rfl) dX2_init_87 (fun H locs hP hD hS => ?_)
  have hP : va_P D vwCl ([(r, .inr (2, [.ref a_6, .int 511, .ref a_21, .ref a_29, .ref a_37, .ref a_45, .ref a_53, .ref a_61, .ref a_69, .ref a_77, .ref a_85, .int 0, .int 0]))] ++ (wI Y a_6 3 (fun _ => 0) ++ (wI Y a_21 9 (fun _ => 0) ++ (wI Y a_29 9 (fun _ => 0) ++ (wI Y a_37 9 (fun _ => 0) ++ (wI Y a_45 9 (fun _ => 0) ++ (wI Y a_53 9 (fun _ => 0) ++ (wI Y a_61 81 (fun _ => 0) ++ (wI Y a_69 81 (fun _ => 0) ++ (wI Y a_77 81 (fun _ => 0) ++ wI Y a_85 9 (fun _ => 0))))))))))) H := hP
  have hD : va_D A ([(r, .inr (2, [.ref a_6, .int 511, .ref a_21, .ref a_29, .ref a_37, .ref a_45, .ref a_53, .ref a_61, .ref a_69, .ref a_77, .ref a_85, .int 0, .int 0]))] ++ (wI Y a_6 3 (fun _ => 0) ++ (wI Y a_21 9 (fun _ => 0) ++ (wI Y a_29 9 (fun _ => 0) ++ (wI Y a_37 9 (fun _ => 0) ++ (wI Y a_45 9 (fun _ => 0) ++ (wI Y a_53 9 (fun _ => 0) ++ (wI Y a_61 81 (fun _ => 0) ++ (wI Y a_69 81 (fun _ => 0) ++ (wI Y a_77 81 (fun _ => 0) ++ wI Y a_85 9 (fun _ => 0))))))))))) := hD
  refine lv_aload_n hx hb dX2_init_90 rfl (lv_at hl 0 rfl) ?_
  refine lv_iconst (v := 0) hx hb dX2_init_91 (by decide) ?_
  refine va_put (D := D) (ci := 2) (v := .int 0) (ty := .int) (C := RX2) (T := TX2) (N := 13) hx hb hts in_X2_init_RX2 tyX2 tyX2_ok nmX2 hown hK.1 hP hD hS 0 rfl rfl 11 (by decide) (hts (.fieldLink RX2 46 "NineDancers$Ring" "rounds" "I") (by decide +kernel)) (fun _ h9 => h9) rfl (by decide +kernel) rfl rfl (Nat.le_of_ble_eq_true rfl) dX2_init_92 (fun H locs hP hD hS => ?_)
  have hP : va_P D vwCl ([(r, .inr (2, [.ref a_6, .int 511, .ref a_21, .ref a_29, .ref a_37, .ref a_45, .ref a_53, .ref a_61, .ref a_69, .ref a_77, .ref a_85, .int 0, .int 0]))] ++ (wI Y a_6 3 (fun _ => 0) ++ (wI Y a_21 9 (fun _ => 0) ++ (wI Y a_29 9 (fun _ => 0) ++ (wI Y a_37 9 (fun _ => 0) ++ (wI Y a_45 9 (fun _ => 0) ++ (wI Y a_53 9 (fun _ => 0) ++ (wI Y a_61 81 (fun _ => 0) ++ (wI Y a_69 81 (fun _ => 0) ++ (wI Y a_77 81 (fun _ => 0) ++ wI Y a_85 9 (fun _ => 0))))))))))) H := hP
  have hD : va_D A ([(r, .inr (2, [.ref a_6, .int 511, .ref a_21, .ref a_29, .ref a_37, .ref a_45, .ref a_53, .ref a_61, .ref a_69, .ref a_77, .ref a_85, .int 0, .int 0]))] ++ (wI Y a_6 3 (fun _ => 0) ++ (wI Y a_21 9 (fun _ => 0) ++ (wI Y a_29 9 (fun _ => 0) ++ (wI Y a_37 9 (fun _ => 0) ++ (wI Y a_45 9 (fun _ => 0) ++ (wI Y a_53 9 (fun _ => 0) ++ (wI Y a_61 81 (fun _ => 0) ++ (wI Y a_69 81 (fun _ => 0) ++ (wI Y a_77 81 (fun _ => 0) ++ wI Y a_85 9 (fun _ => 0))))))))))) := hD
  refine lv_aload_n hx hb dX2_init_95 rfl (lv_at hl 0 rfl) ?_
  refine lv_ldc (v := (-1000006)) hx hb hown (hts (.constant RX2 49 (-1000006)) (by decide +kernel)) dX2_init_96 ?_
  refine va_put (D := D) (ci := 2) (v := .int (-1000006)) (ty := .int) (C := RX2) (T := TX2) (N := 13) hx hb hts in_X2_init_RX2 tyX2 tyX2_ok nmX2 hown hK.1 hP hD hS 0 rfl rfl 12 (by decide) (hts (.fieldLink RX2 50 "NineDancers$Ring" "lastNumber" "I") (by decide +kernel)) (fun _ h9 => h9) rfl (by decide +kernel) rfl rfl (Nat.le_of_ble_eq_true rfl) dX2_init_98 (fun H locs hP hD hS => ?_)
  have hP : va_P D vwCl ([(r, .inr (2, [.ref a_6, .int 511, .ref a_21, .ref a_29, .ref a_37, .ref a_45, .ref a_53, .ref a_61, .ref a_69, .ref a_77, .ref a_85, .int 0, .int (-1000006)]))] ++ (wI Y a_6 3 (fun _ => 0) ++ (wI Y a_21 9 (fun _ => 0) ++ (wI Y a_29 9 (fun _ => 0) ++ (wI Y a_37 9 (fun _ => 0) ++ (wI Y a_45 9 (fun _ => 0) ++ (wI Y a_53 9 (fun _ => 0) ++ (wI Y a_61 81 (fun _ => 0) ++ (wI Y a_69 81 (fun _ => 0) ++ (wI Y a_77 81 (fun _ => 0) ++ wI Y a_85 9 (fun _ => 0))))))))))) H := hP
  have hD : va_D A ([(r, .inr (2, [.ref a_6, .int 511, .ref a_21, .ref a_29, .ref a_37, .ref a_45, .ref a_53, .ref a_61, .ref a_69, .ref a_77, .ref a_85, .int 0, .int (-1000006)]))] ++ (wI Y a_6 3 (fun _ => 0) ++ (wI Y a_21 9 (fun _ => 0) ++ (wI Y a_29 9 (fun _ => 0) ++ (wI Y a_37 9 (fun _ => 0) ++ (wI Y a_45 9 (fun _ => 0) ++ (wI Y a_53 9 (fun _ => 0) ++ (wI Y a_61 81 (fun _ => 0) ++ (wI Y a_69 81 (fun _ => 0) ++ (wI Y a_77 81 (fun _ => 0) ++ wI Y a_85 9 (fun _ => 0))))))))))) := hD
  refine lv_aload_n hx hb dX2_init_101 rfl (lv_at hl 0 rfl) ?_
  refine va_get (D := D) (ci := 2) (v := .ref a_6) (C := RX2) (T := TX2) (N := 13) hx hb hts in_X2_init_RX2 hown hK.1 hP 0 rfl rfl 0 (by decide) (hts (.fieldLink RX2 9 "NineDancers$Ring" "settings" "[I") (by decide +kernel)) (fun _ h9 => h9) rfl dX2_init_102 ?_
  refine lv_iconst (v := 0) hx hb dX2_init_105 (by decide) ?_
  refine lv_iconst (v := 2) hx hb dX2_init_106 (by decide) ?_
  refine va_iast (D := D) hx hb hK.1 hP hD hS 1 0 rfl rfl (by unfold vp_in; decide) dX2_init_107 (fun H locs hP hD hS => ?_)
  have hP : va_P D vwCl ([(r, .inr (2, [.ref a_6, .int 511, .ref a_21, .ref a_29, .ref a_37, .ref a_45, .ref a_53, .ref a_61, .ref a_69, .ref a_77, .ref a_85, .int 0, .int (-1000006)]))] ++ (wI Y a_6 3 T_X2_init_1 ++ (wI Y a_21 9 (fun _ => 0) ++ (wI Y a_29 9 (fun _ => 0) ++ (wI Y a_37 9 (fun _ => 0) ++ (wI Y a_45 9 (fun _ => 0) ++ (wI Y a_53 9 (fun _ => 0) ++ (wI Y a_61 81 (fun _ => 0) ++ (wI Y a_69 81 (fun _ => 0) ++ (wI Y a_77 81 (fun _ => 0) ++ wI Y a_85 9 (fun _ => 0))))))))))) H := hP
  have hD : va_D A ([(r, .inr (2, [.ref a_6, .int 511, .ref a_21, .ref a_29, .ref a_37, .ref a_45, .ref a_53, .ref a_61, .ref a_69, .ref a_77, .ref a_85, .int 0, .int (-1000006)]))] ++ (wI Y a_6 3 T_X2_init_1 ++ (wI Y a_21 9 (fun _ => 0) ++ (wI Y a_29 9 (fun _ => 0) ++ (wI Y a_37 9 (fun _ => 0) ++ (wI Y a_45 9 (fun _ => 0) ++ (wI Y a_53 9 (fun _ => 0) ++ (wI Y a_61 81 (fun _ => 0) ++ (wI Y a_69 81 (fun _ => 0) ++ (wI Y a_77 81 (fun _ => 0) ++ wI Y a_85 9 (fun _ => 0))))))))))) := hD
  refine lv_aload_n hx hb dX2_init_108 rfl (lv_at hl 0 rfl) ?_
  refine va_get (D := D) (ci := 2) (v := .ref a_6) (C := RX2) (T := TX2) (N := 13) hx hb hts in_X2_init_RX2 hown hK.1 hP 0 rfl rfl 0 (by decide) (hts (.fieldLink RX2 9 "NineDancers$Ring" "settings" "[I") (by decide +kernel)) (fun _ h9 => h9) rfl dX2_init_109 ?_
  refine lv_iconst (v := 1) hx hb dX2_init_112 (by decide) ?_
  refine lv_iconst (v := 3) hx hb dX2_init_113 (by decide) ?_
  refine va_iast (D := D) hx hb hK.1 hP hD hS 1 0 rfl rfl (by unfold vp_in; decide) dX2_init_114 (fun H locs hP hD hS => ?_)
  have hP : va_P D vwCl ([(r, .inr (2, [.ref a_6, .int 511, .ref a_21, .ref a_29, .ref a_37, .ref a_45, .ref a_53, .ref a_61, .ref a_69, .ref a_77, .ref a_85, .int 0, .int (-1000006)]))] ++ (wI Y a_6 3 T_X2_init_2 ++ (wI Y a_21 9 (fun _ => 0) ++ (wI Y a_29 9 (fun _ => 0) ++ (wI Y a_37 9 (fun _ => 0) ++ (wI Y a_45 9 (fun _ => 0) ++ (wI Y a_53 9 (fun _ => 0) ++ (wI Y a_61 81 (fun _ => 0) ++ (wI Y a_69 81 (fun _ => 0) ++ (wI Y a_77 81 (fun _ => 0) ++ wI Y a_85 9 (fun _ => 0))))))))))) H := hP
  have hD : va_D A ([(r, .inr (2, [.ref a_6, .int 511, .ref a_21, .ref a_29, .ref a_37, .ref a_45, .ref a_53, .ref a_61, .ref a_69, .ref a_77, .ref a_85, .int 0, .int (-1000006)]))] ++ (wI Y a_6 3 T_X2_init_2 ++ (wI Y a_21 9 (fun _ => 0) ++ (wI Y a_29 9 (fun _ => 0) ++ (wI Y a_37 9 (fun _ => 0) ++ (wI Y a_45 9 (fun _ => 0) ++ (wI Y a_53 9 (fun _ => 0) ++ (wI Y a_61 81 (fun _ => 0) ++ (wI Y a_69 81 (fun _ => 0) ++ (wI Y a_77 81 (fun _ => 0) ++ wI Y a_85 9 (fun _ => 0))))))))))) := hD
  refine lv_aload_n hx hb dX2_init_115 rfl (lv_at hl 0 rfl) ?_
  refine va_get (D := D) (ci := 2) (v := .ref a_6) (C := RX2) (T := TX2) (N := 13) hx hb hts in_X2_init_RX2 hown hK.1 hP 0 rfl rfl 0 (by decide) (hts (.fieldLink RX2 9 "NineDancers$Ring" "settings" "[I") (by decide +kernel)) (fun _ h9 => h9) rfl dX2_init_116 ?_
  refine lv_iconst (v := 2) hx hb dX2_init_119 (by decide) ?_
  refine lv_iconst (v := 2) hx hb dX2_init_120 (by decide) ?_
  refine va_iast (D := D) hx hb hK.1 hP hD hS 1 0 rfl rfl (by unfold vp_in; decide) dX2_init_121 (fun H locs hP hD hS => ?_)
  have hP : va_P D vwCl ([(r, .inr (2, [.ref a_6, .int 511, .ref a_21, .ref a_29, .ref a_37, .ref a_45, .ref a_53, .ref a_61, .ref a_69, .ref a_77, .ref a_85, .int 0, .int (-1000006)]))] ++ (wI Y a_6 3 T_X2_init_3 ++ (wI Y a_21 9 (fun _ => 0) ++ (wI Y a_29 9 (fun _ => 0) ++ (wI Y a_37 9 (fun _ => 0) ++ (wI Y a_45 9 (fun _ => 0) ++ (wI Y a_53 9 (fun _ => 0) ++ (wI Y a_61 81 (fun _ => 0) ++ (wI Y a_69 81 (fun _ => 0) ++ (wI Y a_77 81 (fun _ => 0) ++ wI Y a_85 9 (fun _ => 0))))))))))) H := hP
  have hD : va_D A ([(r, .inr (2, [.ref a_6, .int 511, .ref a_21, .ref a_29, .ref a_37, .ref a_45, .ref a_53, .ref a_61, .ref a_69, .ref a_77, .ref a_85, .int 0, .int (-1000006)]))] ++ (wI Y a_6 3 T_X2_init_3 ++ (wI Y a_21 9 (fun _ => 0) ++ (wI Y a_29 9 (fun _ => 0) ++ (wI Y a_37 9 (fun _ => 0) ++ (wI Y a_45 9 (fun _ => 0) ++ (wI Y a_53 9 (fun _ => 0) ++ (wI Y a_61 81 (fun _ => 0) ++ (wI Y a_69 81 (fun _ => 0) ++ (wI Y a_77 81 (fun _ => 0) ++ wI Y a_85 9 (fun _ => 0))))))))))) := hD
  refine lv_aload_n hx hb dX2_init_122 rfl (lv_at hl 0 rfl) ?_
  refine va_get (D := D) (ci := 2) (v := .ref a_21) (C := RX2) (T := TX2) (N := 13) hx hb hts in_X2_init_RX2 hown hK.1 hP 0 rfl rfl 2 (by decide) (hts (.fieldLink RX2 19 "NineDancers$Ring" "strengths" "[I") (by decide +kernel)) (fun _ h9 => h9) rfl dX2_init_123 ?_
  refine lv_bipush (v := 10) hx hb dX2_init_126 (by decide) ?_
  refine ck_vD (wr := [(r, .inr (2, [.ref a_6, .int 511, .ref a_21, .ref a_29, .ref a_37, .ref a_45, .ref a_53, .ref a_61, .ref a_69, .ref a_77, .ref a_85, .int 0, .int (-1000006)]))] ++ (wI Y a_6 3 T_X2_init_3 ++ (wI Y a_29 9 (fun _ => 0) ++ (wI Y a_37 9 (fun _ => 0) ++ (wI Y a_45 9 (fun _ => 0) ++ (wI Y a_53 9 (fun _ => 0) ++ (wI Y a_61 81 (fun _ => 0) ++ (wI Y a_69 81 (fun _ => 0) ++ (wI Y a_77 81 (fun _ => 0) ++ wI Y a_85 9 (fun _ => 0)))))))))) (ws' := [(r, .inr (2, [.ref a_6, .int 511, .ref a_21, .ref a_29, .ref a_37, .ref a_45, .ref a_53, .ref a_61, .ref a_69, .ref a_77, .ref a_85, .int 0, .int (-1000006)]))] ++ (wI Y a_6 3 T_X2_init_3 ++ (wI Y a_21 9 (D_J7_fill_53178 9 (fun _ => 0) 10) ++ (wI Y a_29 9 (fun _ => 0) ++ (wI Y a_37 9 (fun _ => 0) ++ (wI Y a_45 9 (fun _ => 0) ++ (wI Y a_53 9 (fun _ => 0) ++ (wI Y a_61 81 (fun _ => 0) ++ (wI Y a_69 81 (fun _ => 0) ++ (wI Y a_77 81 (fun _ => 0) ++ wI Y a_85 9 (fun _ => 0))))))))))) (va_runS (As := [.ref a_21, .int 10]) (rest := []) ⟨hx, hb, hml, hown, hts⟩ (c_J7_fill_53178 l D Y H.size 9 (fun _ => 0) a_21 10 (by decide)) (va_cwS 2 hts gX2_init_J7_fill_53178 rfl rfl rfl (by decide +kernel) ⟨Nat.le_of_ble_eq_true rfl, Nat.le_of_ble_eq_true rfl⟩) (pst_S hK hP hD [2] rfl (by decide)) rfl rfl hl.1 rfl (lv_room (Nat.le_of_ble_eq_true rfl)) dX2_init_128 ⟨Nat.le_of_ble_eq_true rfl, Nat.le_of_ble_eq_true rfl⟩) hP hD hS hA [2] [0, 1, 3, 4, 5, 6, 7, 8, 9, 10] [0, 1, 10, 2, 3, 4, 5, 6, 7, 8, 9] rfl rfl (by decide) (by decide) rfl (by decide) (fun H locs hP hD hS => ?_)
  obtain ⟨S_1, eS_1⟩ : ∃ z9, (D_J7_fill_53178 9 (fun _ => 0) 10) = z9 := ⟨_, rfl⟩
  rw [eS_1] at hP hD
  refine lv_aload_n hx hb dX2_init_131 rfl (lv_at hl 0 rfl) ?_
  refine va_get (D := D) (ci := 2) (v := .ref a_77) (C := RX2) (T := TX2) (N := 13) hx hb hts in_X2_init_RX2 hown hK.1 hP 0 rfl rfl 9 (by decide) (hts (.fieldLink RX2 40 "NineDancers$Ring" "lastDances" "[I") (by decide +kernel)) (fun _ h9 => h9) rfl dX2_init_132 ?_
  refine lv_ldc (v := (-1000006)) hx hb hown (hts (.constant RX2 49 (-1000006)) (by decide +kernel)) dX2_init_135 ?_
  refine ck_vD (wr := [(r, .inr (2, [.ref a_6, .int 511, .ref a_21, .ref a_29, .ref a_37, .ref a_45, .ref a_53, .ref a_61, .ref a_69, .ref a_77, .ref a_85, .int 0, .int (-1000006)]))] ++ (wI Y a_6 3 T_X2_init_3 ++ (wI Y a_21 9 S_1 ++ (wI Y a_29 9 (fun _ => 0) ++ (wI Y a_37 9 (fun _ => 0) ++ (wI Y a_45 9 (fun _ => 0) ++ (wI Y a_53 9 (fun _ => 0) ++ (wI Y a_61 81 (fun _ => 0) ++ (wI Y a_69 81 (fun _ => 0) ++ wI Y a_85 9 (fun _ => 0)))))))))) (ws' := [(r, .inr (2, [.ref a_6, .int 511, .ref a_21, .ref a_29, .ref a_37, .ref a_45, .ref a_53, .ref a_61, .ref a_69, .ref a_77, .ref a_85, .int 0, .int (-1000006)]))] ++ (wI Y a_6 3 T_X2_init_3 ++ (wI Y a_21 9 S_1 ++ (wI Y a_29 9 (fun _ => 0) ++ (wI Y a_37 9 (fun _ => 0) ++ (wI Y a_45 9 (fun _ => 0) ++ (wI Y a_53 9 (fun _ => 0) ++ (wI Y a_61 81 (fun _ => 0) ++ (wI Y a_69 81 (fun _ => 0) ++ (wI Y a_77 81 (D_J7_fill_53178 81 (fun _ => 0) (-1000006)) ++ wI Y a_85 9 (fun _ => 0))))))))))) (va_runS (As := [.ref a_77, .int (-1000006)]) (rest := []) ⟨hx, hb, hml, hown, hts⟩ (c_J7_fill_53178 l D Y H.size 81 (fun _ => 0) a_77 (-1000006) (by decide)) (va_cwS 2 hts gX2_init_J7_fill_53178 rfl rfl rfl (by decide +kernel) ⟨Nat.le_of_ble_eq_true rfl, Nat.le_of_ble_eq_true rfl⟩) (pst_S hK hP hD [9] rfl (by decide)) rfl rfl hl.1 rfl (lv_room (Nat.le_of_ble_eq_true rfl)) dX2_init_137 ⟨Nat.le_of_ble_eq_true rfl, Nat.le_of_ble_eq_true rfl⟩) hP hD hS hA [9] [0, 1, 2, 3, 4, 5, 6, 7, 8, 10] [0, 1, 2, 3, 4, 5, 6, 7, 8, 10, 9] rfl rfl (by decide) (by decide) rfl (by decide) (fun H locs hP hD hS => ?_)
  obtain ⟨S_2, eS_2⟩ : ∃ z9, (D_J7_fill_53178 81 (fun _ => 0) (-1000006)) = z9 := ⟨_, rfl⟩
  rw [eS_2] at hP hD
  subst eS_2
  subst eS_1
  exact ret_v hx hb hr hlk hP hD hS dX2_init_140 ⟨Nat.le_of_ble_eq_true rfl, Nat.le_of_ble_eq_true rfl⟩ ⟨fun k => ([a_6, a_21, a_29, a_37, a_45, a_53, a_61, a_69, a_77, a_85] : List Nat).getD k 0, rfl⟩
def S0_X1 : Nat → Nat → Int32 := fun _ _ => 0
set_option maxRecDepth 100000 in
theorem in_X1_init_RX1 : ∀ w ∈ u_ws RX1 TX1 2, w ∈ wsX1_init := by decide +kernel
set_option maxHeartbeats 4000000 in
set_option maxRecDepth 100000 in
theorem c_X1_init (l : Launch) (D : va_G) (Y : YY) (sz : Nat) (pp : Nat) : Met l yX1_init wsX1_init ({ frames := 1, cells := 1, slots := 60, locals := 12 } : Room) (va_Pc [.ref pp] (Pst D Y sz ([(pp, .inr (1, [.null, .int 0]))]))) ((fun A : Nat → Prop => Qsv D (fun w9 => ∃ tx : Nat, w9 = wP Y pp tx S0_X1) A) (va_A ([(pp, .inr (1, [.null, .int 0]))]) sz)) 1 60 (va_A ([(pp, .inr (1, [.null, .int 0]))]) sz) := by
  refine ct_in (cc := cX1_init) (maxL := 1) (ret := none) (Qc := fun A : Nat → Prop => Qsv D (fun w9 => ∃ tx : Nat, w9 = wP Y pp tx S0_X1) A) (by decide +kernel) rfl (Nat.le_of_ble_eq_true rfl) ?_
  intro p e s m below meth c A ls hx hb hr hts hown hml hlk hin hsz hA hP hD hK hS hl
  have hown : s.vm.findClass RX1 = some m.cls := hown
  have hl : lv_has ls 1 [(0, .ref pp)] := hl
  show W p l e ({ frames := 1, cells := 1, slots := 60, locals := 12 } : Room) s m ([.ref pp] : List Value).toArray below meth c s.heap [] 0 0 (MQ below (Qsv D (fun w9 => ∃ tx : Nat, w9 = wP Y pp tx S0_X1) A) ([.ref pp] : List Value).toArray s 1 60 A) (F0 m 0 ls [])
  refine lv_aload_n hx hb dX1_init_0 rfl (lv_at hl 0 rfl) ?_
  refine W.objInit hx hb hown (hts (.methodLink RX1 3 objectInit) (by decide +kernel)) (hts (.instanceMethod objectInit) (by decide +kernel)) (hts _ (List.mem_of_getElem? (i := 3) rfl)) rfl (by rw [hml]; exact hl.1) rfl dX1_init_1 (Nat.le_of_ble_eq_true rfl) (Nat.le_of_ble_eq_true rfl) ?_
  refine W.eq (g2 := F0 m 4 ls []) rfl ?_
  refine lv_aload_n hx hb dX1_init_4 rfl (lv_at hl 0 rfl) ?_
  refine lv_bipush (v := 60) hx hb dX1_init_5 (by decide) ?_
  refine my_newC (D := D) (N := 60) hx hb (hts (.arrayClass .char) (by decide +kernel)) hK hP hD hS hA rfl (by decide) (Nat.le_of_ble_eq_true rfl) (Nat.le_of_ble_eq_true rfl) dX1_init_7 (fun a_7 H hP hD hS => ?_)
  have hP : va_P D vwCl ([(pp, .inr (1, [.null, .int 0]))] ++ [(a_7, .inl (Y.2.1, 60, .inl (fun _ => 0)))]) H := hP
  have hD : va_D A ([(pp, .inr (1, [.null, .int 0]))] ++ [(a_7, .inl (Y.2.1, 60, .inl (fun _ => 0)))]) := hD
  refine W.widen (k := 1) (n := 60) (Nat.le_of_ble_eq_true rfl) (Nat.le_of_ble_eq_true rfl) ?_
  refine va_putF (D := D) (ci := 1) (v := .ref a_7) (ty := .array .char) (C := RX1) (T := TX1) (N := 2) hx hb hts in_X1_init_RX1 tyX1 tyX1_ok nmX1 hown hK.1 hP hD hS 0 rfl rfl 0 (by decide) (hts (.fieldLink RX1 9 "NineDancers$Pad" "text" "[C") (by decide +kernel)) (fun _ h9 => h9) rfl hin rfl (by decide +kernel) rfl rfl (Nat.le_of_ble_eq_true rfl) dX1_init_9 (fun H locs hP hD hS => ?_)
  have hP : va_P D vwCl ([(pp, .inr (1, [.ref a_7, .int 0]))] ++ [(a_7, .inl (Y.2.1, 60, .inl (fun _ => 0)))]) H := hP
  have hD : va_D A ([(pp, .inr (1, [.ref a_7, .int 0]))] ++ [(a_7, .inl (Y.2.1, 60, .inl (fun _ => 0)))]) := hD
  refine lv_aload_n hx hb dX1_init_12 rfl (lv_at hl 0 rfl) ?_
  refine lv_iconst (v := 0) hx hb dX1_init_13 (by decide) ?_
  refine va_put (D := D) (ci := 1) (v := .int 0) (ty := .int) (C := RX1) (T := TX1) (N := 2) hx hb hts in_X1_init_RX1 tyX1 tyX1_ok nmX1 hown hK.1 hP hD hS 0 rfl rfl 1 (by decide) (hts (.fieldLink RX1 15 "NineDancers$Pad" "length" "I") (by decide +kernel)) (fun _ h9 => h9) rfl (by decide +kernel) rfl rfl (Nat.le_of_ble_eq_true rfl) dX1_init_14 (fun H locs hP hD hS => ?_)
  have hP : va_P D vwCl ([(pp, .inr (1, [.ref a_7, .int 0]))] ++ [(a_7, .inl (Y.2.1, 60, .inl (fun _ => 0)))]) H := hP
  have hD : va_D A ([(pp, .inr (1, [.ref a_7, .int 0]))] ++ [(a_7, .inl (Y.2.1, 60, .inl (fun _ => 0)))]) := hD
  exact ret_v hx hb hr hlk hP hD hS dX1_init_17 ⟨Nat.le_of_ble_eq_true rfl, Nat.le_of_ble_eq_true rfl⟩ ⟨a_7, rfl⟩
set_option maxRecDepth 100000 in
theorem in_X0_init_RX0 : ∀ w ∈ u_ws RX0 TX0 2, w ∈ wsX0_init := by decide +kernel
set_option maxRecDepth 100000 in
theorem in_X0_init_RX2 : ∀ w ∈ u_ws RX2 TX2 13, w ∈ wsX0_init := by decide +kernel
set_option maxHeartbeats 4000000 in
set_option maxRecDepth 100000 in
theorem c_X0_init (l : Launch) (D : va_G) (Y : YY) (sz : Nat) (h : Nat) : Met l yX0_init wsX0_init ({ frames := 2, cells := 67, slots := 1884, locals := 43 } : Room) (va_Pc [.ref h] (Pst D Y sz ([(h, .inr (0, [.null, .int 0]))]))) ((fun A : Nat → Prop => Qsv D (fun w9 => ∃ (sa : Nat) (f : Nat → Option Nat) (r0 : Nat) (q0 : Nat → Nat), f 0 = some r0 ∧ w9 = wH h sa 0 ++ (wA Y sa 6 f ++ wR Y r0 q0 S0_X2)) A) (va_A ([(h, .inr (0, [.null, .int 0]))]) sz)) 67 1884 (va_A ([(h, .inr (0, [.null, .int 0]))]) sz) := by
  refine ct_in (cc := cX0_init) (maxL := 2) (ret := none) (Qc := fun A : Nat → Prop => Qsv D (fun w9 => ∃ (sa : Nat) (f : Nat → Option Nat) (r0 : Nat) (q0 : Nat → Nat), f 0 = some r0 ∧ w9 = wH h sa 0 ++ (wA Y sa 6 f ++ wR Y r0 q0 S0_X2)) A) (by decide +kernel) rfl (Nat.le_of_ble_eq_true rfl) ?_
  intro p e s m below meth c A ls hx hb hr hts hown hml hlk hin hsz hA hP hD hK hS hl
  have hown : s.vm.findClass RX0 = some m.cls := hown
  have hl : lv_has ls 2 [(0, .ref h)] := hl
  show W p l e ({ frames := 2, cells := 67, slots := 1884, locals := 43 } : Room) s m ([.ref h] : List Value).toArray below meth c s.heap [] 0 0 (MQ below (Qsv D (fun w9 => ∃ (sa : Nat) (f : Nat → Option Nat) (r0 : Nat) (q0 : Nat → Nat), f 0 = some r0 ∧ w9 = wH h sa 0 ++ (wA Y sa 6 f ++ wR Y r0 q0 S0_X2)) A) ([.ref h] : List Value).toArray s 67 1884 A) (F0 m 0 ls [])
  refine lv_aload_n hx hb dX0_init_0 rfl (lv_at hl 0 rfl) ?_
  refine W.objInit hx hb hown (hts (.methodLink RX0 3 objectInit) (by decide +kernel)) (hts (.instanceMethod objectInit) (by decide +kernel)) (hts _ (List.mem_of_getElem? (i := 3) rfl)) rfl (by rw [hml]; exact hl.1) rfl dX0_init_1 (Nat.le_of_ble_eq_true rfl) (Nat.le_of_ble_eq_true rfl) ?_
  refine W.eq (g2 := F0 m 4 ls []) rfl ?_
  refine lv_aload_n hx hb dX0_init_4 rfl (lv_at hl 0 rfl) ?_
  refine lv_bipush (v := 6) hx hb dX0_init_5 (by decide) ?_
  refine my_newQ (D := D) (N := 6) hx hb hown (hts (.classLink RX0 9 RX2) (by decide +kernel)) hK hP hD hS hA rfl (by decide) (Nat.le_of_ble_eq_true rfl) (Nat.le_of_ble_eq_true rfl) dX0_init_7 (fun a_7 H hP hD hS => ?_)
  have hP : va_P D vwCl ([(h, .inr (0, [.null, .int 0]))] ++ wA Y a_7 6 (fun _ => none)) H := hP
  have hD : va_D A ([(h, .inr (0, [.null, .int 0]))] ++ wA Y a_7 6 (fun _ => none)) := hD
  refine W.widen (k := 1) (n := 6) (Nat.le_of_ble_eq_true rfl) (Nat.le_of_ble_eq_true rfl) ?_
  refine va_putF (D := D) (ci := 0) (v := .ref a_7) (ty := .array (.object "NineDancers$Ring")) (C := RX0) (T := TX0) (N := 2) hx hb hts in_X0_init_RX0 tyX0 tyX0_ok nmX0 hown hK.1 hP hD hS 0 rfl rfl 0 (by decide) (hts (.fieldLink RX0 11 "NineDancers$History" "states" "[LNineDancers$Ring;") (by decide +kernel)) (fun _ h9 => h9) rfl hin rfl (by decide +kernel) rfl rfl (Nat.le_of_ble_eq_true rfl) dX0_init_10 (fun H locs hP hD hS => ?_)
  have hP : va_P D vwCl ([(h, .inr (0, [.ref a_7, .int 0]))] ++ wA Y a_7 6 (fun _ => none)) H := hP
  have hD : va_D A ([(h, .inr (0, [.ref a_7, .int 0]))] ++ wA Y a_7 6 (fun _ => none)) := hD
  refine lv_aload_n hx hb dX0_init_13 rfl (lv_at hl 0 rfl) ?_
  refine lv_iconst (v := 0) hx hb dX0_init_14 (by decide) ?_
  refine va_put (D := D) (ci := 0) (v := .int 0) (ty := .int) (C := RX0) (T := TX0) (N := 2) hx hb hts in_X0_init_RX0 tyX0 tyX0_ok nmX0 hown hK.1 hP hD hS 0 rfl rfl 1 (by decide) (hts (.fieldLink RX0 17 "NineDancers$History" "length" "I") (by decide +kernel)) (fun _ h9 => h9) rfl (by decide +kernel) rfl rfl (Nat.le_of_ble_eq_true rfl) dX0_init_15 (fun H locs hP hD hS => ?_)
  have hP : va_P D vwCl ([(h, .inr (0, [.ref a_7, .int 0]))] ++ wA Y a_7 6 (fun _ => none)) H := hP
  have hD : va_D A ([(h, .inr (0, [.ref a_7, .int 0]))] ++ wA Y a_7 6 (fun _ => none)) := hD
  refine lv_iconst (v := 0) hx hb dX0_init_18 (by decide) ?_
  refine lv_istore_n (lv' := [(1, .int 0), (0, .ref h)]) hx hb dX0_init_19 rfl hl (by decide) rfl (fun ls hl => ?_)
  refine lv_iload_n hx hb dX0_init_20 rfl (lv_at hl 0 rfl) ?_
  refine lv_bipush (v := 6) hx hb dX0_init_21 (by decide) ?_
  refine lv_icmp_ge (tgt := 45) hx hb dX0_init_23 (by decide) (fun c_1 => ?_) (fun c_1 => ?_)
  · exact absurd c_1 (by decide)
  · refine lv_aload_n hx hb dX0_init_26 rfl (lv_at hl 1 rfl) ?_
    refine va_get (D := D) (ci := 0) (v := .ref a_7) (C := RX0) (T := TX0) (N := 2) hx hb hts in_X0_init_RX0 hown hK.1 hP 0 rfl rfl 0 (by decide) (hts (.fieldLink RX0 11 "NineDancers$History" "states" "[LNineDancers$Ring;") (by decide +kernel)) (fun _ h9 => h9) rfl dX0_init_27 ?_
    refine lv_iload_n hx hb dX0_init_30 rfl (lv_at hl 0 rfl) ?_
    refine va_new (D := D) (ci := 2) (fs := [.null, .int 0, .null, .null, .null, .null, .null, .null, .null, .null, .null, .int 0, .int 0]) (C := RX2) (T := TX2) (N := 13) hx hb hts in_X0_init_RX2 tyX2 tyX2_ok hown (hts (.classLink RX0 9 RX2) (by decide +kernel)) (hts (.instantiable RX2 13) (by decide +kernel)) (hts (.initialized RX2) (by decide +kernel)) hK.1 hP hD hS hA rfl df_X2 (Nat.le_of_ble_eq_true rfl) (Nat.le_of_ble_eq_true rfl) dX0_init_31 (fun o_2 H hP hD hS => ?_)
    have hP : va_P D vwCl ([(h, .inr (0, [.ref a_7, .int 0]))] ++ (wA Y a_7 6 (fun _ => none) ++ [(o_2, .inr (2, [.null, .int 0, .null, .null, .null, .null, .null, .null, .null, .null, .null, .int 0, .int 0]))])) H := hP
    have hD : va_D A ([(h, .inr (0, [.ref a_7, .int 0]))] ++ (wA Y a_7 6 (fun _ => none) ++ [(o_2, .inr (2, [.null, .int 0, .null, .null, .null, .null, .null, .null, .null, .null, .null, .int 0, .int 0]))])) := hD
    refine W.widen (k := 2) (n := 19) (Nat.le_of_ble_eq_true rfl) (Nat.le_of_ble_eq_true rfl) ?_
    refine lv_dup hx hb dX0_init_34 rfl ?_
    refine ck_v (wr := [(h, .inr (0, [.ref a_7, .int 0]))] ++ wA Y a_7 6 (fun _ => none)) (va_runI (As := []) (rest := [.ref o_2, .int 0, .ref a_7]) ⟨hx, hb, hml, hown, hts⟩ (c_X2_init l D Y H.size o_2) (cwI 0 hts gX0_init_X2_init rfl rfl rfl (hts (.initialized RX2) (by decide +kernel)) (hts (.methodLink RX0 21 yX2_init) (by decide +kernel)) (hts (.instanceMethod yX2_init) (by decide +kernel)) rfl (by decide +kernel) ⟨Nat.le_of_ble_eq_true rfl, Nat.le_of_ble_eq_true rfl⟩) (pst_S hK hP hD [2] rfl (by decide)) rfl rfl hl.1 rfl (lv_room (Nat.le_of_ble_eq_true rfl)) dX0_init_35 ⟨Nat.le_of_ble_eq_true rfl, Nat.le_of_ble_eq_true rfl⟩) hP hD hS hA [2] [0, 1] rfl rfl (by decide) (by decide) (fun w9 H locs hw9 hP hD hS => ?_)
    obtain ⟨q_3, rfl⟩ := hw9
    have hP : va_P D vwCl ([(h, .inr (0, [.ref a_7, .int 0]))] ++ (wA Y a_7 6 (fun _ => none) ++ wR Y o_2 q_3 S0_X2)) H := hP
    have hD : va_D A ([(h, .inr (0, [.ref a_7, .int 0]))] ++ (wA Y a_7 6 (fun _ => none) ++ wR Y o_2 q_3 S0_X2)) := hD
    refine W.widen (k := 12) (n := 319) (Nat.le_of_ble_eq_true rfl) (Nat.le_of_ble_eq_true rfl) ?_
    refine va_astq (D := D) hx hb hK.1 hP hD hS 1 2 2 2 rfl rfl rfl rfl (by unfold vp_in; decide) dX0_init_38 (fun H locs hP hD hS => ?_)
    have hP : va_P D vwCl ([(h, .inr (0, [.ref a_7, .int 0]))] ++ (wA Y a_7 6 (va_up (fun _ => none) (0 : Int32).toNatClampNeg (some o_2)) ++ wR Y o_2 q_3 S0_X2)) H := hP
    have hD : va_D A ([(h, .inr (0, [.ref a_7, .int 0]))] ++ (wA Y a_7 6 (va_up (fun _ => none) (0 : Int32).toNatClampNeg (some o_2)) ++ wR Y o_2 q_3 S0_X2)) := hD
    refine lv_iinc (v := 1) (lv' := [(1, .int 1), (0, .ref h)]) hx hb dX0_init_39 hl (k := 0) rfl rfl (by decide) rfl (fun ls hl => ?_)
    refine lv_goto (tgt := 20) hx hb dX0_init_42 (by decide) ?_
    refine lv_iload_n hx hb dX0_init_20 rfl (lv_at hl 0 rfl) ?_
    refine lv_bipush (v := 6) hx hb dX0_init_21 (by decide) ?_
    refine lv_icmp_ge (tgt := 45) hx hb dX0_init_23 (by decide) (fun c_4 => ?_) (fun c_4 => ?_)
    · exact absurd c_4 (by decide)
    · refine lv_aload_n hx hb dX0_init_26 rfl (lv_at hl 1 rfl) ?_
      refine va_get (D := D) (ci := 0) (v := .ref a_7) (C := RX0) (T := TX0) (N := 2) hx hb hts in_X0_init_RX0 hown hK.1 hP 0 rfl rfl 0 (by decide) (hts (.fieldLink RX0 11 "NineDancers$History" "states" "[LNineDancers$Ring;") (by decide +kernel)) (fun _ h9 => h9) rfl dX0_init_27 ?_
      refine lv_iload_n hx hb dX0_init_30 rfl (lv_at hl 0 rfl) ?_
      refine va_new (D := D) (ci := 2) (fs := [.null, .int 0, .null, .null, .null, .null, .null, .null, .null, .null, .null, .int 0, .int 0]) (C := RX2) (T := TX2) (N := 13) hx hb hts in_X0_init_RX2 tyX2 tyX2_ok hown (hts (.classLink RX0 9 RX2) (by decide +kernel)) (hts (.instantiable RX2 13) (by decide +kernel)) (hts (.initialized RX2) (by decide +kernel)) hK.1 hP hD hS hA rfl df_X2 (Nat.le_of_ble_eq_true rfl) (Nat.le_of_ble_eq_true rfl) dX0_init_31 (fun o_5 H hP hD hS => ?_)
      have hP : va_P D vwCl ([(h, .inr (0, [.ref a_7, .int 0]))] ++ (wA Y a_7 6 (va_up (fun _ => none) (0 : Int32).toNatClampNeg (some o_2)) ++ (wR Y o_2 q_3 S0_X2 ++ [(o_5, .inr (2, [.null, .int 0, .null, .null, .null, .null, .null, .null, .null, .null, .null, .int 0, .int 0]))]))) H := hP
      have hD : va_D A ([(h, .inr (0, [.ref a_7, .int 0]))] ++ (wA Y a_7 6 (va_up (fun _ => none) (0 : Int32).toNatClampNeg (some o_2)) ++ (wR Y o_2 q_3 S0_X2 ++ [(o_5, .inr (2, [.null, .int 0, .null, .null, .null, .null, .null, .null, .null, .null, .null, .int 0, .int 0]))]))) := hD
      refine W.widen (k := 13) (n := 332) (Nat.le_of_ble_eq_true rfl) (Nat.le_of_ble_eq_true rfl) ?_
      refine lv_dup hx hb dX0_init_34 rfl ?_
      refine ck_v (wr := [(h, .inr (0, [.ref a_7, .int 0]))] ++ (wA Y a_7 6 (va_up (fun _ => none) (0 : Int32).toNatClampNeg (some o_2)) ++ wR Y o_2 q_3 S0_X2)) (va_runI (As := []) (rest := [.ref o_5, .int 1, .ref a_7]) ⟨hx, hb, hml, hown, hts⟩ (c_X2_init l D Y H.size o_5) (cwI 0 hts gX0_init_X2_init rfl rfl rfl (hts (.initialized RX2) (by decide +kernel)) (hts (.methodLink RX0 21 yX2_init) (by decide +kernel)) (hts (.instanceMethod yX2_init) (by decide +kernel)) rfl (by decide +kernel) ⟨Nat.le_of_ble_eq_true rfl, Nat.le_of_ble_eq_true rfl⟩) (pst_S hK hP hD [13] rfl (by decide)) rfl rfl hl.1 rfl (lv_room (Nat.le_of_ble_eq_true rfl)) dX0_init_35 ⟨Nat.le_of_ble_eq_true rfl, Nat.le_of_ble_eq_true rfl⟩) hP hD hS hA [13] [0, 1, 2, 3, 4, 5, 6, 7, 8, 9, 10, 11, 12] rfl rfl (by decide) (by decide) (fun w9 H locs hw9 hP hD hS => ?_)
      obtain ⟨q_6, rfl⟩ := hw9
      have hP : va_P D vwCl ([(h, .inr (0, [.ref a_7, .int 0]))] ++ (wA Y a_7 6 (va_up (fun _ => none) (0 : Int32).toNatClampNeg (some o_2)) ++ (wR Y o_2 q_3 S0_X2 ++ wR Y o_5 q_6 S0_X2))) H := hP
      have hD : va_D A ([(h, .inr (0, [.ref a_7, .int 0]))] ++ (wA Y a_7 6 (va_up (fun _ => none) (0 : Int32).toNatClampNeg (some o_2)) ++ (wR Y o_2 q_3 S0_X2 ++ wR Y o_5 q_6 S0_X2))) := hD
      refine W.widen (k := 23) (n := 632) (Nat.le_of_ble_eq_true rfl) (Nat.le_of_ble_eq_true rfl) ?_
      refine va_astq (D := D) hx hb hK.1 hP hD hS 1 2 13 2 rfl rfl rfl rfl (by unfold vp_in; decide) dX0_init_38 (fun H locs hP hD hS => ?_)
      have hP : va_P D vwCl ([(h, .inr (0, [.ref a_7, .int 0]))] ++ (wA Y a_7 6 (va_up (va_up (fun _ => none) (0 : Int32).toNatClampNeg (some o_2)) (1 : Int32).toNatClampNeg (some o_5)) ++ (wR Y o_2 q_3 S0_X2 ++ wR Y o_5 q_6 S0_X2))) H := hP
      have hD : va_D A ([(h, .inr (0, [.ref a_7, .int 0]))] ++ (wA Y a_7 6 (va_up (va_up (fun _ => none) (0 : Int32).toNatClampNeg (some o_2)) (1 : Int32).toNatClampNeg (some o_5)) ++ (wR Y o_2 q_3 S0_X2 ++ wR Y o_5 q_6 S0_X2))) := hD
      refine lv_iinc (v := 2) (lv' := [(1, .int 2), (0, .ref h)]) hx hb dX0_init_39 hl (k := 0) rfl rfl (by decide) rfl (fun ls hl => ?_)
      refine lv_goto (tgt := 20) hx hb dX0_init_42 (by decide) ?_
      refine lv_iload_n hx hb dX0_init_20 rfl (lv_at hl 0 rfl) ?_
      refine lv_bipush (v := 6) hx hb dX0_init_21 (by decide) ?_
      refine lv_icmp_ge (tgt := 45) hx hb dX0_init_23 (by decide) (fun c_7 => ?_) (fun c_7 => ?_)
      · exact absurd c_7 (by decide)
      · refine lv_aload_n hx hb dX0_init_26 rfl (lv_at hl 1 rfl) ?_
        refine va_get (D := D) (ci := 0) (v := .ref a_7) (C := RX0) (T := TX0) (N := 2) hx hb hts in_X0_init_RX0 hown hK.1 hP 0 rfl rfl 0 (by decide) (hts (.fieldLink RX0 11 "NineDancers$History" "states" "[LNineDancers$Ring;") (by decide +kernel)) (fun _ h9 => h9) rfl dX0_init_27 ?_
        refine lv_iload_n hx hb dX0_init_30 rfl (lv_at hl 0 rfl) ?_
        refine va_new (D := D) (ci := 2) (fs := [.null, .int 0, .null, .null, .null, .null, .null, .null, .null, .null, .null, .int 0, .int 0]) (C := RX2) (T := TX2) (N := 13) hx hb hts in_X0_init_RX2 tyX2 tyX2_ok hown (hts (.classLink RX0 9 RX2) (by decide +kernel)) (hts (.instantiable RX2 13) (by decide +kernel)) (hts (.initialized RX2) (by decide +kernel)) hK.1 hP hD hS hA rfl df_X2 (Nat.le_of_ble_eq_true rfl) (Nat.le_of_ble_eq_true rfl) dX0_init_31 (fun o_8 H hP hD hS => ?_)
        have hP : va_P D vwCl ([(h, .inr (0, [.ref a_7, .int 0]))] ++ (wA Y a_7 6 (va_up (va_up (fun _ => none) (0 : Int32).toNatClampNeg (some o_2)) (1 : Int32).toNatClampNeg (some o_5)) ++ (wR Y o_2 q_3 S0_X2 ++ (wR Y o_5 q_6 S0_X2 ++ [(o_8, .inr (2, [.null, .int 0, .null, .null, .null, .null, .null, .null, .null, .null, .null, .int 0, .int 0]))])))) H := hP
        have hD : va_D A ([(h, .inr (0, [.ref a_7, .int 0]))] ++ (wA Y a_7 6 (va_up (va_up (fun _ => none) (0 : Int32).toNatClampNeg (some o_2)) (1 : Int32).toNatClampNeg (some o_5)) ++ (wR Y o_2 q_3 S0_X2 ++ (wR Y o_5 q_6 S0_X2 ++ [(o_8, .inr (2, [.null, .int 0, .null, .null, .null, .null, .null, .null, .null, .null, .null, .int 0, .int 0]))])))) := hD
        refine W.widen (k := 24) (n := 645) (Nat.le_of_ble_eq_true rfl) (Nat.le_of_ble_eq_true rfl) ?_
        refine lv_dup hx hb dX0_init_34 rfl ?_
        refine ck_v (wr := [(h, .inr (0, [.ref a_7, .int 0]))] ++ (wA Y a_7 6 (va_up (va_up (fun _ => none) (0 : Int32).toNatClampNeg (some o_2)) (1 : Int32).toNatClampNeg (some o_5)) ++ (wR Y o_2 q_3 S0_X2 ++ wR Y o_5 q_6 S0_X2))) (va_runI (As := []) (rest := [.ref o_8, .int 2, .ref a_7]) ⟨hx, hb, hml, hown, hts⟩ (c_X2_init l D Y H.size o_8) (cwI 0 hts gX0_init_X2_init rfl rfl rfl (hts (.initialized RX2) (by decide +kernel)) (hts (.methodLink RX0 21 yX2_init) (by decide +kernel)) (hts (.instanceMethod yX2_init) (by decide +kernel)) rfl (by decide +kernel) ⟨Nat.le_of_ble_eq_true rfl, Nat.le_of_ble_eq_true rfl⟩) (pst_S hK hP hD [24] rfl (by decide)) rfl rfl hl.1 rfl (lv_room (Nat.le_of_ble_eq_true rfl)) dX0_init_35 ⟨Nat.le_of_ble_eq_true rfl, Nat.le_of_ble_eq_true rfl⟩) hP hD hS hA [24] [0, 1, 2, 3, 4, 5, 6, 7, 8, 9, 10, 11, 12, 13, 14, 15, 16, 17, 18, 19, 20, 21, 22, 23] rfl rfl (by decide) (by decide) (fun w9 H locs hw9 hP hD hS => ?_)
        obtain ⟨q_9, rfl⟩ := hw9
        have hP : va_P D vwCl ([(h, .inr (0, [.ref a_7, .int 0]))] ++ (wA Y a_7 6 (va_up (va_up (fun _ => none) (0 : Int32).toNatClampNeg (some o_2)) (1 : Int32).toNatClampNeg (some o_5)) ++ (wR Y o_2 q_3 S0_X2 ++ (wR Y o_5 q_6 S0_X2 ++ wR Y o_8 q_9 S0_X2)))) H := hP
        have hD : va_D A ([(h, .inr (0, [.ref a_7, .int 0]))] ++ (wA Y a_7 6 (va_up (va_up (fun _ => none) (0 : Int32).toNatClampNeg (some o_2)) (1 : Int32).toNatClampNeg (some o_5)) ++ (wR Y o_2 q_3 S0_X2 ++ (wR Y o_5 q_6 S0_X2 ++ wR Y o_8 q_9 S0_X2)))) := hD
        refine W.widen (k := 34) (n := 945) (Nat.le_of_ble_eq_true rfl) (Nat.le_of_ble_eq_true rfl) ?_
        refine va_astq (D := D) hx hb hK.1 hP hD hS 1 2 24 2 rfl rfl rfl rfl (by unfold vp_in; decide) dX0_init_38 (fun H locs hP hD hS => ?_)
        have hP : va_P D vwCl ([(h, .inr (0, [.ref a_7, .int 0]))] ++ (wA Y a_7 6 (va_up (va_up (va_up (fun _ => none) (0 : Int32).toNatClampNeg (some o_2)) (1 : Int32).toNatClampNeg (some o_5)) (2 : Int32).toNatClampNeg (some o_8)) ++ (wR Y o_2 q_3 S0_X2 ++ (wR Y o_5 q_6 S0_X2 ++ wR Y o_8 q_9 S0_X2)))) H := hP
        have hD : va_D A ([(h, .inr (0, [.ref a_7, .int 0]))] ++ (wA Y a_7 6 (va_up (va_up (va_up (fun _ => none) (0 : Int32).toNatClampNeg (some o_2)) (1 : Int32).toNatClampNeg (some o_5)) (2 : Int32).toNatClampNeg (some o_8)) ++ (wR Y o_2 q_3 S0_X2 ++ (wR Y o_5 q_6 S0_X2 ++ wR Y o_8 q_9 S0_X2)))) := hD
        refine lv_iinc (v := 3) (lv' := [(1, .int 3), (0, .ref h)]) hx hb dX0_init_39 hl (k := 0) rfl rfl (by decide) rfl (fun ls hl => ?_)
        refine lv_goto (tgt := 20) hx hb dX0_init_42 (by decide) ?_
        refine lv_iload_n hx hb dX0_init_20 rfl (lv_at hl 0 rfl) ?_
        refine lv_bipush (v := 6) hx hb dX0_init_21 (by decide) ?_
        refine lv_icmp_ge (tgt := 45) hx hb dX0_init_23 (by decide) (fun c_10 => ?_) (fun c_10 => ?_)
        · exact absurd c_10 (by decide)
        · refine lv_aload_n hx hb dX0_init_26 rfl (lv_at hl 1 rfl) ?_
          refine va_get (D := D) (ci := 0) (v := .ref a_7) (C := RX0) (T := TX0) (N := 2) hx hb hts in_X0_init_RX0 hown hK.1 hP 0 rfl rfl 0 (by decide) (hts (.fieldLink RX0 11 "NineDancers$History" "states" "[LNineDancers$Ring;") (by decide +kernel)) (fun _ h9 => h9) rfl dX0_init_27 ?_
          refine lv_iload_n hx hb dX0_init_30 rfl (lv_at hl 0 rfl) ?_
          refine va_new (D := D) (ci := 2) (fs := [.null, .int 0, .null, .null, .null, .null, .null, .null, .null, .null, .null, .int 0, .int 0]) (C := RX2) (T := TX2) (N := 13) hx hb hts in_X0_init_RX2 tyX2 tyX2_ok hown (hts (.classLink RX0 9 RX2) (by decide +kernel)) (hts (.instantiable RX2 13) (by decide +kernel)) (hts (.initialized RX2) (by decide +kernel)) hK.1 hP hD hS hA rfl df_X2 (Nat.le_of_ble_eq_true rfl) (Nat.le_of_ble_eq_true rfl) dX0_init_31 (fun o_11 H hP hD hS => ?_)
          have hP : va_P D vwCl ([(h, .inr (0, [.ref a_7, .int 0]))] ++ (wA Y a_7 6 (va_up (va_up (va_up (fun _ => none) (0 : Int32).toNatClampNeg (some o_2)) (1 : Int32).toNatClampNeg (some o_5)) (2 : Int32).toNatClampNeg (some o_8)) ++ (wR Y o_2 q_3 S0_X2 ++ (wR Y o_5 q_6 S0_X2 ++ (wR Y o_8 q_9 S0_X2 ++ [(o_11, .inr (2, [.null, .int 0, .null, .null, .null, .null, .null, .null, .null, .null, .null, .int 0, .int 0]))]))))) H := hP
          have hD : va_D A ([(h, .inr (0, [.ref a_7, .int 0]))] ++ (wA Y a_7 6 (va_up (va_up (va_up (fun _ => none) (0 : Int32).toNatClampNeg (some o_2)) (1 : Int32).toNatClampNeg (some o_5)) (2 : Int32).toNatClampNeg (some o_8)) ++ (wR Y o_2 q_3 S0_X2 ++ (wR Y o_5 q_6 S0_X2 ++ (wR Y o_8 q_9 S0_X2 ++ [(o_11, .inr (2, [.null, .int 0, .null, .null, .null, .null, .null, .null, .null, .null, .null, .int 0, .int 0]))]))))) := hD
          refine W.widen (k := 35) (n := 958) (Nat.le_of_ble_eq_true rfl) (Nat.le_of_ble_eq_true rfl) ?_
          refine lv_dup hx hb dX0_init_34 rfl ?_
          refine ck_v (wr := [(h, .inr (0, [.ref a_7, .int 0]))] ++ (wA Y a_7 6 (va_up (va_up (va_up (fun _ => none) (0 : Int32).toNatClampNeg (some o_2)) (1 : Int32).toNatClampNeg (some o_5)) (2 : Int32).toNatClampNeg (some o_8)) ++ (wR Y o_2 q_3 S0_X2 ++ (wR Y o_5 q_6 S0_X2 ++ wR Y o_8 q_9 S0_X2)))) (va_runI (As := []) (rest := [.ref o_11, .int 3, .ref a_7]) ⟨hx, hb, hml, hown, hts⟩ (c_X2_init l D Y H.size o_11) (cwI 0 hts gX0_init_X2_init rfl rfl rfl (hts (.initialized RX2) (by decide +kernel)) (hts (.methodLink RX0 21 yX2_init) (by decide +kernel)) (hts (.instanceMethod yX2_init) (by decide +kernel)) rfl (by decide +kernel) ⟨Nat.le_of_ble_eq_true rfl, Nat.le_of_ble_eq_true rfl⟩) (pst_S hK hP hD [35] rfl (by decide)) rfl rfl hl.1 rfl (lv_room (Nat.le_of_ble_eq_true rfl)) dX0_init_35 ⟨Nat.le_of_ble_eq_true rfl, Nat.le_of_ble_eq_true rfl⟩) hP hD hS hA [35] [0, 1, 2, 3, 4, 5, 6, 7, 8, 9, 10, 11, 12, 13, 14, 15, 16, 17, 18, 19, 20, 21, 22, 23, 24, 25, 26, 27, 28, 29, 30, 31, 32, 33, 34] rfl rfl (by decide) (by decide) (fun w9 H locs hw9 hP hD hS => ?_)
          obtain ⟨q_12, rfl⟩ := hw9
          have hP : va_P D vwCl ([(h, .inr (0, [.ref a_7, .int 0]))] ++ (wA Y a_7 6 (va_up (va_up (va_up (fun _ => none) (0 : Int32).toNatClampNeg (some o_2)) (1 : Int32).toNatClampNeg (some o_5)) (2 : Int32).toNatClampNeg (some o_8)) ++ (wR Y o_2 q_3 S0_X2 ++ (wR Y o_5 q_6 S0_X2 ++ (wR Y o_8 q_9 S0_X2 ++ wR Y o_11 q_12 S0_X2))))) H := hP
          have hD : va_D A ([(h, .inr (0, [.ref a_7, .int 0]))] ++ (wA Y a_7 6 (va_up (va_up (va_up (fun _ => none) (0 : Int32).toNatClampNeg (some o_2)) (1 : Int32).toNatClampNeg (some o_5)) (2 : Int32).toNatClampNeg (some o_8)) ++ (wR Y o_2 q_3 S0_X2 ++ (wR Y o_5 q_6 S0_X2 ++ (wR Y o_8 q_9 S0_X2 ++ wR Y o_11 q_12 S0_X2))))) := hD
          refine W.widen (k := 45) (n := 1258) (Nat.le_of_ble_eq_true rfl) (Nat.le_of_ble_eq_true rfl) ?_
          refine va_astq (D := D) hx hb hK.1 hP hD hS 1 2 35 2 rfl rfl rfl rfl (by unfold vp_in; decide) dX0_init_38 (fun H locs hP hD hS => ?_)
          have hP : va_P D vwCl ([(h, .inr (0, [.ref a_7, .int 0]))] ++ (wA Y a_7 6 (va_up (va_up (va_up (va_up (fun _ => none) (0 : Int32).toNatClampNeg (some o_2)) (1 : Int32).toNatClampNeg (some o_5)) (2 : Int32).toNatClampNeg (some o_8)) (3 : Int32).toNatClampNeg (some o_11)) ++ (wR Y o_2 q_3 S0_X2 ++ (wR Y o_5 q_6 S0_X2 ++ (wR Y o_8 q_9 S0_X2 ++ wR Y o_11 q_12 S0_X2))))) H := hP
          have hD : va_D A ([(h, .inr (0, [.ref a_7, .int 0]))] ++ (wA Y a_7 6 (va_up (va_up (va_up (va_up (fun _ => none) (0 : Int32).toNatClampNeg (some o_2)) (1 : Int32).toNatClampNeg (some o_5)) (2 : Int32).toNatClampNeg (some o_8)) (3 : Int32).toNatClampNeg (some o_11)) ++ (wR Y o_2 q_3 S0_X2 ++ (wR Y o_5 q_6 S0_X2 ++ (wR Y o_8 q_9 S0_X2 ++ wR Y o_11 q_12 S0_X2))))) := hD
          refine lv_iinc (v := 4) (lv' := [(1, .int 4), (0, .ref h)]) hx hb dX0_init_39 hl (k := 0) rfl rfl (by decide) rfl (fun ls hl => ?_)
          refine lv_goto (tgt := 20) hx hb dX0_init_42 (by decide) ?_
          refine lv_iload_n hx hb dX0_init_20 rfl (lv_at hl 0 rfl) ?_
          refine lv_bipush (v := 6) hx hb dX0_init_21 (by decide) ?_
          refine lv_icmp_ge (tgt := 45) hx hb dX0_init_23 (by decide) (fun c_13 => ?_) (fun c_13 => ?_)
          · exact absurd c_13 (by decide)
          · refine lv_aload_n hx hb dX0_init_26 rfl (lv_at hl 1 rfl) ?_
            refine va_get (D := D) (ci := 0) (v := .ref a_7) (C := RX0) (T := TX0) (N := 2) hx hb hts in_X0_init_RX0 hown hK.1 hP 0 rfl rfl 0 (by decide) (hts (.fieldLink RX0 11 "NineDancers$History" "states" "[LNineDancers$Ring;") (by decide +kernel)) (fun _ h9 => h9) rfl dX0_init_27 ?_
            refine lv_iload_n hx hb dX0_init_30 rfl (lv_at hl 0 rfl) ?_
            refine va_new (D := D) (ci := 2) (fs := [.null, .int 0, .null, .null, .null, .null, .null, .null, .null, .null, .null, .int 0, .int 0]) (C := RX2) (T := TX2) (N := 13) hx hb hts in_X0_init_RX2 tyX2 tyX2_ok hown (hts (.classLink RX0 9 RX2) (by decide +kernel)) (hts (.instantiable RX2 13) (by decide +kernel)) (hts (.initialized RX2) (by decide +kernel)) hK.1 hP hD hS hA rfl df_X2 (Nat.le_of_ble_eq_true rfl) (Nat.le_of_ble_eq_true rfl) dX0_init_31 (fun o_14 H hP hD hS => ?_)
            have hP : va_P D vwCl ([(h, .inr (0, [.ref a_7, .int 0]))] ++ (wA Y a_7 6 (va_up (va_up (va_up (va_up (fun _ => none) (0 : Int32).toNatClampNeg (some o_2)) (1 : Int32).toNatClampNeg (some o_5)) (2 : Int32).toNatClampNeg (some o_8)) (3 : Int32).toNatClampNeg (some o_11)) ++ (wR Y o_2 q_3 S0_X2 ++ (wR Y o_5 q_6 S0_X2 ++ (wR Y o_8 q_9 S0_X2 ++ (wR Y o_11 q_12 S0_X2 ++ [(o_14, .inr (2, [.null, .int 0, .null, .null, .null, .null, .null, .null, .null, .null, .null, .int 0, .int 0]))])))))) H := hP
            have hD : va_D A ([(h, .inr (0, [.ref a_7, .int 0]))] ++ (wA Y a_7 6 (va_up (va_up (va_up (va_up (fun _ => none) (0 : Int32).toNatClampNeg (some o_2)) (1 : Int32).toNatClampNeg (some o_5)) (2 : Int32).toNatClampNeg (some o_8)) (3 : Int32).toNatClampNeg (some o_11)) ++ (wR Y o_2 q_3 S0_X2 ++ (wR Y o_5 q_6 S0_X2 ++ (wR Y o_8 q_9 S0_X2 ++ (wR Y o_11 q_12 S0_X2 ++ [(o_14, .inr (2, [.null, .int 0, .null, .null, .null, .null, .null, .null, .null, .null, .null, .int 0, .int 0]))])))))) := hD
            refine W.widen (k := 46) (n := 1271) (Nat.le_of_ble_eq_true rfl) (Nat.le_of_ble_eq_true rfl) ?_
            refine lv_dup hx hb dX0_init_34 rfl ?_
            refine ck_v (wr := [(h, .inr (0, [.ref a_7, .int 0]))] ++ (wA Y a_7 6 (va_up (va_up (va_up (va_up (fun _ => none) (0 : Int32).toNatClampNeg (some o_2)) (1 : Int32).toNatClampNeg (some o_5)) (2 : Int32).toNatClampNeg (some o_8)) (3 : Int32).toNatClampNeg (some o_11)) ++ (wR Y o_2 q_3 S0_X2 ++ (wR Y o_5 q_6 S0_X2 ++ (wR Y o_8 q_9 S0_X2 ++ wR Y o_11 q_12 S0_X2))))) (va_runI (As := []) (rest := [.ref o_14, .int 4, .ref a_7]) ⟨hx, hb, hml, hown, hts⟩ (c_X2_init l D Y H.size o_14) (cwI 0 hts gX0_init_X2_init rfl rfl rfl (hts (.initialized RX2) (by decide +kernel)) (hts (.methodLink RX0 21 yX2_init) (by decide +kernel)) (hts (.instanceMethod yX2_init) (by decide +kernel)) rfl (by decide +kernel) ⟨Nat.le_of_ble_eq_true rfl, Nat.le_of_ble_eq_true rfl⟩) (pst_S hK hP hD [46] rfl (by decide)) rfl rfl hl.1 rfl (lv_room (Nat.le_of_ble_eq_true rfl)) dX0_init_35 ⟨Nat.le_of_ble_eq_true rfl, Nat.le_of_ble_eq_true rfl⟩) hP hD hS hA [46] [0, 1, 2, 3, 4, 5, 6, 7, 8, 9, 10, 11, 12, 13, 14, 15, 16, 17, 18, 19, 20, 21, 22, 23, 24, 25, 26, 27, 28, 29, 30, 31, 32, 33, 34, 35, 36, 37, 38, 39, 40, 41, 42, 43, 44, 45] rfl rfl (by decide) (by decide) (fun w9 H locs hw9 hP hD hS => ?_)
            obtain ⟨q_15, rfl⟩ := hw9
            have hP : va_P D vwCl ([(h, .inr (0, [.ref a_7, .int 0]))] ++ (wA Y a_7 6 (va_up (va_up (va_up (va_up (fun _ => none) (0 : Int32).toNatClampNeg (some o_2)) (1 : Int32).toNatClampNeg (some o_5)) (2 : Int32).toNatClampNeg (some o_8)) (3 : Int32).toNatClampNeg (some o_11)) ++ (wR Y o_2 q_3 S0_X2 ++ (wR Y o_5 q_6 S0_X2 ++ (wR Y o_8 q_9 S0_X2 ++ (wR Y o_11 q_12 S0_X2 ++ wR Y o_14 q_15 S0_X2)))))) H := hP
            have hD : va_D A ([(h, .inr (0, [.ref a_7, .int 0]))] ++ (wA Y a_7 6 (va_up (va_up (va_up (va_up (fun _ => none) (0 : Int32).toNatClampNeg (some o_2)) (1 : Int32).toNatClampNeg (some o_5)) (2 : Int32).toNatClampNeg (some o_8)) (3 : Int32).toNatClampNeg (some o_11)) ++ (wR Y o_2 q_3 S0_X2 ++ (wR Y o_5 q_6 S0_X2 ++ (wR Y o_8 q_9 S0_X2 ++ (wR Y o_11 q_12 S0_X2 ++ wR Y o_14 q_15 S0_X2)))))) := hD
            refine W.widen (k := 56) (n := 1571) (Nat.le_of_ble_eq_true rfl) (Nat.le_of_ble_eq_true rfl) ?_
            refine va_astq (D := D) hx hb hK.1 hP hD hS 1 2 46 2 rfl rfl rfl rfl (by unfold vp_in; decide) dX0_init_38 (fun H locs hP hD hS => ?_)
            have hP : va_P D vwCl ([(h, .inr (0, [.ref a_7, .int 0]))] ++ (wA Y a_7 6 (va_up (va_up (va_up (va_up (va_up (fun _ => none) (0 : Int32).toNatClampNeg (some o_2)) (1 : Int32).toNatClampNeg (some o_5)) (2 : Int32).toNatClampNeg (some o_8)) (3 : Int32).toNatClampNeg (some o_11)) (4 : Int32).toNatClampNeg (some o_14)) ++ (wR Y o_2 q_3 S0_X2 ++ (wR Y o_5 q_6 S0_X2 ++ (wR Y o_8 q_9 S0_X2 ++ (wR Y o_11 q_12 S0_X2 ++ wR Y o_14 q_15 S0_X2)))))) H := hP
            have hD : va_D A ([(h, .inr (0, [.ref a_7, .int 0]))] ++ (wA Y a_7 6 (va_up (va_up (va_up (va_up (va_up (fun _ => none) (0 : Int32).toNatClampNeg (some o_2)) (1 : Int32).toNatClampNeg (some o_5)) (2 : Int32).toNatClampNeg (some o_8)) (3 : Int32).toNatClampNeg (some o_11)) (4 : Int32).toNatClampNeg (some o_14)) ++ (wR Y o_2 q_3 S0_X2 ++ (wR Y o_5 q_6 S0_X2 ++ (wR Y o_8 q_9 S0_X2 ++ (wR Y o_11 q_12 S0_X2 ++ wR Y o_14 q_15 S0_X2)))))) := hD
            refine lv_iinc (v := 5) (lv' := [(1, .int 5), (0, .ref h)]) hx hb dX0_init_39 hl (k := 0) rfl rfl (by decide) rfl (fun ls hl => ?_)
            refine lv_goto (tgt := 20) hx hb dX0_init_42 (by decide) ?_
            refine lv_iload_n hx hb dX0_init_20 rfl (lv_at hl 0 rfl) ?_
            refine lv_bipush (v := 6) hx hb dX0_init_21 (by decide) ?_
            refine lv_icmp_ge (tgt := 45) hx hb dX0_init_23 (by decide) (fun c_16 => ?_) (fun c_16 => ?_)
            · exact absurd c_16 (by decide)
            · refine lv_aload_n hx hb dX0_init_26 rfl (lv_at hl 1 rfl) ?_
              refine va_get (D := D) (ci := 0) (v := .ref a_7) (C := RX0) (T := TX0) (N := 2) hx hb hts in_X0_init_RX0 hown hK.1 hP 0 rfl rfl 0 (by decide) (hts (.fieldLink RX0 11 "NineDancers$History" "states" "[LNineDancers$Ring;") (by decide +kernel)) (fun _ h9 => h9) rfl dX0_init_27 ?_
              refine lv_iload_n hx hb dX0_init_30 rfl (lv_at hl 0 rfl) ?_
              refine va_new (D := D) (ci := 2) (fs := [.null, .int 0, .null, .null, .null, .null, .null, .null, .null, .null, .null, .int 0, .int 0]) (C := RX2) (T := TX2) (N := 13) hx hb hts in_X0_init_RX2 tyX2 tyX2_ok hown (hts (.classLink RX0 9 RX2) (by decide +kernel)) (hts (.instantiable RX2 13) (by decide +kernel)) (hts (.initialized RX2) (by decide +kernel)) hK.1 hP hD hS hA rfl df_X2 (Nat.le_of_ble_eq_true rfl) (Nat.le_of_ble_eq_true rfl) dX0_init_31 (fun o_17 H hP hD hS => ?_)
              have hP : va_P D vwCl ([(h, .inr (0, [.ref a_7, .int 0]))] ++ (wA Y a_7 6 (va_up (va_up (va_up (va_up (va_up (fun _ => none) (0 : Int32).toNatClampNeg (some o_2)) (1 : Int32).toNatClampNeg (some o_5)) (2 : Int32).toNatClampNeg (some o_8)) (3 : Int32).toNatClampNeg (some o_11)) (4 : Int32).toNatClampNeg (some o_14)) ++ (wR Y o_2 q_3 S0_X2 ++ (wR Y o_5 q_6 S0_X2 ++ (wR Y o_8 q_9 S0_X2 ++ (wR Y o_11 q_12 S0_X2 ++ (wR Y o_14 q_15 S0_X2 ++ [(o_17, .inr (2, [.null, .int 0, .null, .null, .null, .null, .null, .null, .null, .null, .null, .int 0, .int 0]))]))))))) H := hP
              have hD : va_D A ([(h, .inr (0, [.ref a_7, .int 0]))] ++ (wA Y a_7 6 (va_up (va_up (va_up (va_up (va_up (fun _ => none) (0 : Int32).toNatClampNeg (some o_2)) (1 : Int32).toNatClampNeg (some o_5)) (2 : Int32).toNatClampNeg (some o_8)) (3 : Int32).toNatClampNeg (some o_11)) (4 : Int32).toNatClampNeg (some o_14)) ++ (wR Y o_2 q_3 S0_X2 ++ (wR Y o_5 q_6 S0_X2 ++ (wR Y o_8 q_9 S0_X2 ++ (wR Y o_11 q_12 S0_X2 ++ (wR Y o_14 q_15 S0_X2 ++ [(o_17, .inr (2, [.null, .int 0, .null, .null, .null, .null, .null, .null, .null, .null, .null, .int 0, .int 0]))]))))))) := hD
              refine W.widen (k := 57) (n := 1584) (Nat.le_of_ble_eq_true rfl) (Nat.le_of_ble_eq_true rfl) ?_
              refine lv_dup hx hb dX0_init_34 rfl ?_
              refine ck_v (wr := [(h, .inr (0, [.ref a_7, .int 0]))] ++ (wA Y a_7 6 (va_up (va_up (va_up (va_up (va_up (fun _ => none) (0 : Int32).toNatClampNeg (some o_2)) (1 : Int32).toNatClampNeg (some o_5)) (2 : Int32).toNatClampNeg (some o_8)) (3 : Int32).toNatClampNeg (some o_11)) (4 : Int32).toNatClampNeg (some o_14)) ++ (wR Y o_2 q_3 S0_X2 ++ (wR Y o_5 q_6 S0_X2 ++ (wR Y o_8 q_9 S0_X2 ++ (wR Y o_11 q_12 S0_X2 ++ wR Y o_14 q_15 S0_X2)))))) (va_runI (As := []) (rest := [.ref o_17, .int 5, .ref a_7]) ⟨hx, hb, hml, hown, hts⟩ (c_X2_init l D Y H.size o_17) (cwI 0 hts gX0_init_X2_init rfl rfl rfl (hts (.initialized RX2) (by decide +kernel)) (hts (.methodLink RX0 21 yX2_init) (by decide +kernel)) (hts (.instanceMethod yX2_init) (by decide +kernel)) rfl (by decide +kernel) ⟨Nat.le_of_ble_eq_true rfl, Nat.le_of_ble_eq_true rfl⟩) (pst_S hK hP hD [57] rfl (by decide)) rfl rfl hl.1 rfl (lv_room (Nat.le_of_ble_eq_true rfl)) dX0_init_35 ⟨Nat.le_of_ble_eq_true rfl, Nat.le_of_ble_eq_true rfl⟩) hP hD hS hA [57] [0, 1, 2, 3, 4, 5, 6, 7, 8, 9, 10, 11, 12, 13, 14, 15, 16, 17, 18, 19, 20, 21, 22, 23, 24, 25, 26, 27, 28, 29, 30, 31, 32, 33, 34, 35, 36, 37, 38, 39, 40, 41, 42, 43, 44, 45, 46, 47, 48, 49, 50, 51, 52, 53, 54, 55, 56] rfl rfl (by decide) (by decide) (fun w9 H locs hw9 hP hD hS => ?_)
              obtain ⟨q_18, rfl⟩ := hw9
              have hP : va_P D vwCl ([(h, .inr (0, [.ref a_7, .int 0]))] ++ (wA Y a_7 6 (va_up (va_up (va_up (va_up (va_up (fun _ => none) (0 : Int32).toNatClampNeg (some o_2)) (1 : Int32).toNatClampNeg (some o_5)) (2 : Int32).toNatClampNeg (some o_8)) (3 : Int32).toNatClampNeg (some o_11)) (4 : Int32).toNatClampNeg (some o_14)) ++ (wR Y o_2 q_3 S0_X2 ++ (wR Y o_5 q_6 S0_X2 ++ (wR Y o_8 q_9 S0_X2 ++ (wR Y o_11 q_12 S0_X2 ++ (wR Y o_14 q_15 S0_X2 ++ wR Y o_17 q_18 S0_X2))))))) H := hP
              have hD : va_D A ([(h, .inr (0, [.ref a_7, .int 0]))] ++ (wA Y a_7 6 (va_up (va_up (va_up (va_up (va_up (fun _ => none) (0 : Int32).toNatClampNeg (some o_2)) (1 : Int32).toNatClampNeg (some o_5)) (2 : Int32).toNatClampNeg (some o_8)) (3 : Int32).toNatClampNeg (some o_11)) (4 : Int32).toNatClampNeg (some o_14)) ++ (wR Y o_2 q_3 S0_X2 ++ (wR Y o_5 q_6 S0_X2 ++ (wR Y o_8 q_9 S0_X2 ++ (wR Y o_11 q_12 S0_X2 ++ (wR Y o_14 q_15 S0_X2 ++ wR Y o_17 q_18 S0_X2))))))) := hD
              refine W.widen (k := 67) (n := 1884) (Nat.le_of_ble_eq_true rfl) (Nat.le_of_ble_eq_true rfl) ?_
              refine va_astq (D := D) hx hb hK.1 hP hD hS 1 2 57 2 rfl rfl rfl rfl (by unfold vp_in; decide) dX0_init_38 (fun H locs hP hD hS => ?_)
              have hP : va_P D vwCl ([(h, .inr (0, [.ref a_7, .int 0]))] ++ (wA Y a_7 6 (va_up (va_up (va_up (va_up (va_up (va_up (fun _ => none) (0 : Int32).toNatClampNeg (some o_2)) (1 : Int32).toNatClampNeg (some o_5)) (2 : Int32).toNatClampNeg (some o_8)) (3 : Int32).toNatClampNeg (some o_11)) (4 : Int32).toNatClampNeg (some o_14)) (5 : Int32).toNatClampNeg (some o_17)) ++ (wR Y o_2 q_3 S0_X2 ++ (wR Y o_5 q_6 S0_X2 ++ (wR Y o_8 q_9 S0_X2 ++ (wR Y o_11 q_12 S0_X2 ++ (wR Y o_14 q_15 S0_X2 ++ wR Y o_17 q_18 S0_X2))))))) H := hP
              have hD : va_D A ([(h, .inr (0, [.ref a_7, .int 0]))] ++ (wA Y a_7 6 (va_up (va_up (va_up (va_up (va_up (va_up (fun _ => none) (0 : Int32).toNatClampNeg (some o_2)) (1 : Int32).toNatClampNeg (some o_5)) (2 : Int32).toNatClampNeg (some o_8)) (3 : Int32).toNatClampNeg (some o_11)) (4 : Int32).toNatClampNeg (some o_14)) (5 : Int32).toNatClampNeg (some o_17)) ++ (wR Y o_2 q_3 S0_X2 ++ (wR Y o_5 q_6 S0_X2 ++ (wR Y o_8 q_9 S0_X2 ++ (wR Y o_11 q_12 S0_X2 ++ (wR Y o_14 q_15 S0_X2 ++ wR Y o_17 q_18 S0_X2))))))) := hD
              refine lv_iinc (v := 6) (lv' := [(1, .int 6), (0, .ref h)]) hx hb dX0_init_39 hl (k := 0) rfl rfl (by decide) rfl (fun ls hl => ?_)
              refine lv_goto (tgt := 20) hx hb dX0_init_42 (by decide) ?_
              refine lv_iload_n hx hb dX0_init_20 rfl (lv_at hl 0 rfl) ?_
              refine lv_bipush (v := 6) hx hb dX0_init_21 (by decide) ?_
              refine lv_icmp_ge (tgt := 45) hx hb dX0_init_23 (by decide) (fun c_19 => ?_) (fun c_19 => ?_)
              · have hP9 := hP.sub (ws' := wH h a_7 0 ++ (wA Y a_7 6 (va_up (va_up (va_up (va_up (va_up (va_up (fun _ => none) (0 : Int32).toNatClampNeg (some o_2)) (1 : Int32).toNatClampNeg (some o_5)) (2 : Int32).toNatClampNeg (some o_8)) (3 : Int32).toNatClampNeg (some o_11)) (4 : Int32).toNatClampNeg (some o_14)) (5 : Int32).toNatClampNeg (some o_17)) ++ wR Y o_2 q_3 S0_X2)) [0, 1, 2, 3, 4, 5, 6, 7, 8, 9, 10, 11, 12] rfl
                have hD9 := hD.sub (ws' := wH h a_7 0 ++ (wA Y a_7 6 (va_up (va_up (va_up (va_up (va_up (va_up (fun _ => none) (0 : Int32).toNatClampNeg (some o_2)) (1 : Int32).toNatClampNeg (some o_5)) (2 : Int32).toNatClampNeg (some o_8)) (3 : Int32).toNatClampNeg (some o_11)) (4 : Int32).toNatClampNeg (some o_14)) (5 : Int32).toNatClampNeg (some o_17)) ++ wR Y o_2 q_3 S0_X2)) [0, 1, 2, 3, 4, 5, 6, 7, 8, 9, 10, 11, 12] (by decide) rfl
                exact ret_v hx hb hr hlk hP9 hD9 hS dX0_init_45 ⟨Nat.le_of_ble_eq_true rfl, Nat.le_of_ble_eq_true rfl⟩ ⟨a_7, _, o_2, q_3, rfl, rfl⟩
              · exact absurd c_19 (by decide)
set_option maxRecDepth 100000 in
theorem in_X3_init_RX0 : ∀ w ∈ u_ws RX0 TX0 2, w ∈ wsX3_init := by decide +kernel
set_option maxRecDepth 100000 in
theorem in_X3_init_RX1 : ∀ w ∈ u_ws RX1 TX1 2, w ∈ wsX3_init := by decide +kernel
set_option maxRecDepth 100000 in
theorem in_X3_init_RX2 : ∀ w ∈ u_ws RX2 TX2 13, w ∈ wsX3_init := by decide +kernel
set_option maxRecDepth 100000 in
theorem in_X3_init_RX3 : ∀ w ∈ u_ws RX3 TX3 5, w ∈ wsX3_init := by decide +kernel
set_option maxHeartbeats 4000000 in
set_option maxRecDepth 100000 in
theorem c_X3_init (l : Launch) (D : va_G) (Y : YY) (sz : Nat) (x : Nat) : Met l yX3_init wsX3_init ({ frames := 3, cells := 93, slots := 2576, locals := 64 } : Room) (va_Pc [.ref x] (Pst D Y sz ([(x, .inr (3, [.null, .null, .null, .null, .null]))]))) ((fun A : Nat → Prop => Qsv D (fun w9 => ∃ (r : Nat) (q : Nat → Nat) (tr : Nat) (q1 : Nat → Nat) (pp tx h sa : Nat) (f : Nat → Option Nat) (r0 : Nat) (q0 : Nat → Nat) (sl : Nat), f 0 = some r0 ∧ w9 = wX x r tr pp h sl ++ (wR Y r q S0_X2 ++ (wR Y tr q1 S0_X2 ++ (wP Y pp tx S0_X1 ++ (wH h sa 0 ++ (wA Y sa 6 f ++ (wR Y r0 q0 S0_X2 ++ wA Y sl 2 (fun _ => none)))))))) A) (va_A ([(x, .inr (3, [.null, .null, .null, .null, .null]))]) sz)) 93 2576 (va_A ([(x, .inr (3, [.null, .null, .null, .null, .null]))]) sz) := by
  refine ct_in (cc := cX3_init) (maxL := 1) (ret := none) (Qc := fun A : Nat → Prop => Qsv D (fun w9 => ∃ (r : Nat) (q : Nat → Nat) (tr : Nat) (q1 : Nat → Nat) (pp tx h sa : Nat) (f : Nat → Option Nat) (r0 : Nat) (q0 : Nat → Nat) (sl : Nat), f 0 = some r0 ∧ w9 = wX x r tr pp h sl ++ (wR Y r q S0_X2 ++ (wR Y tr q1 S0_X2 ++ (wP Y pp tx S0_X1 ++ (wH h sa 0 ++ (wA Y sa 6 f ++ (wR Y r0 q0 S0_X2 ++ wA Y sl 2 (fun _ => none)))))))) A) (by decide +kernel) rfl (Nat.le_of_ble_eq_true rfl) ?_
  intro p e s m below meth c A ls hx hb hr hts hown hml hlk hin hsz hA hP hD hK hS hl
  have hown : s.vm.findClass RX3 = some m.cls := hown
  have hl : lv_has ls 1 [(0, .ref x)] := hl
  show W p l e ({ frames := 3, cells := 93, slots := 2576, locals := 64 } : Room) s m ([.ref x] : List Value).toArray below meth c s.heap [] 0 0 (MQ below (Qsv D (fun w9 => ∃ (r : Nat) (q : Nat → Nat) (tr : Nat) (q1 : Nat → Nat) (pp tx h sa : Nat) (f : Nat → Option Nat) (r0 : Nat) (q0 : Nat → Nat) (sl : Nat), f 0 = some r0 ∧ w9 = wX x r tr pp h sl ++ (wR Y r q S0_X2 ++ (wR Y tr q1 S0_X2 ++ (wP Y pp tx S0_X1 ++ (wH h sa 0 ++ (wA Y sa 6 f ++ (wR Y r0 q0 S0_X2 ++ wA Y sl 2 (fun _ => none)))))))) A) ([.ref x] : List Value).toArray s 93 2576 A) (F0 m 0 ls [])
  refine lv_aload_n hx hb dX3_init_0 rfl (lv_at hl 0 rfl) ?_
  refine W.objInit hx hb hown (hts (.methodLink RX3 3 objectInit) (by decide +kernel)) (hts (.instanceMethod objectInit) (by decide +kernel)) (hts _ (List.mem_of_getElem? (i := 3) rfl)) rfl (by rw [hml]; exact hl.1) rfl dX3_init_1 (Nat.le_of_ble_eq_true rfl) (Nat.le_of_ble_eq_true rfl) ?_
  refine W.eq (g2 := F0 m 4 ls []) rfl ?_
  refine lv_aload_n hx hb dX3_init_4 rfl (lv_at hl 0 rfl) ?_
  refine va_new (D := D) (ci := 2) (fs := [.null, .int 0, .null, .null, .null, .null, .null, .null, .null, .null, .null, .int 0, .int 0]) (C := RX2) (T := TX2) (N := 13) hx hb hts in_X3_init_RX2 tyX2 tyX2_ok hown (hts (.classLink RX3 9 RX2) (by decide +kernel)) (hts (.instantiable RX2 13) (by decide +kernel)) (hts (.initialized RX2) (by decide +kernel)) hK.1 hP hD hS hA rfl df_X2 (Nat.le_of_ble_eq_true rfl) (Nat.le_of_ble_eq_true rfl) dX3_init_5 (fun o_5 H hP hD hS => ?_)
  have hP : va_P D vwCl ([(x, .inr (3, [.null, .null, .null, .null, .null]))] ++ [(o_5, .inr (2, [.null, .int 0, .null, .null, .null, .null, .null, .null, .null, .null, .null, .int 0, .int 0]))]) H := hP
  have hD : va_D A ([(x, .inr (3, [.null, .null, .null, .null, .null]))] ++ [(o_5, .inr (2, [.null, .int 0, .null, .null, .null, .null, .null, .null, .null, .null, .null, .int 0, .int 0]))]) := hD
  refine W.widen (k := 1) (n := 13) (Nat.le_of_ble_eq_true rfl) (Nat.le_of_ble_eq_true rfl) ?_
  refine lv_dup hx hb dX3_init_8 rfl ?_
  refine ck_v (wr := [(x, .inr (3, [.null, .null, .null, .null, .null]))]) (va_runI (As := []) (rest := [.ref o_5, .ref x]) ⟨hx, hb, hml, hown, hts⟩ (c_X2_init l D Y H.size o_5) (cwI 0 hts gX3_init_X2_init rfl rfl rfl (hts (.initialized RX2) (by decide +kernel)) (hts (.methodLink RX3 11 yX2_init) (by decide +kernel)) (hts (.instanceMethod yX2_init) (by decide +kernel)) rfl (by decide +kernel) ⟨Nat.le_of_ble_eq_true rfl, Nat.le_of_ble_eq_true rfl⟩) (pst_S hK hP hD [1] rfl (by decide)) rfl rfl hl.1 rfl (lv_room (Nat.le_of_ble_eq_true rfl)) dX3_init_9 ⟨Nat.le_of_ble_eq_true rfl, Nat.le_of_ble_eq_true rfl⟩) hP hD hS hA [1] [0] rfl rfl (by decide) (by decide) (fun w9 H locs hw9 hP hD hS => ?_)
  obtain ⟨q_9, rfl⟩ := hw9
  have hP : va_P D vwCl ([(x, .inr (3, [.null, .null, .null, .null, .null]))] ++ wR Y o_5 q_9 S0_X2) H := hP
  have hD : va_D A ([(x, .inr (3, [.null, .null, .null, .null, .null]))] ++ wR Y o_5 q_9 S0_X2) := hD
  refine W.widen (k := 11) (n := 313) (Nat.le_of_ble_eq_true rfl) (Nat.le_of_ble_eq_true rfl) ?_
  refine va_putF (D := D) (ci := 3) (v := .ref o_5) (ty := .object "NineDancers$Ring") (C := RX3) (T := TX3) (N := 5) hx hb hts in_X3_init_RX3 tyX3 tyX3_ok nmX3 hown hK.1 hP hD hS 0 rfl rfl 0 (by decide) (hts (.fieldLink RX3 12 "NineDancers" "ring" "LNineDancers$Ring;") (by decide +kernel)) (fun _ h9 => h9) rfl hin rfl (by decide +kernel) rfl rfl (Nat.le_of_ble_eq_true rfl) dX3_init_12 (fun H locs hP hD hS => ?_)
  have hP : va_P D vwCl ([(x, .inr (3, [.ref o_5, .null, .null, .null, .null]))] ++ wR Y o_5 q_9 S0_X2) H := hP
  have hD : va_D A ([(x, .inr (3, [.ref o_5, .null, .null, .null, .null]))] ++ wR Y o_5 q_9 S0_X2) := hD
  refine lv_aload_n hx hb dX3_init_15 rfl (lv_at hl 0 rfl) ?_
  refine va_new (D := D) (ci := 2) (fs := [.null, .int 0, .null, .null, .null, .null, .null, .null, .null, .null, .null, .int 0, .int 0]) (C := RX2) (T := TX2) (N := 13) hx hb hts in_X3_init_RX2 tyX2 tyX2_ok hown (hts (.classLink RX3 9 RX2) (by decide +kernel)) (hts (.instantiable RX2 13) (by decide +kernel)) (hts (.initialized RX2) (by decide +kernel)) hK.1 hP hD hS hA rfl df_X2 (Nat.le_of_ble_eq_true rfl) (Nat.le_of_ble_eq_true rfl) dX3_init_16 (fun o_16 H hP hD hS => ?_)
  have hP : va_P D vwCl ([(x, .inr (3, [.ref o_5, .null, .null, .null, .null]))] ++ (wR Y o_5 q_9 S0_X2 ++ [(o_16, .inr (2, [.null, .int 0, .null, .null, .null, .null, .null, .null, .null, .null, .null, .int 0, .int 0]))])) H := hP
  have hD : va_D A ([(x, .inr (3, [.ref o_5, .null, .null, .null, .null]))] ++ (wR Y o_5 q_9 S0_X2 ++ [(o_16, .inr (2, [.null, .int 0, .null, .null, .null, .null, .null, .null, .null, .null, .null, .int 0, .int 0]))])) := hD
  refine W.widen (k := 12) (n := 326) (Nat.le_of_ble_eq_true rfl) (Nat.le_of_ble_eq_true rfl) ?_
  refine lv_dup hx hb dX3_init_19 rfl ?_
  refine ck_v (wr := [(x, .inr (3, [.ref o_5, .null, .null, .null, .null]))] ++ wR Y o_5 q_9 S0_X2) (va_runI (As := []) (rest := [.ref o_16, .ref x]) ⟨hx, hb, hml, hown, hts⟩ (c_X2_init l D Y H.size o_16) (cwI 0 hts gX3_init_X2_init rfl rfl rfl (hts (.initialized RX2) (by decide +kernel)) (hts (.methodLink RX3 11 yX2_init) (by decide +kernel)) (hts (.instanceMethod yX2_init) (by decide +kernel)) rfl (by decide +kernel) ⟨Nat.le_of_ble_eq_true rfl, Nat.le_of_ble_eq_true rfl⟩) (pst_S hK hP hD [12] rfl (by decide)) rfl rfl hl.1 rfl (lv_room (Nat.le_of_ble_eq_true rfl)) dX3_init_20 ⟨Nat.le_of_ble_eq_true rfl, Nat.le_of_ble_eq_true rfl⟩) hP hD hS hA [12] [0, 1, 2, 3, 4, 5, 6, 7, 8, 9, 10, 11] rfl rfl (by decide) (by decide) (fun w9 H locs hw9 hP hD hS => ?_)
  obtain ⟨q_20, rfl⟩ := hw9
  have hP : va_P D vwCl ([(x, .inr (3, [.ref o_5, .null, .null, .null, .null]))] ++ (wR Y o_5 q_9 S0_X2 ++ wR Y o_16 q_20 S0_X2)) H := hP
  have hD : va_D A ([(x, .inr (3, [.ref o_5, .null, .null, .null, .null]))] ++ (wR Y o_5 q_9 S0_X2 ++ wR Y o_16 q_20 S0_X2)) := hD
  refine W.widen (k := 22) (n := 626) (Nat.le_of_ble_eq_true rfl) (Nat.le_of_ble_eq_true rfl) ?_
  refine va_putF (D := D) (ci := 3) (v := .ref o_16) (ty := .object "NineDancers$Ring") (C := RX3) (T := TX3) (N := 5) hx hb hts in_X3_init_RX3 tyX3 tyX3_ok nmX3 hown hK.1 hP hD hS 0 rfl rfl 1 (by decide) (hts (.fieldLink RX3 16 "NineDancers" "trial" "LNineDancers$Ring;") (by decide +kernel)) (fun _ h9 => h9) rfl hin rfl (by decide +kernel) rfl rfl (Nat.le_of_ble_eq_true rfl) dX3_init_23 (fun H locs hP hD hS => ?_)
  have hP : va_P D vwCl ([(x, .inr (3, [.ref o_5, .ref o_16, .null, .null, .null]))] ++ (wR Y o_5 q_9 S0_X2 ++ wR Y o_16 q_20 S0_X2)) H := hP
  have hD : va_D A ([(x, .inr (3, [.ref o_5, .ref o_16, .null, .null, .null]))] ++ (wR Y o_5 q_9 S0_X2 ++ wR Y o_16 q_20 S0_X2)) := hD
  refine lv_aload_n hx hb dX3_init_26 rfl (lv_at hl 0 rfl) ?_
  refine va_new (D := D) (ci := 1) (fs := [.null, .int 0]) (C := RX1) (T := TX1) (N := 2) hx hb hts in_X3_init_RX1 tyX1 tyX1_ok hown (hts (.classLink RX3 19 RX1) (by decide +kernel)) (hts (.instantiable RX1 2) (by decide +kernel)) (hts (.initialized RX1) (by decide +kernel)) hK.1 hP hD hS hA rfl df_X1 (Nat.le_of_ble_eq_true rfl) (Nat.le_of_ble_eq_true rfl) dX3_init_27 (fun o_27 H hP hD hS => ?_)
  have hP : va_P D vwCl ([(x, .inr (3, [.ref o_5, .ref o_16, .null, .null, .null]))] ++ (wR Y o_5 q_9 S0_X2 ++ (wR Y o_16 q_20 S0_X2 ++ [(o_27, .inr (1, [.null, .int 0]))]))) H := hP
  have hD : va_D A ([(x, .inr (3, [.ref o_5, .ref o_16, .null, .null, .null]))] ++ (wR Y o_5 q_9 S0_X2 ++ (wR Y o_16 q_20 S0_X2 ++ [(o_27, .inr (1, [.null, .int 0]))]))) := hD
  refine W.widen (k := 23) (n := 628) (Nat.le_of_ble_eq_true rfl) (Nat.le_of_ble_eq_true rfl) ?_
  refine lv_dup hx hb dX3_init_30 rfl ?_
  refine ck_v (wr := [(x, .inr (3, [.ref o_5, .ref o_16, .null, .null, .null]))] ++ (wR Y o_5 q_9 S0_X2 ++ wR Y o_16 q_20 S0_X2)) (va_runIN (As := []) (rest := [.ref o_27, .ref x]) ⟨hx, hb, hml, hown, hts⟩ (c_X1_init l D Y H.size o_27) ⟨va_cnB 0 hts gX3_init_X1_init_n21 rfl rfl rfl hK.2.1 (hts (.initialized RX1) (by decide +kernel)) (by decide +kernel) ⟨Nat.le_of_ble_eq_true rfl, Nat.le_of_ble_eq_true rfl⟩, rfl, hts (.instanceMethod yX1_init) (by decide +kernel)⟩ (pst_S hK hP hD [23] rfl (by decide)) rfl rfl hl.1 rfl (lv_room (Nat.le_of_ble_eq_true rfl)) dX3_init_31 ⟨Nat.le_of_ble_eq_true rfl, Nat.le_of_ble_eq_true rfl⟩) hP hD hS hA [23] [0, 1, 2, 3, 4, 5, 6, 7, 8, 9, 10, 11, 12, 13, 14, 15, 16, 17, 18, 19, 20, 21, 22] rfl rfl (by decide) (by decide) (fun w9 H locs hw9 hP hD hS => ?_)
  obtain ⟨tx_31, rfl⟩ := hw9
  have hP : va_P D vwCl ([(x, .inr (3, [.ref o_5, .ref o_16, .null, .null, .null]))] ++ (wR Y o_5 q_9 S0_X2 ++ (wR Y o_16 q_20 S0_X2 ++ wP Y o_27 tx_31 S0_X1))) H := hP
  have hD : va_D A ([(x, .inr (3, [.ref o_5, .ref o_16, .null, .null, .null]))] ++ (wR Y o_5 q_9 S0_X2 ++ (wR Y o_16 q_20 S0_X2 ++ wP Y o_27 tx_31 S0_X1))) := hD
  refine W.widen (k := 24) (n := 688) (Nat.le_of_ble_eq_true rfl) (Nat.le_of_ble_eq_true rfl) ?_
  refine va_putF (D := D) (ci := 3) (v := .ref o_27) (ty := .object "NineDancers$Pad") (C := RX3) (T := TX3) (N := 5) hx hb hts in_X3_init_RX3 tyX3 tyX3_ok nmX3 hown hK.1 hP hD hS 0 rfl rfl 2 (by decide) (hts (.fieldLink RX3 22 "NineDancers" "pad" "LNineDancers$Pad;") (by decide +kernel)) (fun _ h9 => h9) rfl hin rfl (by decide +kernel) rfl rfl (Nat.le_of_ble_eq_true rfl) dX3_init_34 (fun H locs hP hD hS => ?_)
  have hP : va_P D vwCl ([(x, .inr (3, [.ref o_5, .ref o_16, .ref o_27, .null, .null]))] ++ (wR Y o_5 q_9 S0_X2 ++ (wR Y o_16 q_20 S0_X2 ++ wP Y o_27 tx_31 S0_X1))) H := hP
  have hD : va_D A ([(x, .inr (3, [.ref o_5, .ref o_16, .ref o_27, .null, .null]))] ++ (wR Y o_5 q_9 S0_X2 ++ (wR Y o_16 q_20 S0_X2 ++ wP Y o_27 tx_31 S0_X1))) := hD
  refine lv_aload_n hx hb dX3_init_37 rfl (lv_at hl 0 rfl) ?_
  refine va_new (D := D) (ci := 0) (fs := [.null, .int 0]) (C := RX0) (T := TX0) (N := 2) hx hb hts in_X3_init_RX0 tyX0 tyX0_ok hown (hts (.classLink RX3 26 RX0) (by decide +kernel)) (hts (.instantiable RX0 2) (by decide +kernel)) (hts (.initialized RX0) (by decide +kernel)) hK.1 hP hD hS hA rfl df_X0 (Nat.le_of_ble_eq_true rfl) (Nat.le_of_ble_eq_true rfl) dX3_init_38 (fun o_38 H hP hD hS => ?_)
  have hP : va_P D vwCl ([(x, .inr (3, [.ref o_5, .ref o_16, .ref o_27, .null, .null]))] ++ (wR Y o_5 q_9 S0_X2 ++ (wR Y o_16 q_20 S0_X2 ++ (wP Y o_27 tx_31 S0_X1 ++ [(o_38, .inr (0, [.null, .int 0]))])))) H := hP
  have hD : va_D A ([(x, .inr (3, [.ref o_5, .ref o_16, .ref o_27, .null, .null]))] ++ (wR Y o_5 q_9 S0_X2 ++ (wR Y o_16 q_20 S0_X2 ++ (wP Y o_27 tx_31 S0_X1 ++ [(o_38, .inr (0, [.null, .int 0]))])))) := hD
  refine W.widen (k := 25) (n := 690) (Nat.le_of_ble_eq_true rfl) (Nat.le_of_ble_eq_true rfl) ?_
  refine lv_dup hx hb dX3_init_41 rfl ?_
  refine ck_v (wr := [(x, .inr (3, [.ref o_5, .ref o_16, .ref o_27, .null, .null]))] ++ (wR Y o_5 q_9 S0_X2 ++ (wR Y o_16 q_20 S0_X2 ++ wP Y o_27 tx_31 S0_X1))) (va_runI (As := []) (rest := [.ref o_38, .ref x]) ⟨hx, hb, hml, hown, hts⟩ (c_X0_init l D Y H.size o_38) (cwI 0 hts gX3_init_X0_init rfl rfl rfl (hts (.initialized RX0) (by decide +kernel)) (hts (.methodLink RX3 28 yX0_init) (by decide +kernel)) (hts (.instanceMethod yX0_init) (by decide +kernel)) rfl (by decide +kernel) ⟨Nat.le_of_ble_eq_true rfl, Nat.le_of_ble_eq_true rfl⟩) (pst_S hK hP hD [25] rfl (by decide)) rfl rfl hl.1 rfl (lv_room (Nat.le_of_ble_eq_true rfl)) dX3_init_42 ⟨Nat.le_of_ble_eq_true rfl, Nat.le_of_ble_eq_true rfl⟩) hP hD hS hA [25] [0, 1, 2, 3, 4, 5, 6, 7, 8, 9, 10, 11, 12, 13, 14, 15, 16, 17, 18, 19, 20, 21, 22, 23, 24] rfl rfl (by decide) (by decide) (fun w9 H locs hw9 hP hD hS => ?_)
  obtain ⟨sa_42, f_42, r0_42, q0_42, hf_42, rfl⟩ := hw9
  have hP : va_P D vwCl ([(x, .inr (3, [.ref o_5, .ref o_16, .ref o_27, .null, .null]))] ++ (wR Y o_5 q_9 S0_X2 ++ (wR Y o_16 q_20 S0_X2 ++ (wP Y o_27 tx_31 S0_X1 ++ (wH o_38 sa_42 0 ++ (wA Y sa_42 6 f_42 ++ wR Y r0_42 q0_42 S0_X2)))))) H := hP
  have hD : va_D A ([(x, .inr (3, [.ref o_5, .ref o_16, .ref o_27, .null, .null]))] ++ (wR Y o_5 q_9 S0_X2 ++ (wR Y o_16 q_20 S0_X2 ++ (wP Y o_27 tx_31 S0_X1 ++ (wH o_38 sa_42 0 ++ (wA Y sa_42 6 f_42 ++ wR Y r0_42 q0_42 S0_X2)))))) := hD
  refine W.widen (k := 92) (n := 2574) (Nat.le_of_ble_eq_true rfl) (Nat.le_of_ble_eq_true rfl) ?_
  refine va_putF (D := D) (ci := 3) (v := .ref o_38) (ty := .object "NineDancers$History") (C := RX3) (T := TX3) (N := 5) hx hb hts in_X3_init_RX3 tyX3 tyX3_ok nmX3 hown hK.1 hP hD hS 0 rfl rfl 3 (by decide) (hts (.fieldLink RX3 29 "NineDancers" "history" "LNineDancers$History;") (by decide +kernel)) (fun _ h9 => h9) rfl hin rfl (by decide +kernel) rfl rfl (Nat.le_of_ble_eq_true rfl) dX3_init_45 (fun H locs hP hD hS => ?_)
  have hP : va_P D vwCl ([(x, .inr (3, [.ref o_5, .ref o_16, .ref o_27, .ref o_38, .null]))] ++ (wR Y o_5 q_9 S0_X2 ++ (wR Y o_16 q_20 S0_X2 ++ (wP Y o_27 tx_31 S0_X1 ++ (wH o_38 sa_42 0 ++ (wA Y sa_42 6 f_42 ++ wR Y r0_42 q0_42 S0_X2)))))) H := hP
  have hD : va_D A ([(x, .inr (3, [.ref o_5, .ref o_16, .ref o_27, .ref o_38, .null]))] ++ (wR Y o_5 q_9 S0_X2 ++ (wR Y o_16 q_20 S0_X2 ++ (wP Y o_27 tx_31 S0_X1 ++ (wH o_38 sa_42 0 ++ (wA Y sa_42 6 f_42 ++ wR Y r0_42 q0_42 S0_X2)))))) := hD
  refine lv_aload_n hx hb dX3_init_48 rfl (lv_at hl 0 rfl) ?_
  refine lv_iconst (v := 2) hx hb dX3_init_49 (by decide) ?_
  refine my_newQ (D := D) (N := 2) hx hb hown (hts (.classLink RX3 9 RX2) (by decide +kernel)) hK hP hD hS hA rfl (by decide) (Nat.le_of_ble_eq_true rfl) (Nat.le_of_ble_eq_true rfl) dX3_init_50 (fun a_50 H hP hD hS => ?_)
  have hP : va_P D vwCl ([(x, .inr (3, [.ref o_5, .ref o_16, .ref o_27, .ref o_38, .null]))] ++ (wR Y o_5 q_9 S0_X2 ++ (wR Y o_16 q_20 S0_X2 ++ (wP Y o_27 tx_31 S0_X1 ++ (wH o_38 sa_42 0 ++ (wA Y sa_42 6 f_42 ++ (wR Y r0_42 q0_42 S0_X2 ++ wA Y a_50 2 (fun _ => none)))))))) H := hP
  have hD : va_D A ([(x, .inr (3, [.ref o_5, .ref o_16, .ref o_27, .ref o_38, .null]))] ++ (wR Y o_5 q_9 S0_X2 ++ (wR Y o_16 q_20 S0_X2 ++ (wP Y o_27 tx_31 S0_X1 ++ (wH o_38 sa_42 0 ++ (wA Y sa_42 6 f_42 ++ (wR Y r0_42 q0_42 S0_X2 ++ wA Y a_50 2 (fun _ => none)))))))) := hD
  refine W.widen (k := 93) (n := 2576) (Nat.le_of_ble_eq_true rfl) (Nat.le_of_ble_eq_true rfl) ?_
  refine va_putF (D := D) (ci := 3) (v := .ref a_50) (ty := .array (.object "NineDancers$Ring")) (C := RX3) (T := TX3) (N := 5) hx hb hts in_X3_init_RX3 tyX3 tyX3_ok nmX3 hown hK.1 hP hD hS 0 rfl rfl 4 (by decide) (hts (.fieldLink RX3 33 "NineDancers" "slots" "[LNineDancers$Ring;") (by decide +kernel)) (fun _ h9 => h9) rfl hin rfl (by decide +kernel) rfl rfl (Nat.le_of_ble_eq_true rfl) dX3_init_53 (fun H locs hP hD hS => ?_)
  have hP : va_P D vwCl ([(x, .inr (3, [.ref o_5, .ref o_16, .ref o_27, .ref o_38, .ref a_50]))] ++ (wR Y o_5 q_9 S0_X2 ++ (wR Y o_16 q_20 S0_X2 ++ (wP Y o_27 tx_31 S0_X1 ++ (wH o_38 sa_42 0 ++ (wA Y sa_42 6 f_42 ++ (wR Y r0_42 q0_42 S0_X2 ++ wA Y a_50 2 (fun _ => none)))))))) H := hP
  have hD : va_D A ([(x, .inr (3, [.ref o_5, .ref o_16, .ref o_27, .ref o_38, .ref a_50]))] ++ (wR Y o_5 q_9 S0_X2 ++ (wR Y o_16 q_20 S0_X2 ++ (wP Y o_27 tx_31 S0_X1 ++ (wH o_38 sa_42 0 ++ (wA Y sa_42 6 f_42 ++ (wR Y r0_42 q0_42 S0_X2 ++ wA Y a_50 2 (fun _ => none)))))))) := hD
  exact ret_v hx hb hr hlk hP hD hS dX3_init_56 ⟨Nat.le_of_ble_eq_true rfl, Nat.le_of_ble_eq_true rfl⟩ ⟨o_5, q_9, o_16, q_20, o_27, tx_31, o_38, sa_42, f_42, r0_42, q0_42, a_50, hf_42, rfl⟩
def T_X4_init_1  : Nat → Int32 := upd (fun _ => 0) (0 : Int32).toNatClampNeg 2
def T_X4_init_2  : Nat → Int32 := upd T_X4_init_1 (1 : Int32).toNatClampNeg 3
def T_X4_init_3  : Nat → Int32 := upd T_X4_init_2 (2 : Int32).toNatClampNeg 2
def T_X4_init_4  : Nat → Int32 := upd T_X4_init_3 (5 : Int32).toNatClampNeg (-1000006)
def T_X4_init_6 (i : Int32) (f1 : Nat → Int32) : Nat → Int32 := upd f1 (15 + i).toNatClampNeg 1
def T_X4_init_7 (i : Int32) (S_2 : Nat → Int32) : Nat → Int32 := upd S_2 (24 + i).toNatClampNeg 10
def L_X4_init_110  : Nat → (Int32) → (Nat → Int32) → (Nat → Int32)
  | 0, i, f1 => f1
  | n_110 + 1, i, f1 => if 9 ≤ i then f1 else (L_X4_init_110 n_110 (i + 1) (T_X4_init_7 i (T_X4_init_6 i f1)))
def T_X4_init_5 (j : Int32) (f2 : Nat → Int32) : Nat → Int32 := upd f2 (231 + j).toNatClampNeg (-1000006)
def L_X4_init_145 (f1 : Nat → Int32) : Nat → (Int32) → (Nat → Int32) → (Nat → Int32)
  | 0, j, f2 => f2
  | n_145 + 1, j, f2 => if 81 ≤ j then f2 else (L_X4_init_145 f1 n_145 (j + 1) (T_X4_init_5 j f2))
def S0_X4 : Nat → Nat → Int32 := fun a => cond (Nat.beq a 0) ((L_X4_init_145 (L_X4_init_110 10 0 T_X4_init_4) 82 0 (L_X4_init_110 10 0 T_X4_init_4)) : Nat → Int32) (cond (Nat.beq a 1) ((fun _ => 0) : Nat → Int32) (cond (Nat.beq a 2) ((fun _ => 0) : Nat → Int32) (cond (Nat.beq a 3) ((fun _ => 0) : Nat → Int32) (cond (Nat.beq a 4) ((fun _ => 0) : Nat → Int32) (cond (Nat.beq a 5) ((fun _ => 0) : Nat → Int32) (cond (Nat.beq a 6) ((fun _ => 0) : Nat → Int32) (cond (Nat.beq a 7) ((fun _ => 0) : Nat → Int32) (cond (Nat.beq a 8) ((fun _ => 0) : Nat → Int32) ((fun _ => 0))))))))))
set_option maxRecDepth 100000 in
theorem in_X4_init_RX4 : ∀ w ∈ u_ws RX4 TX4 13, w ∈ wsX4_init := by decide +kernel
set_option maxHeartbeats 4000000 in
set_option maxRecDepth 100000 in
theorem c_X4_init (l : Launch) (D : va_G) (Y : YY) (sz : Nat) (mo : Nat) : Met l yX4_init wsX4_init ({ frames := 1, cells := 9, slots := 3251, locals := 12 } : Room) (va_Pc [.ref mo] (Pst D Y sz ([(mo, .inr (4, [.null, .null, .null, .int 0, .null, .null, .null, .null, .int 0, .int 0, .null, .null, .int 0]))]))) ((fun A : Nat → Prop => Qsv D (fun w9 => ∃ q : Nat → Nat, w9 = wM Y mo q S0_X4) A) (va_A ([(mo, .inr (4, [.null, .null, .null, .int 0, .null, .null, .null, .null, .int 0, .int 0, .null, .null, .int 0]))]) sz)) 9 3251 (va_A ([(mo, .inr (4, [.null, .null, .null, .int 0, .null, .null, .null, .null, .int 0, .int 0, .null, .null, .int 0]))]) sz) := by
  refine ct_in (cc := cX4_init) (maxL := 2) (ret := none) (Qc := fun A : Nat → Prop => Qsv D (fun w9 => ∃ q : Nat → Nat, w9 = wM Y mo q S0_X4) A) (by decide +kernel) rfl (Nat.le_of_ble_eq_true rfl) ?_
  intro p e s m below meth c A ls hx hb hr hts hown hml hlk hin hsz hA hP hD hK hS hl
  have hown : s.vm.findClass RX4 = some m.cls := hown
  have hl : lv_has ls 2 [(0, .ref mo)] := hl
  show W p l e ({ frames := 1, cells := 9, slots := 3251, locals := 12 } : Room) s m ([.ref mo] : List Value).toArray below meth c s.heap [] 0 0 (MQ below (Qsv D (fun w9 => ∃ q : Nat → Nat, w9 = wM Y mo q S0_X4) A) ([.ref mo] : List Value).toArray s 9 3251 A) (F0 m 0 ls [])
  refine lv_aload_n hx hb dX4_init_0 rfl (lv_at hl 0 rfl) ?_
  refine W.objInit hx hb hown (hts (.methodLink RX4 1 objectInit) (by decide +kernel)) (hts (.instanceMethod objectInit) (by decide +kernel)) (hts _ (List.mem_of_getElem? (i := 3) rfl)) rfl (by rw [hml]; exact hl.1) rfl dX4_init_1 (Nat.le_of_ble_eq_true rfl) (Nat.le_of_ble_eq_true rfl) ?_
  refine W.eq (g2 := F0 m 4 ls []) rfl ?_
  refine lv_aload_n hx hb dX4_init_4 rfl (lv_at hl 0 rfl) ?_
  refine lv_sipush (v := 312) hx hb dX4_init_5 (by decide) ?_
  refine my_newI (D := D) (N := 312) hx hb (hts (.arrayClass .int) (by decide +kernel)) hK hP hD hS hA rfl (by decide) (Nat.le_of_ble_eq_true rfl) (Nat.le_of_ble_eq_true rfl) dX4_init_8 (fun a_8 H hP hD hS => ?_)
  have hP : va_P D vwCl ([(mo, .inr (4, [.null, .null, .null, .int 0, .null, .null, .null, .null, .int 0, .int 0, .null, .null, .int 0]))] ++ wI Y a_8 312 (fun _ => 0)) H := hP
  have hD : va_D A ([(mo, .inr (4, [.null, .null, .null, .int 0, .null, .null, .null, .null, .int 0, .int 0, .null, .null, .int 0]))] ++ wI Y a_8 312 (fun _ => 0)) := hD
  refine W.widen (k := 1) (n := 312) (Nat.le_of_ble_eq_true rfl) (Nat.le_of_ble_eq_true rfl) ?_
  refine va_putF (D := D) (ci := 4) (v := .ref a_8) (ty := .array .int) (C := RX4) (T := TX4) (N := 13) hx hb hts in_X4_init_RX4 tyX4 tyX4_ok nmX4 hown hK.1 hP hD hS 0 rfl rfl 0 (by decide) (hts (.fieldLink RX4 7 "NineDancersModel" "all" "[I") (by decide +kernel)) (fun _ h9 => h9) rfl hin rfl (by decide +kernel) rfl rfl (Nat.le_of_ble_eq_true rfl) dX4_init_10 (fun H locs hP hD hS => ?_)
  have hP : va_P D vwCl ([(mo, .inr (4, [.ref a_8, .null, .null, .int 0, .null, .null, .null, .null, .int 0, .int 0, .null, .null, .int 0]))] ++ wI Y a_8 312 (fun _ => 0)) H := hP
  have hD : va_D A ([(mo, .inr (4, [.ref a_8, .null, .null, .int 0, .null, .null, .null, .null, .int 0, .int 0, .null, .null, .int 0]))] ++ wI Y a_8 312 (fun _ => 0)) := hD
  refine lv_aload_n hx hb dX4_init_13 rfl (lv_at hl 0 rfl) ?_
  refine lv_sipush (v := 312) hx hb dX4_init_14 (by decide) ?_
  refine my_newI (D := D) (N := 312) hx hb (hts (.arrayClass .int) (by decide +kernel)) hK hP hD hS hA rfl (by decide) (Nat.le_of_ble_eq_true rfl) (Nat.le_of_ble_eq_true rfl) dX4_init_17 (fun a_17 H hP hD hS => ?_)
  have hP : va_P D vwCl ([(mo, .inr (4, [.ref a_8, .null, .null, .int 0, .null, .null, .null, .null, .int 0, .int 0, .null, .null, .int 0]))] ++ (wI Y a_8 312 (fun _ => 0) ++ wI Y a_17 312 (fun _ => 0))) H := hP
  have hD : va_D A ([(mo, .inr (4, [.ref a_8, .null, .null, .int 0, .null, .null, .null, .null, .int 0, .int 0, .null, .null, .int 0]))] ++ (wI Y a_8 312 (fun _ => 0) ++ wI Y a_17 312 (fun _ => 0))) := hD
  refine W.widen (k := 2) (n := 624) (Nat.le_of_ble_eq_true rfl) (Nat.le_of_ble_eq_true rfl) ?_
  refine va_putF (D := D) (ci := 4) (v := .ref a_17) (ty := .array .int) (C := RX4) (T := TX4) (N := 13) hx hb hts in_X4_init_RX4 tyX4 tyX4_ok nmX4 hown hK.1 hP hD hS 0 rfl rfl 1 (by decide) (hts (.fieldLink RX4 13 "NineDancersModel" "kept" "[I") (by decide +kernel)) (fun _ h9 => h9) rfl hin rfl (by decide +kernel) rfl rfl (Nat.le_of_ble_eq_true rfl) dX4_init_19 (fun H locs hP hD hS => ?_)
  have hP : va_P D vwCl ([(mo, .inr (4, [.ref a_8, .ref a_17, .null, .int 0, .null, .null, .null, .null, .int 0, .int 0, .null, .null, .int 0]))] ++ (wI Y a_8 312 (fun _ => 0) ++ wI Y a_17 312 (fun _ => 0))) H := hP
  have hD : va_D A ([(mo, .inr (4, [.ref a_8, .ref a_17, .null, .int 0, .null, .null, .null, .null, .int 0, .int 0, .null, .null, .int 0]))] ++ (wI Y a_8 312 (fun _ => 0) ++ wI Y a_17 312 (fun _ => 0))) := hD
  refine lv_aload_n hx hb dX4_init_22 rfl (lv_at hl 0 rfl) ?_
  refine lv_sipush (v := 1872) hx hb dX4_init_23 (by decide) ?_
  refine my_newI (D := D) (N := 1872) hx hb (hts (.arrayClass .int) (by decide +kernel)) hK hP hD hS hA rfl (by decide) (Nat.le_of_ble_eq_true rfl) (Nat.le_of_ble_eq_true rfl) dX4_init_26 (fun a_26 H hP hD hS => ?_)
  have hP : va_P D vwCl ([(mo, .inr (4, [.ref a_8, .ref a_17, .null, .int 0, .null, .null, .null, .null, .int 0, .int 0, .null, .null, .int 0]))] ++ (wI Y a_8 312 (fun _ => 0) ++ (wI Y a_17 312 (fun _ => 0) ++ wI Y a_26 1872 (fun _ => 0)))) H := hP
  have hD : va_D A ([(mo, .inr (4, [.ref a_8, .ref a_17, .null, .int 0, .null, .null, .null, .null, .int 0, .int 0, .null, .null, .int 0]))] ++ (wI Y a_8 312 (fun _ => 0) ++ (wI Y a_17 312 (fun _ => 0) ++ wI Y a_26 1872 (fun _ => 0)))) := hD
  refine W.widen (k := 3) (n := 2496) (Nat.le_of_ble_eq_true rfl) (Nat.le_of_ble_eq_true rfl) ?_
  refine va_putF (D := D) (ci := 4) (v := .ref a_26) (ty := .array .int) (C := RX4) (T := TX4) (N := 13) hx hb hts in_X4_init_RX4 tyX4 tyX4_ok nmX4 hown hK.1 hP hD hS 0 rfl rfl 2 (by decide) (hts (.fieldLink RX4 16 "NineDancersModel" "history" "[I") (by decide +kernel)) (fun _ h9 => h9) rfl hin rfl (by decide +kernel) rfl rfl (Nat.le_of_ble_eq_true rfl) dX4_init_28 (fun H locs hP hD hS => ?_)
  have hP : va_P D vwCl ([(mo, .inr (4, [.ref a_8, .ref a_17, .ref a_26, .int 0, .null, .null, .null, .null, .int 0, .int 0, .null, .null, .int 0]))] ++ (wI Y a_8 312 (fun _ => 0) ++ (wI Y a_17 312 (fun _ => 0) ++ wI Y a_26 1872 (fun _ => 0)))) H := hP
  have hD : va_D A ([(mo, .inr (4, [.ref a_8, .ref a_17, .ref a_26, .int 0, .null, .null, .null, .null, .int 0, .int 0, .null, .null, .int 0]))] ++ (wI Y a_8 312 (fun _ => 0) ++ (wI Y a_17 312 (fun _ => 0) ++ wI Y a_26 1872 (fun _ => 0)))) := hD
  refine lv_aload_n hx hb dX4_init_31 rfl (lv_at hl 0 rfl) ?_
  refine lv_sipush (v := 624) hx hb dX4_init_32 (by decide) ?_
  refine my_newI (D := D) (N := 624) hx hb (hts (.arrayClass .int) (by decide +kernel)) hK hP hD hS hA rfl (by decide) (Nat.le_of_ble_eq_true rfl) (Nat.le_of_ble_eq_true rfl) dX4_init_35 (fun a_35 H hP hD hS => ?_)
  have hP : va_P D vwCl ([(mo, .inr (4, [.ref a_8, .ref a_17, .ref a_26, .int 0, .null, .null, .null, .null, .int 0, .int 0, .null, .null, .int 0]))] ++ (wI Y a_8 312 (fun _ => 0) ++ (wI Y a_17 312 (fun _ => 0) ++ (wI Y a_26 1872 (fun _ => 0) ++ wI Y a_35 624 (fun _ => 0))))) H := hP
  have hD : va_D A ([(mo, .inr (4, [.ref a_8, .ref a_17, .ref a_26, .int 0, .null, .null, .null, .null, .int 0, .int 0, .null, .null, .int 0]))] ++ (wI Y a_8 312 (fun _ => 0) ++ (wI Y a_17 312 (fun _ => 0) ++ (wI Y a_26 1872 (fun _ => 0) ++ wI Y a_35 624 (fun _ => 0))))) := hD
  refine W.widen (k := 4) (n := 3120) (Nat.le_of_ble_eq_true rfl) (Nat.le_of_ble_eq_true rfl) ?_
  refine va_putF (D := D) (ci := 4) (v := .ref a_35) (ty := .array .int) (C := RX4) (T := TX4) (N := 13) hx hb hts in_X4_init_RX4 tyX4 tyX4_ok nmX4 hown hK.1 hP hD hS 0 rfl rfl 4 (by decide) (hts (.fieldLink RX4 19 "NineDancersModel" "slots" "[I") (by decide +kernel)) (fun _ h9 => h9) rfl hin rfl (by decide +kernel) rfl rfl (Nat.le_of_ble_eq_true rfl) dX4_init_37 (fun H locs hP hD hS => ?_)
  have hP : va_P D vwCl ([(mo, .inr (4, [.ref a_8, .ref a_17, .ref a_26, .int 0, .ref a_35, .null, .null, .null, .int 0, .int 0, .null, .null, .int 0]))] ++ (wI Y a_8 312 (fun _ => 0) ++ (wI Y a_17 312 (fun _ => 0) ++ (wI Y a_26 1872 (fun _ => 0) ++ wI Y a_35 624 (fun _ => 0))))) H := hP
  have hD : va_D A ([(mo, .inr (4, [.ref a_8, .ref a_17, .ref a_26, .int 0, .ref a_35, .null, .null, .null, .int 0, .int 0, .null, .null, .int 0]))] ++ (wI Y a_8 312 (fun _ => 0) ++ (wI Y a_17 312 (fun _ => 0) ++ (wI Y a_26 1872 (fun _ => 0) ++ wI Y a_35 624 (fun _ => 0))))) := hD
  refine lv_aload_n hx hb dX4_init_40 rfl (lv_at hl 0 rfl) ?_
  refine lv_iconst (v := 2) hx hb dX4_init_41 (by decide) ?_
  refine my_newI (D := D) (N := 2) hx hb (hts (.arrayClass .int) (by decide +kernel)) hK hP hD hS hA rfl (by decide) (Nat.le_of_ble_eq_true rfl) (Nat.le_of_ble_eq_true rfl) dX4_init_42 (fun a_42 H hP hD hS => ?_)
  have hP : va_P D vwCl ([(mo, .inr (4, [.ref a_8, .ref a_17, .ref a_26, .int 0, .ref a_35, .null, .null, .null, .int 0, .int 0, .null, .null, .int 0]))] ++ (wI Y a_8 312 (fun _ => 0) ++ (wI Y a_17 312 (fun _ => 0) ++ (wI Y a_26 1872 (fun _ => 0) ++ (wI Y a_35 624 (fun _ => 0) ++ wI Y a_42 2 (fun _ => 0)))))) H := hP
  have hD : va_D A ([(mo, .inr (4, [.ref a_8, .ref a_17, .ref a_26, .int 0, .ref a_35, .null, .null, .null, .int 0, .int 0, .null, .null, .int 0]))] ++ (wI Y a_8 312 (fun _ => 0) ++ (wI Y a_17 312 (fun _ => 0) ++ (wI Y a_26 1872 (fun _ => 0) ++ (wI Y a_35 624 (fun _ => 0) ++ wI Y a_42 2 (fun _ => 0)))))) := hD
  refine W.widen (k := 5) (n := 3122) (Nat.le_of_ble_eq_true rfl) (Nat.le_of_ble_eq_true rfl) ?_
  refine va_putF (D := D) (ci := 4) (v := .ref a_42) (ty := .array .int) (C := RX4) (T := TX4) (N := 13) hx hb hts in_X4_init_RX4 tyX4 tyX4_ok nmX4 hown hK.1 hP hD hS 0 rfl rfl 5 (by decide) (hts (.fieldLink RX4 22 "NineDancersModel" "isSaved" "[I") (by decide +kernel)) (fun _ h9 => h9) rfl hin rfl (by decide +kernel) rfl rfl (Nat.le_of_ble_eq_true rfl) dX4_init_44 (fun H locs hP hD hS => ?_)
  have hP : va_P D vwCl ([(mo, .inr (4, [.ref a_8, .ref a_17, .ref a_26, .int 0, .ref a_35, .ref a_42, .null, .null, .int 0, .int 0, .null, .null, .int 0]))] ++ (wI Y a_8 312 (fun _ => 0) ++ (wI Y a_17 312 (fun _ => 0) ++ (wI Y a_26 1872 (fun _ => 0) ++ (wI Y a_35 624 (fun _ => 0) ++ wI Y a_42 2 (fun _ => 0)))))) H := hP
  have hD : va_D A ([(mo, .inr (4, [.ref a_8, .ref a_17, .ref a_26, .int 0, .ref a_35, .ref a_42, .null, .null, .int 0, .int 0, .null, .null, .int 0]))] ++ (wI Y a_8 312 (fun _ => 0) ++ (wI Y a_17 312 (fun _ => 0) ++ (wI Y a_26 1872 (fun _ => 0) ++ (wI Y a_35 624 (fun _ => 0) ++ wI Y a_42 2 (fun _ => 0)))))) := hD
  refine lv_aload_n hx hb dX4_init_47 rfl (lv_at hl 0 rfl) ?_
  refine lv_bipush (v := 9) hx hb dX4_init_48 (by decide) ?_
  refine my_newI (D := D) (N := 9) hx hb (hts (.arrayClass .int) (by decide +kernel)) hK hP hD hS hA rfl (by decide) (Nat.le_of_ble_eq_true rfl) (Nat.le_of_ble_eq_true rfl) dX4_init_50 (fun a_50 H hP hD hS => ?_)
  have hP : va_P D vwCl ([(mo, .inr (4, [.ref a_8, .ref a_17, .ref a_26, .int 0, .ref a_35, .ref a_42, .null, .null, .int 0, .int 0, .null, .null, .int 0]))] ++ (wI Y a_8 312 (fun _ => 0) ++ (wI Y a_17 312 (fun _ => 0) ++ (wI Y a_26 1872 (fun _ => 0) ++ (wI Y a_35 624 (fun _ => 0) ++ (wI Y a_42 2 (fun _ => 0) ++ wI Y a_50 9 (fun _ => 0))))))) H := hP
  have hD : va_D A ([(mo, .inr (4, [.ref a_8, .ref a_17, .ref a_26, .int 0, .ref a_35, .ref a_42, .null, .null, .int 0, .int 0, .null, .null, .int 0]))] ++ (wI Y a_8 312 (fun _ => 0) ++ (wI Y a_17 312 (fun _ => 0) ++ (wI Y a_26 1872 (fun _ => 0) ++ (wI Y a_35 624 (fun _ => 0) ++ (wI Y a_42 2 (fun _ => 0) ++ wI Y a_50 9 (fun _ => 0))))))) := hD
  refine W.widen (k := 6) (n := 3131) (Nat.le_of_ble_eq_true rfl) (Nat.le_of_ble_eq_true rfl) ?_
  refine va_putF (D := D) (ci := 4) (v := .ref a_50) (ty := .array .int) (C := RX4) (T := TX4) (N := 13) hx hb hts in_X4_init_RX4 tyX4 tyX4_ok nmX4 hown hK.1 hP hD hS 0 rfl rfl 6 (by decide) (hts (.fieldLink RX4 25 "NineDancersModel" "dancing" "[I") (by decide +kernel)) (fun _ h9 => h9) rfl hin rfl (by decide +kernel) rfl rfl (Nat.le_of_ble_eq_true rfl) dX4_init_52 (fun H locs hP hD hS => ?_)
  have hP : va_P D vwCl ([(mo, .inr (4, [.ref a_8, .ref a_17, .ref a_26, .int 0, .ref a_35, .ref a_42, .ref a_50, .null, .int 0, .int 0, .null, .null, .int 0]))] ++ (wI Y a_8 312 (fun _ => 0) ++ (wI Y a_17 312 (fun _ => 0) ++ (wI Y a_26 1872 (fun _ => 0) ++ (wI Y a_35 624 (fun _ => 0) ++ (wI Y a_42 2 (fun _ => 0) ++ wI Y a_50 9 (fun _ => 0))))))) H := hP
  have hD : va_D A ([(mo, .inr (4, [.ref a_8, .ref a_17, .ref a_26, .int 0, .ref a_35, .ref a_42, .ref a_50, .null, .int 0, .int 0, .null, .null, .int 0]))] ++ (wI Y a_8 312 (fun _ => 0) ++ (wI Y a_17 312 (fun _ => 0) ++ (wI Y a_26 1872 (fun _ => 0) ++ (wI Y a_35 624 (fun _ => 0) ++ (wI Y a_42 2 (fun _ => 0) ++ wI Y a_50 9 (fun _ => 0))))))) := hD
  refine lv_aload_n hx hb dX4_init_55 rfl (lv_at hl 0 rfl) ?_
  refine lv_bipush (v := 60) hx hb dX4_init_56 (by decide) ?_
  refine my_newI (D := D) (N := 60) hx hb (hts (.arrayClass .int) (by decide +kernel)) hK hP hD hS hA rfl (by decide) (Nat.le_of_ble_eq_true rfl) (Nat.le_of_ble_eq_true rfl) dX4_init_58 (fun a_58 H hP hD hS => ?_)
  have hP : va_P D vwCl ([(mo, .inr (4, [.ref a_8, .ref a_17, .ref a_26, .int 0, .ref a_35, .ref a_42, .ref a_50, .null, .int 0, .int 0, .null, .null, .int 0]))] ++ (wI Y a_8 312 (fun _ => 0) ++ (wI Y a_17 312 (fun _ => 0) ++ (wI Y a_26 1872 (fun _ => 0) ++ (wI Y a_35 624 (fun _ => 0) ++ (wI Y a_42 2 (fun _ => 0) ++ (wI Y a_50 9 (fun _ => 0) ++ wI Y a_58 60 (fun _ => 0)))))))) H := hP
  have hD : va_D A ([(mo, .inr (4, [.ref a_8, .ref a_17, .ref a_26, .int 0, .ref a_35, .ref a_42, .ref a_50, .null, .int 0, .int 0, .null, .null, .int 0]))] ++ (wI Y a_8 312 (fun _ => 0) ++ (wI Y a_17 312 (fun _ => 0) ++ (wI Y a_26 1872 (fun _ => 0) ++ (wI Y a_35 624 (fun _ => 0) ++ (wI Y a_42 2 (fun _ => 0) ++ (wI Y a_50 9 (fun _ => 0) ++ wI Y a_58 60 (fun _ => 0)))))))) := hD
  refine W.widen (k := 7) (n := 3191) (Nat.le_of_ble_eq_true rfl) (Nat.le_of_ble_eq_true rfl) ?_
  refine va_putF (D := D) (ci := 4) (v := .ref a_58) (ty := .array .int) (C := RX4) (T := TX4) (N := 13) hx hb hts in_X4_init_RX4 tyX4 tyX4_ok nmX4 hown hK.1 hP hD hS 0 rfl rfl 7 (by decide) (hts (.fieldLink RX4 28 "NineDancersModel" "text" "[I") (by decide +kernel)) (fun _ h9 => h9) rfl hin rfl (by decide +kernel) rfl rfl (Nat.le_of_ble_eq_true rfl) dX4_init_60 (fun H locs hP hD hS => ?_)
  have hP : va_P D vwCl ([(mo, .inr (4, [.ref a_8, .ref a_17, .ref a_26, .int 0, .ref a_35, .ref a_42, .ref a_50, .ref a_58, .int 0, .int 0, .null, .null, .int 0]))] ++ (wI Y a_8 312 (fun _ => 0) ++ (wI Y a_17 312 (fun _ => 0) ++ (wI Y a_26 1872 (fun _ => 0) ++ (wI Y a_35 624 (fun _ => 0) ++ (wI Y a_42 2 (fun _ => 0) ++ (wI Y a_50 9 (fun _ => 0) ++ wI Y a_58 60 (fun _ => 0)))))))) H := hP
  have hD : va_D A ([(mo, .inr (4, [.ref a_8, .ref a_17, .ref a_26, .int 0, .ref a_35, .ref a_42, .ref a_50, .ref a_58, .int 0, .int 0, .null, .null, .int 0]))] ++ (wI Y a_8 312 (fun _ => 0) ++ (wI Y a_17 312 (fun _ => 0) ++ (wI Y a_26 1872 (fun _ => 0) ++ (wI Y a_35 624 (fun _ => 0) ++ (wI Y a_42 2 (fun _ => 0) ++ (wI Y a_50 9 (fun _ => 0) ++ wI Y a_58 60 (fun _ => 0)))))))) := hD
  refine lv_aload_n hx hb dX4_init_63 rfl (lv_at hl 0 rfl) ?_
  refine lv_bipush (v := 30) hx hb dX4_init_64 (by decide) ?_
  refine my_newI (D := D) (N := 30) hx hb (hts (.arrayClass .int) (by decide +kernel)) hK hP hD hS hA rfl (by decide) (Nat.le_of_ble_eq_true rfl) (Nat.le_of_ble_eq_true rfl) dX4_init_66 (fun a_66 H hP hD hS => ?_)
  have hP : va_P D vwCl ([(mo, .inr (4, [.ref a_8, .ref a_17, .ref a_26, .int 0, .ref a_35, .ref a_42, .ref a_50, .ref a_58, .int 0, .int 0, .null, .null, .int 0]))] ++ (wI Y a_8 312 (fun _ => 0) ++ (wI Y a_17 312 (fun _ => 0) ++ (wI Y a_26 1872 (fun _ => 0) ++ (wI Y a_35 624 (fun _ => 0) ++ (wI Y a_42 2 (fun _ => 0) ++ (wI Y a_50 9 (fun _ => 0) ++ (wI Y a_58 60 (fun _ => 0) ++ wI Y a_66 30 (fun _ => 0))))))))) H := hP
  have hD : va_D A ([(mo, .inr (4, [.ref a_8, .ref a_17, .ref a_26, .int 0, .ref a_35, .ref a_42, .ref a_50, .ref a_58, .int 0, .int 0, .null, .null, .int 0]))] ++ (wI Y a_8 312 (fun _ => 0) ++ (wI Y a_17 312 (fun _ => 0) ++ (wI Y a_26 1872 (fun _ => 0) ++ (wI Y a_35 624 (fun _ => 0) ++ (wI Y a_42 2 (fun _ => 0) ++ (wI Y a_50 9 (fun _ => 0) ++ (wI Y a_58 60 (fun _ => 0) ++ wI Y a_66 30 (fun _ => 0))))))))) := hD
  refine W.widen (k := 8) (n := 3221) (Nat.le_of_ble_eq_true rfl) (Nat.le_of_ble_eq_true rfl) ?_
  refine va_putF (D := D) (ci := 4) (v := .ref a_66) (ty := .array .int) (C := RX4) (T := TX4) (N := 13) hx hb hts in_X4_init_RX4 tyX4 tyX4_ok nmX4 hown hK.1 hP hD hS 0 rfl rfl 10 (by decide) (hts (.fieldLink RX4 31 "NineDancersModel" "times" "[I") (by decide +kernel)) (fun _ h9 => h9) rfl hin rfl (by decide +kernel) rfl rfl (Nat.le_of_ble_eq_true rfl) dX4_init_68 (fun H locs hP hD hS => ?_)
  have hP : va_P D vwCl ([(mo, .inr (4, [.ref a_8, .ref a_17, .ref a_26, .int 0, .ref a_35, .ref a_42, .ref a_50, .ref a_58, .int 0, .int 0, .ref a_66, .null, .int 0]))] ++ (wI Y a_8 312 (fun _ => 0) ++ (wI Y a_17 312 (fun _ => 0) ++ (wI Y a_26 1872 (fun _ => 0) ++ (wI Y a_35 624 (fun _ => 0) ++ (wI Y a_42 2 (fun _ => 0) ++ (wI Y a_50 9 (fun _ => 0) ++ (wI Y a_58 60 (fun _ => 0) ++ wI Y a_66 30 (fun _ => 0))))))))) H := hP
  have hD : va_D A ([(mo, .inr (4, [.ref a_8, .ref a_17, .ref a_26, .int 0, .ref a_35, .ref a_42, .ref a_50, .ref a_58, .int 0, .int 0, .ref a_66, .null, .int 0]))] ++ (wI Y a_8 312 (fun _ => 0) ++ (wI Y a_17 312 (fun _ => 0) ++ (wI Y a_26 1872 (fun _ => 0) ++ (wI Y a_35 624 (fun _ => 0) ++ (wI Y a_42 2 (fun _ => 0) ++ (wI Y a_50 9 (fun _ => 0) ++ (wI Y a_58 60 (fun _ => 0) ++ wI Y a_66 30 (fun _ => 0))))))))) := hD
  refine lv_aload_n hx hb dX4_init_71 rfl (lv_at hl 0 rfl) ?_
  refine lv_bipush (v := 30) hx hb dX4_init_72 (by decide) ?_
  refine my_newI (D := D) (N := 30) hx hb (hts (.arrayClass .int) (by decide +kernel)) hK hP hD hS hA rfl (by decide) (Nat.le_of_ble_eq_true rfl) (Nat.le_of_ble_eq_true rfl) dX4_init_74 (fun a_74 H hP hD hS => ?_)
  have hP : va_P D vwCl ([(mo, .inr (4, [.ref a_8, .ref a_17, .ref a_26, .int 0, .ref a_35, .ref a_42, .ref a_50, .ref a_58, .int 0, .int 0, .ref a_66, .null, .int 0]))] ++ (wI Y a_8 312 (fun _ => 0) ++ (wI Y a_17 312 (fun _ => 0) ++ (wI Y a_26 1872 (fun _ => 0) ++ (wI Y a_35 624 (fun _ => 0) ++ (wI Y a_42 2 (fun _ => 0) ++ (wI Y a_50 9 (fun _ => 0) ++ (wI Y a_58 60 (fun _ => 0) ++ (wI Y a_66 30 (fun _ => 0) ++ wI Y a_74 30 (fun _ => 0)))))))))) H := hP
  have hD : va_D A ([(mo, .inr (4, [.ref a_8, .ref a_17, .ref a_26, .int 0, .ref a_35, .ref a_42, .ref a_50, .ref a_58, .int 0, .int 0, .ref a_66, .null, .int 0]))] ++ (wI Y a_8 312 (fun _ => 0) ++ (wI Y a_17 312 (fun _ => 0) ++ (wI Y a_26 1872 (fun _ => 0) ++ (wI Y a_35 624 (fun _ => 0) ++ (wI Y a_42 2 (fun _ => 0) ++ (wI Y a_50 9 (fun _ => 0) ++ (wI Y a_58 60 (fun _ => 0) ++ (wI Y a_66 30 (fun _ => 0) ++ wI Y a_74 30 (fun _ => 0)))))))))) := hD
  refine W.widen (k := 9) (n := 3251) (Nat.le_of_ble_eq_true rfl) (Nat.le_of_ble_eq_true rfl) ?_
  refine va_putF (D := D) (ci := 4) (v := .ref a_74) (ty := .array .int) (C := RX4) (T := TX4) (N := 13) hx hb hts in_X4_init_RX4 tyX4 tyX4_ok nmX4 hown hK.1 hP hD hS 0 rfl rfl 11 (by decide) (hts (.fieldLink RX4 34 "NineDancersModel" "numbers" "[I") (by decide +kernel)) (fun _ h9 => h9) rfl hin rfl (by decide +kernel) rfl rfl (Nat.le_of_ble_eq_true rfl) dX4_init_76 (fun H locs hP hD hS => ?_)
  have hP : va_P D vwCl ([(mo, .inr (4, [.ref a_8, .ref a_17, .ref a_26, .int 0, .ref a_35, .ref a_42, .ref a_50, .ref a_58, .int 0, .int 0, .ref a_66, .ref a_74, .int 0]))] ++ (wI Y a_8 312 (fun _ => 0) ++ (wI Y a_17 312 (fun _ => 0) ++ (wI Y a_26 1872 (fun _ => 0) ++ (wI Y a_35 624 (fun _ => 0) ++ (wI Y a_42 2 (fun _ => 0) ++ (wI Y a_50 9 (fun _ => 0) ++ (wI Y a_58 60 (fun _ => 0) ++ (wI Y a_66 30 (fun _ => 0) ++ wI Y a_74 30 (fun _ => 0)))))))))) H := hP
  have hD : va_D A ([(mo, .inr (4, [.ref a_8, .ref a_17, .ref a_26, .int 0, .ref a_35, .ref a_42, .ref a_50, .ref a_58, .int 0, .int 0, .ref a_66, .ref a_74, .int 0]))] ++ (wI Y a_8 312 (fun _ => 0) ++ (wI Y a_17 312 (fun _ => 0) ++ (wI Y a_26 1872 (fun _ => 0) ++ (wI Y a_35 624 (fun _ => 0) ++ (wI Y a_42 2 (fun _ => 0) ++ (wI Y a_50 9 (fun _ => 0) ++ (wI Y a_58 60 (fun _ => 0) ++ (wI Y a_66 30 (fun _ => 0) ++ wI Y a_74 30 (fun _ => 0)))))))))) := hD
  refine lv_aload_n hx hb dX4_init_79 rfl (lv_at hl 0 rfl) ?_
  refine va_get (D := D) (ci := 4) (v := .ref a_8) (C := RX4) (T := TX4) (N := 13) hx hb hts in_X4_init_RX4 hown hK.1 hP 0 rfl rfl 0 (by decide) (hts (.fieldLink RX4 7 "NineDancersModel" "all" "[I") (by decide +kernel)) (fun _ h9 => h9) rfl dX4_init_80 ?_
  refine lv_iconst (v := 0) hx hb dX4_init_83 (by decide) ?_
  refine lv_iconst (v := 2) hx hb dX4_init_84 (by decide) ?_
  refine va_iast (D := D) hx hb hK.1 hP hD hS 1 0 rfl rfl (by unfold vp_in; decide) dX4_init_85 (fun H locs hP hD hS => ?_)
  have hP : va_P D vwCl ([(mo, .inr (4, [.ref a_8, .ref a_17, .ref a_26, .int 0, .ref a_35, .ref a_42, .ref a_50, .ref a_58, .int 0, .int 0, .ref a_66, .ref a_74, .int 0]))] ++ (wI Y a_8 312 T_X4_init_1 ++ (wI Y a_17 312 (fun _ => 0) ++ (wI Y a_26 1872 (fun _ => 0) ++ (wI Y a_35 624 (fun _ => 0) ++ (wI Y a_42 2 (fun _ => 0) ++ (wI Y a_50 9 (fun _ => 0) ++ (wI Y a_58 60 (fun _ => 0) ++ (wI Y a_66 30 (fun _ => 0) ++ wI Y a_74 30 (fun _ => 0)))))))))) H := hP
  have hD : va_D A ([(mo, .inr (4, [.ref a_8, .ref a_17, .ref a_26, .int 0, .ref a_35, .ref a_42, .ref a_50, .ref a_58, .int 0, .int 0, .ref a_66, .ref a_74, .int 0]))] ++ (wI Y a_8 312 T_X4_init_1 ++ (wI Y a_17 312 (fun _ => 0) ++ (wI Y a_26 1872 (fun _ => 0) ++ (wI Y a_35 624 (fun _ => 0) ++ (wI Y a_42 2 (fun _ => 0) ++ (wI Y a_50 9 (fun _ => 0) ++ (wI Y a_58 60 (fun _ => 0) ++ (wI Y a_66 30 (fun _ => 0) ++ wI Y a_74 30 (fun _ => 0)))))))))) := hD
  refine lv_aload_n hx hb dX4_init_86 rfl (lv_at hl 0 rfl) ?_
  refine va_get (D := D) (ci := 4) (v := .ref a_8) (C := RX4) (T := TX4) (N := 13) hx hb hts in_X4_init_RX4 hown hK.1 hP 0 rfl rfl 0 (by decide) (hts (.fieldLink RX4 7 "NineDancersModel" "all" "[I") (by decide +kernel)) (fun _ h9 => h9) rfl dX4_init_87 ?_
  refine lv_iconst (v := 1) hx hb dX4_init_90 (by decide) ?_
  refine lv_iconst (v := 3) hx hb dX4_init_91 (by decide) ?_
  refine va_iast (D := D) hx hb hK.1 hP hD hS 1 0 rfl rfl (by unfold vp_in; decide) dX4_init_92 (fun H locs hP hD hS => ?_)
  have hP : va_P D vwCl ([(mo, .inr (4, [.ref a_8, .ref a_17, .ref a_26, .int 0, .ref a_35, .ref a_42, .ref a_50, .ref a_58, .int 0, .int 0, .ref a_66, .ref a_74, .int 0]))] ++ (wI Y a_8 312 T_X4_init_2 ++ (wI Y a_17 312 (fun _ => 0) ++ (wI Y a_26 1872 (fun _ => 0) ++ (wI Y a_35 624 (fun _ => 0) ++ (wI Y a_42 2 (fun _ => 0) ++ (wI Y a_50 9 (fun _ => 0) ++ (wI Y a_58 60 (fun _ => 0) ++ (wI Y a_66 30 (fun _ => 0) ++ wI Y a_74 30 (fun _ => 0)))))))))) H := hP
  have hD : va_D A ([(mo, .inr (4, [.ref a_8, .ref a_17, .ref a_26, .int 0, .ref a_35, .ref a_42, .ref a_50, .ref a_58, .int 0, .int 0, .ref a_66, .ref a_74, .int 0]))] ++ (wI Y a_8 312 T_X4_init_2 ++ (wI Y a_17 312 (fun _ => 0) ++ (wI Y a_26 1872 (fun _ => 0) ++ (wI Y a_35 624 (fun _ => 0) ++ (wI Y a_42 2 (fun _ => 0) ++ (wI Y a_50 9 (fun _ => 0) ++ (wI Y a_58 60 (fun _ => 0) ++ (wI Y a_66 30 (fun _ => 0) ++ wI Y a_74 30 (fun _ => 0)))))))))) := hD
  refine lv_aload_n hx hb dX4_init_93 rfl (lv_at hl 0 rfl) ?_
  refine va_get (D := D) (ci := 4) (v := .ref a_8) (C := RX4) (T := TX4) (N := 13) hx hb hts in_X4_init_RX4 hown hK.1 hP 0 rfl rfl 0 (by decide) (hts (.fieldLink RX4 7 "NineDancersModel" "all" "[I") (by decide +kernel)) (fun _ h9 => h9) rfl dX4_init_94 ?_
  refine lv_iconst (v := 2) hx hb dX4_init_97 (by decide) ?_
  refine lv_iconst (v := 2) hx hb dX4_init_98 (by decide) ?_
  refine va_iast (D := D) hx hb hK.1 hP hD hS 1 0 rfl rfl (by unfold vp_in; decide) dX4_init_99 (fun H locs hP hD hS => ?_)
  have hP : va_P D vwCl ([(mo, .inr (4, [.ref a_8, .ref a_17, .ref a_26, .int 0, .ref a_35, .ref a_42, .ref a_50, .ref a_58, .int 0, .int 0, .ref a_66, .ref a_74, .int 0]))] ++ (wI Y a_8 312 T_X4_init_3 ++ (wI Y a_17 312 (fun _ => 0) ++ (wI Y a_26 1872 (fun _ => 0) ++ (wI Y a_35 624 (fun _ => 0) ++ (wI Y a_42 2 (fun _ => 0) ++ (wI Y a_50 9 (fun _ => 0) ++ (wI Y a_58 60 (fun _ => 0) ++ (wI Y a_66 30 (fun _ => 0) ++ wI Y a_74 30 (fun _ => 0)))))))))) H := hP
  have hD : va_D A ([(mo, .inr (4, [.ref a_8, .ref a_17, .ref a_26, .int 0, .ref a_35, .ref a_42, .ref a_50, .ref a_58, .int 0, .int 0, .ref a_66, .ref a_74, .int 0]))] ++ (wI Y a_8 312 T_X4_init_3 ++ (wI Y a_17 312 (fun _ => 0) ++ (wI Y a_26 1872 (fun _ => 0) ++ (wI Y a_35 624 (fun _ => 0) ++ (wI Y a_42 2 (fun _ => 0) ++ (wI Y a_50 9 (fun _ => 0) ++ (wI Y a_58 60 (fun _ => 0) ++ (wI Y a_66 30 (fun _ => 0) ++ wI Y a_74 30 (fun _ => 0)))))))))) := hD
  refine lv_aload_n hx hb dX4_init_100 rfl (lv_at hl 0 rfl) ?_
  refine va_get (D := D) (ci := 4) (v := .ref a_8) (C := RX4) (T := TX4) (N := 13) hx hb hts in_X4_init_RX4 hown hK.1 hP 0 rfl rfl 0 (by decide) (hts (.fieldLink RX4 7 "NineDancersModel" "all" "[I") (by decide +kernel)) (fun _ h9 => h9) rfl dX4_init_101 ?_
  refine lv_iconst (v := 5) hx hb dX4_init_104 (by decide) ?_
  refine lv_ldc (v := (-1000006)) hx hb hown (hts (.constant RX4 37 (-1000006)) (by decide +kernel)) dX4_init_105 ?_
  refine va_iast (D := D) hx hb hK.1 hP hD hS 1 0 rfl rfl (by unfold vp_in; decide) dX4_init_107 (fun H locs hP hD hS => ?_)
  have hP : va_P D vwCl ([(mo, .inr (4, [.ref a_8, .ref a_17, .ref a_26, .int 0, .ref a_35, .ref a_42, .ref a_50, .ref a_58, .int 0, .int 0, .ref a_66, .ref a_74, .int 0]))] ++ (wI Y a_8 312 T_X4_init_4 ++ (wI Y a_17 312 (fun _ => 0) ++ (wI Y a_26 1872 (fun _ => 0) ++ (wI Y a_35 624 (fun _ => 0) ++ (wI Y a_42 2 (fun _ => 0) ++ (wI Y a_50 9 (fun _ => 0) ++ (wI Y a_58 60 (fun _ => 0) ++ (wI Y a_66 30 (fun _ => 0) ++ wI Y a_74 30 (fun _ => 0)))))))))) H := hP
  have hD : va_D A ([(mo, .inr (4, [.ref a_8, .ref a_17, .ref a_26, .int 0, .ref a_35, .ref a_42, .ref a_50, .ref a_58, .int 0, .int 0, .ref a_66, .ref a_74, .int 0]))] ++ (wI Y a_8 312 T_X4_init_4 ++ (wI Y a_17 312 (fun _ => 0) ++ (wI Y a_26 1872 (fun _ => 0) ++ (wI Y a_35 624 (fun _ => 0) ++ (wI Y a_42 2 (fun _ => 0) ++ (wI Y a_50 9 (fun _ => 0) ++ (wI Y a_58 60 (fun _ => 0) ++ (wI Y a_66 30 (fun _ => 0) ++ wI Y a_74 30 (fun _ => 0)))))))))) := hD
  refine lv_iconst (v := 0) hx hb dX4_init_108 (by decide) ?_
  refine lv_istore_n (lv' := [(1, .int 0), (0, .ref mo)]) hx hb dX4_init_109 rfl hl (by decide) rfl (fun ls hl => ?_)
  have loop_110 : ∀ (n_110 k_110 : Nat) (i : Int32) (f1 : Nat → Int32) (H : Heap) (locs : List Loc) (ls : Array Slot), 10 ≤ k_110 + n_110 → k_110 ≤ 9 → i = nI k_110 → va_P D vwCl ([(mo, .inr (4, [.ref a_8, .ref a_17, .ref a_26, .int 0, .ref a_35, .ref a_42, .ref a_50, .ref a_58, .int 0, .int 0, .ref a_66, .ref a_74, .int 0]))] ++ (wI Y a_8 312 f1 ++ (wI Y a_17 312 (fun _ => 0) ++ (wI Y a_26 1872 (fun _ => 0) ++ (wI Y a_35 624 (fun _ => 0) ++ (wI Y a_42 2 (fun _ => 0) ++ (wI Y a_50 9 (fun _ => 0) ++ (wI Y a_58 60 (fun _ => 0) ++ (wI Y a_66 30 (fun _ => 0) ++ wI Y a_74 30 (fun _ => 0)))))))))) H → va_D A ([(mo, .inr (4, [.ref a_8, .ref a_17, .ref a_26, .int 0, .ref a_35, .ref a_42, .ref a_50, .ref a_58, .int 0, .int 0, .ref a_66, .ref a_74, .int 0]))] ++ (wI Y a_8 312 f1 ++ (wI Y a_17 312 (fun _ => 0) ++ (wI Y a_26 1872 (fun _ => 0) ++ (wI Y a_35 624 (fun _ => 0) ++ (wI Y a_42 2 (fun _ => 0) ++ (wI Y a_50 9 (fun _ => 0) ++ (wI Y a_58 60 (fun _ => 0) ++ (wI Y a_66 30 (fun _ => 0) ++ wI Y a_74 30 (fun _ => 0)))))))))) → va_S A s.heap H locs → lv_has ls 2 [(1, .int i), (0, .ref mo)] → L_X4_init_110 n_110 i f1 = L_X4_init_110 10 0 T_X4_init_4 → W p l e ({ frames := 1, cells := 9, slots := 3251, locals := 12 } : Room) s m ([.ref mo] : List Value).toArray below meth c H locs 9 3251 (MQ below (Qsv D (fun w9 => ∃ q : Nat → Nat, w9 = wM Y mo q S0_X4) A) ([.ref mo] : List Value).toArray s 9 3251 A) (F0 m 110 ls []) := by
    intro n_110
    induction n_110 with
    | zero => intro k_110 i f1 H locs ls hkf hkN_110 ex_110 hP hD hS hl hR_110; exact absurd hkf (by omega)
    | succ n_110 ih_110 =>
      intro k_110 i f1 H locs ls hkf hkN_110 ex_110 hP hD hS hl hR_110
      refine lv_iload_n hx hb dX4_init_110 rfl (lv_at hl 0 rfl) ?_
      refine lv_bipush (v := 9) hx hb dX4_init_111 (by decide) ?_
      refine lv_icmp_ge (tgt := 143) hx hb dX4_init_113 (by decide) (fun c_1 => ?_) (fun c_1 => ?_)
      · have e8 : L_X4_init_110 (n_110 + 1) i f1 = f1 := by rw [L_X4_init_110, if_pos c_1]
        have e8 := hR_110.symm.trans e8
        have ef1 : L_X4_init_110 10 0 T_X4_init_4 = f1 := by rw [e8]
        clear e8 hR_110 ih_110
        refine lv_iconst (v := 0) hx hb dX4_init_143 (by decide) ?_
        refine lv_istore_n (lv' := [(1, .int 0), (0, .ref mo)]) hx hb dX4_init_144 rfl hl (by decide) rfl (fun ls hl => ?_)
        have loop_145 : ∀ (n_145 k_145 : Nat) (j : Int32) (f2 : Nat → Int32) (H : Heap) (locs : List Loc) (ls : Array Slot), 82 ≤ k_145 + n_145 → k_145 ≤ 81 → j = nI k_145 → va_P D vwCl ([(mo, .inr (4, [.ref a_8, .ref a_17, .ref a_26, .int 0, .ref a_35, .ref a_42, .ref a_50, .ref a_58, .int 0, .int 0, .ref a_66, .ref a_74, .int 0]))] ++ (wI Y a_8 312 f2 ++ (wI Y a_17 312 (fun _ => 0) ++ (wI Y a_26 1872 (fun _ => 0) ++ (wI Y a_35 624 (fun _ => 0) ++ (wI Y a_42 2 (fun _ => 0) ++ (wI Y a_50 9 (fun _ => 0) ++ (wI Y a_58 60 (fun _ => 0) ++ (wI Y a_66 30 (fun _ => 0) ++ wI Y a_74 30 (fun _ => 0)))))))))) H → va_D A ([(mo, .inr (4, [.ref a_8, .ref a_17, .ref a_26, .int 0, .ref a_35, .ref a_42, .ref a_50, .ref a_58, .int 0, .int 0, .ref a_66, .ref a_74, .int 0]))] ++ (wI Y a_8 312 f2 ++ (wI Y a_17 312 (fun _ => 0) ++ (wI Y a_26 1872 (fun _ => 0) ++ (wI Y a_35 624 (fun _ => 0) ++ (wI Y a_42 2 (fun _ => 0) ++ (wI Y a_50 9 (fun _ => 0) ++ (wI Y a_58 60 (fun _ => 0) ++ (wI Y a_66 30 (fun _ => 0) ++ wI Y a_74 30 (fun _ => 0)))))))))) → va_S A s.heap H locs → lv_has ls 2 [(1, .int j), (0, .ref mo)] → L_X4_init_145 f1 n_145 j f2 = L_X4_init_145 f1 82 0 f1 → W p l e ({ frames := 1, cells := 9, slots := 3251, locals := 12 } : Room) s m ([.ref mo] : List Value).toArray below meth c H locs 9 3251 (MQ below (Qsv D (fun w9 => ∃ q : Nat → Nat, w9 = wM Y mo q S0_X4) A) ([.ref mo] : List Value).toArray s 9 3251 A) (F0 m 145 ls []) := by
          intro n_145
          induction n_145 with
          | zero => intro k_145 j f2 H locs ls hkf hkN_145 ex_145 hP hD hS hl hR_145; exact absurd hkf (by omega)
          | succ n_145 ih_145 =>
            intro k_145 j f2 H locs ls hkf hkN_145 ex_145 hP hD hS hl hR_145
            refine lv_iload_n hx hb dX4_init_145 rfl (lv_at hl 0 rfl) ?_
            refine lv_bipush (v := 81) hx hb dX4_init_146 (by decide) ?_
            refine lv_icmp_ge (tgt := 169) hx hb dX4_init_148 (by decide) (fun c_2 => ?_) (fun c_2 => ?_)
            · have e8 : L_X4_init_145 f1 (n_145 + 1) j f2 = f2 := by rw [L_X4_init_145, if_pos c_2]
              have e8 := hR_145.symm.trans e8
              have ef2 : L_X4_init_145 f1 82 0 f1 = f2 := by rw [e8]
              clear e8 hR_145 ih_145
              subst ef2
              subst ef1
              exact ret_v hx hb hr hlk hP hD hS dX4_init_169 ⟨Nat.le_of_ble_eq_true rfl, Nat.le_of_ble_eq_true rfl⟩ ⟨fun k => ([a_8, a_17, a_26, a_35, a_42, a_50, a_58, a_66, a_74] : List Nat).getD k 0, rfl⟩
            · have hk_145 := my_lt ex_145 (show (81 : Int32) = nI 81 from rfl) (by decide) hkN_145 c_2
              refine lv_aload_n hx hb dX4_init_151 rfl (lv_at hl 1 rfl) ?_
              refine va_get (D := D) (ci := 4) (v := .ref a_8) (C := RX4) (T := TX4) (N := 13) hx hb hts in_X4_init_RX4 hown hK.1 hP 0 rfl rfl 0 (by decide) (hts (.fieldLink RX4 7 "NineDancersModel" "all" "[I") (by decide +kernel)) (fun _ h9 => h9) rfl dX4_init_152 ?_
              refine lv_sipush (v := 231) hx hb dX4_init_155 (by decide) ?_
              refine lv_iload_n hx hb dX4_init_158 rfl (lv_at hl 0 rfl) ?_
              refine lv_iadd hx hb dX4_init_159 ?_
              refine lv_ldc (v := (-1000006)) hx hb hown (hts (.constant RX4 37 (-1000006)) (by decide +kernel)) dX4_init_160 ?_
              refine va_iast (D := D) hx hb hK.1 hP hD hS 1 0 rfl rfl (my_off 231 (by rw [ex_145]; exact vp_in_nI hk_145 (by decide)) (Nat.le_refl _) (by decide)) dX4_init_162 (fun H locs hP hD hS => ?_)
              have hP : va_P D vwCl ([(mo, .inr (4, [.ref a_8, .ref a_17, .ref a_26, .int 0, .ref a_35, .ref a_42, .ref a_50, .ref a_58, .int 0, .int 0, .ref a_66, .ref a_74, .int 0]))] ++ (wI Y a_8 312 (T_X4_init_5 j f2) ++ (wI Y a_17 312 (fun _ => 0) ++ (wI Y a_26 1872 (fun _ => 0) ++ (wI Y a_35 624 (fun _ => 0) ++ (wI Y a_42 2 (fun _ => 0) ++ (wI Y a_50 9 (fun _ => 0) ++ (wI Y a_58 60 (fun _ => 0) ++ (wI Y a_66 30 (fun _ => 0) ++ wI Y a_74 30 (fun _ => 0)))))))))) H := hP
              have hD : va_D A ([(mo, .inr (4, [.ref a_8, .ref a_17, .ref a_26, .int 0, .ref a_35, .ref a_42, .ref a_50, .ref a_58, .int 0, .int 0, .ref a_66, .ref a_74, .int 0]))] ++ (wI Y a_8 312 (T_X4_init_5 j f2) ++ (wI Y a_17 312 (fun _ => 0) ++ (wI Y a_26 1872 (fun _ => 0) ++ (wI Y a_35 624 (fun _ => 0) ++ (wI Y a_42 2 (fun _ => 0) ++ (wI Y a_50 9 (fun _ => 0) ++ (wI Y a_58 60 (fun _ => 0) ++ (wI Y a_66 30 (fun _ => 0) ++ wI Y a_74 30 (fun _ => 0)))))))))) := hD
              obtain ⟨S_1, eS_1⟩ : ∃ z9, T_X4_init_5 j f2 = z9 := ⟨_, rfl⟩
              rw [eS_1] at hP hD
              refine lv_iinc (v := j + 1) (lv' := [(1, .int (j + 1)), (0, .ref mo)]) hx hb dX4_init_163 hl (k := 0) rfl rfl (by decide) rfl (fun ls hl => ?_)
              refine lv_goto (tgt := 145) hx hb dX4_init_166 (by decide) ?_
              subst eS_1
              exact ih_145 (k_145 + 1) (j + 1) (T_X4_init_5 j f2) _ _ _ (by omega) (by omega) (by rw [ex_145]; exact nI_1 k_145)  hP hD hS (lv_sub hl [0, 1] rfl) (by rw [L_X4_init_145, if_neg c_2] at hR_145; exact hR_145)
        exact loop_145 82 0 0 f1 _ _ _ (by omega) (Nat.zero_le _) nI_0.symm  hP hD hS (lv_sub hl [0, 1] rfl) rfl
      · have hk_110 := my_lt ex_110 (show (9 : Int32) = nI 9 from rfl) (by decide) hkN_110 c_1
        refine lv_aload_n hx hb dX4_init_116 rfl (lv_at hl 1 rfl) ?_
        refine va_get (D := D) (ci := 4) (v := .ref a_8) (C := RX4) (T := TX4) (N := 13) hx hb hts in_X4_init_RX4 hown hK.1 hP 0 rfl rfl 0 (by decide) (hts (.fieldLink RX4 7 "NineDancersModel" "all" "[I") (by decide +kernel)) (fun _ h9 => h9) rfl dX4_init_117 ?_
        refine lv_bipush (v := 15) hx hb dX4_init_120 (by decide) ?_
        refine lv_iload_n hx hb dX4_init_122 rfl (lv_at hl 0 rfl) ?_
        refine lv_iadd hx hb dX4_init_123 ?_
        refine lv_iconst (v := 1) hx hb dX4_init_124 (by decide) ?_
        refine va_iast (D := D) hx hb hK.1 hP hD hS 1 0 rfl rfl (my_wid (my_off 15 (by rw [ex_110]; exact vp_in_nI hk_110 (by decide)) (Nat.le_refl _) (by decide)) (by decide) (by decide)) dX4_init_125 (fun H locs hP hD hS => ?_)
        have hP : va_P D vwCl ([(mo, .inr (4, [.ref a_8, .ref a_17, .ref a_26, .int 0, .ref a_35, .ref a_42, .ref a_50, .ref a_58, .int 0, .int 0, .ref a_66, .ref a_74, .int 0]))] ++ (wI Y a_8 312 (T_X4_init_6 i f1) ++ (wI Y a_17 312 (fun _ => 0) ++ (wI Y a_26 1872 (fun _ => 0) ++ (wI Y a_35 624 (fun _ => 0) ++ (wI Y a_42 2 (fun _ => 0) ++ (wI Y a_50 9 (fun _ => 0) ++ (wI Y a_58 60 (fun _ => 0) ++ (wI Y a_66 30 (fun _ => 0) ++ wI Y a_74 30 (fun _ => 0)))))))))) H := hP
        have hD : va_D A ([(mo, .inr (4, [.ref a_8, .ref a_17, .ref a_26, .int 0, .ref a_35, .ref a_42, .ref a_50, .ref a_58, .int 0, .int 0, .ref a_66, .ref a_74, .int 0]))] ++ (wI Y a_8 312 (T_X4_init_6 i f1) ++ (wI Y a_17 312 (fun _ => 0) ++ (wI Y a_26 1872 (fun _ => 0) ++ (wI Y a_35 624 (fun _ => 0) ++ (wI Y a_42 2 (fun _ => 0) ++ (wI Y a_50 9 (fun _ => 0) ++ (wI Y a_58 60 (fun _ => 0) ++ (wI Y a_66 30 (fun _ => 0) ++ wI Y a_74 30 (fun _ => 0)))))))))) := hD
        obtain ⟨S_2, eS_2⟩ : ∃ z9, T_X4_init_6 i f1 = z9 := ⟨_, rfl⟩
        rw [eS_2] at hP hD
        refine lv_aload_n hx hb dX4_init_126 rfl (lv_at hl 1 rfl) ?_
        refine va_get (D := D) (ci := 4) (v := .ref a_8) (C := RX4) (T := TX4) (N := 13) hx hb hts in_X4_init_RX4 hown hK.1 hP 0 rfl rfl 0 (by decide) (hts (.fieldLink RX4 7 "NineDancersModel" "all" "[I") (by decide +kernel)) (fun _ h9 => h9) rfl dX4_init_127 ?_
        refine lv_bipush (v := 24) hx hb dX4_init_130 (by decide) ?_
        refine lv_iload_n hx hb dX4_init_132 rfl (lv_at hl 0 rfl) ?_
        refine lv_iadd hx hb dX4_init_133 ?_
        refine lv_bipush (v := 10) hx hb dX4_init_134 (by decide) ?_
        refine va_iast (D := D) hx hb hK.1 hP hD hS 1 0 rfl rfl (my_wid (my_off 24 (by rw [ex_110]; exact vp_in_nI hk_110 (by decide)) (Nat.le_refl _) (by decide)) (by decide) (by decide)) dX4_init_136 (fun H locs hP hD hS => ?_)
        have hP : va_P D vwCl ([(mo, .inr (4, [.ref a_8, .ref a_17, .ref a_26, .int 0, .ref a_35, .ref a_42, .ref a_50, .ref a_58, .int 0, .int 0, .ref a_66, .ref a_74, .int 0]))] ++ (wI Y a_8 312 (T_X4_init_7 i S_2) ++ (wI Y a_17 312 (fun _ => 0) ++ (wI Y a_26 1872 (fun _ => 0) ++ (wI Y a_35 624 (fun _ => 0) ++ (wI Y a_42 2 (fun _ => 0) ++ (wI Y a_50 9 (fun _ => 0) ++ (wI Y a_58 60 (fun _ => 0) ++ (wI Y a_66 30 (fun _ => 0) ++ wI Y a_74 30 (fun _ => 0)))))))))) H := hP
        have hD : va_D A ([(mo, .inr (4, [.ref a_8, .ref a_17, .ref a_26, .int 0, .ref a_35, .ref a_42, .ref a_50, .ref a_58, .int 0, .int 0, .ref a_66, .ref a_74, .int 0]))] ++ (wI Y a_8 312 (T_X4_init_7 i S_2) ++ (wI Y a_17 312 (fun _ => 0) ++ (wI Y a_26 1872 (fun _ => 0) ++ (wI Y a_35 624 (fun _ => 0) ++ (wI Y a_42 2 (fun _ => 0) ++ (wI Y a_50 9 (fun _ => 0) ++ (wI Y a_58 60 (fun _ => 0) ++ (wI Y a_66 30 (fun _ => 0) ++ wI Y a_74 30 (fun _ => 0)))))))))) := hD
        obtain ⟨S_3, eS_3⟩ : ∃ z9, T_X4_init_7 i S_2 = z9 := ⟨_, rfl⟩
        rw [eS_3] at hP hD
        refine lv_iinc (v := i + 1) (lv' := [(1, .int (i + 1)), (0, .ref mo)]) hx hb dX4_init_137 hl (k := 0) rfl rfl (by decide) rfl (fun ls hl => ?_)
        refine lv_goto (tgt := 110) hx hb dX4_init_140 (by decide) ?_
        subst eS_3
        subst eS_2
        exact ih_110 (k_110 + 1) (i + 1) (T_X4_init_7 i (T_X4_init_6 i f1)) _ _ _ (by omega) (by omega) (by rw [ex_110]; exact nI_1 k_110)  hP hD hS (lv_sub hl [0, 1] rfl) (by rw [L_X4_init_110, if_neg c_1] at hR_110; exact hR_110)
  exact loop_110 10 0 0 T_X4_init_4 _ _ _ (by omega) (Nat.zero_le _) nI_0.symm  hP hD hS (lv_sub hl [0, 1] rfl) rfl
def D_X3_save (S : Nat → Nat → Int32) (f : Nat → Option Nat) (sn : Int32) : (Int32) := if (D_X3_isSlot sn) = 0 then (-1000002) else (S 10 1)
set_option maxRecDepth 100000 in
theorem in_X3_save_RX2 : ∀ w ∈ u_ws RX2 TX2 13, w ∈ wsX3_save := by decide +kernel
set_option maxRecDepth 100000 in
theorem in_X3_save_RX3 : ∀ w ∈ u_ws RX3 TX3 5, w ∈ wsX3_save := by decide +kernel
set_option maxHeartbeats 4000000 in
set_option maxRecDepth 100000 in
theorem c_X3_save (l : Launch) (D : va_G) (Y : YY) (sz : Nat) (r : Nat) (tr : Nat) (pp : Nat) (h : Nat) (sl : Nat) (q : Nat → Nat) (S : Nat → Nat → Int32) (f : Nat → Option Nat) (x : Nat) (sn : Int32) (hsl : ∀ j : Nat, f j = none) : Met l yX3_save wsX3_save ({ frames := 3, cells := 11, slots := 313, locals := 82 } : Room) (va_Pc [.ref x, .int sn] (Pst D Y sz (wX x r tr pp h sl ++ (wR Y r q S ++ wA Y sl 2 f)))) ((fun A : Nat → Prop => Qsi D (fun r9 w9 => r9 = D_X3_save S f sn) A) (va_A (wX x r tr pp h sl ++ (wR Y r q S ++ wA Y sl 2 f)) sz)) 11 313 (va_A (wX x r tr pp h sl ++ (wR Y r q S ++ wA Y sl 2 f)) sz) := by
  refine ct_in (cc := cX3_save) (maxL := 3) (ret := (some .int)) (Qc := fun A : Nat → Prop => Qsi D (fun r9 w9 => r9 = D_X3_save S f sn) A) (by decide +kernel) rfl (Nat.le_of_ble_eq_true rfl) ?_
  intro p e s m below meth c A ls hx hb hr hts hown hml hlk hin hsz hA hP hD hK hS hl
  have hown : s.vm.findClass RX3 = some m.cls := hown
  have hl : lv_has ls 3 [(0, .ref x), (1, .int sn)] := hl
  show W p l e ({ frames := 3, cells := 11, slots := 313, locals := 82 } : Room) s m ([.ref x, .int sn] : List Value).toArray below meth c s.heap [] 0 0 (MQ below (Qsi D (fun r9 w9 => r9 = D_X3_save S f sn) A) ([.ref x, .int sn] : List Value).toArray s 11 313 A) (F0 m 0 ls [])
  refine lv_iload_n hx hb dX3_save_0 rfl (lv_at hl 1 rfl) ?_
  refine ck_iD (wr := wX x r tr pp h sl ++ (wR Y r q S ++ wA Y sl 2 f)) (ws' := wX x r tr pp h sl ++ (wR Y r q S ++ wA Y sl 2 f)) (va_runS (As := [.int sn]) (rest := []) ⟨hx, hb, hml, hown, hts⟩ (c_X3_isSlot l D Y s.heap.size sn) (va_cwS 1 hts gX3_save_X3_isSlot rfl rfl rfl (by decide +kernel) ⟨Nat.le_of_ble_eq_true rfl, Nat.le_of_ble_eq_true rfl⟩) (pst_S hK hP hD [] rfl (by decide)) rfl rfl hl.1 rfl (lv_room (Nat.le_of_ble_eq_true rfl)) dX3_save_1 ⟨Nat.zero_le _, Nat.zero_le _⟩) hP hD hS hA [] [0, 1, 2, 3, 4, 5, 6, 7, 8, 9, 10, 11, 12] [0, 1, 2, 3, 4, 5, 6, 7, 8, 9, 10, 11, 12] rfl rfl (by decide) (by decide) rfl (by decide) (fun H locs hP hD hS => ?_)
  refine lv_if_ne (tgt := 10) hx hb dX3_save_4 (by decide) (fun c_1 => ?_) (fun c_1 => ?_)
  · refine lv_aload_n hx hb dX3_save_10 rfl (lv_at hl 0 rfl) ?_
    refine va_get (D := D) (ci := 3) (v := .ref sl) (C := RX3) (T := TX3) (N := 5) hx hb hts in_X3_save_RX3 hown hK.1 hP 0 rfl rfl 4 (by decide) (hts (.fieldLink RX3 33 "NineDancers" "slots" "[LNineDancers$Ring;") (by decide +kernel)) (fun _ h9 => h9) rfl dX3_save_11 ?_
    refine lv_iload_n hx hb dX3_save_14 rfl (lv_at hl 1 rfl) ?_
    refine my_aldq (D := D) hx hb hK.1 hP 12 2 rfl rfl (f3_isSlot c_1) (v := .null) (congrArg va_rf (hsl _)) dX3_save_15 ?_
    refine lv_astore_nN (lv' := [(2, .null), (0, .ref x), (1, .int sn)]) hx hb dX3_save_16 rfl hl (by decide) rfl (fun ls hl => ?_)
    refine lv_aload_nN hx hb dX3_save_17 rfl (lv_at hl 0 rfl) ?_
    refine lv_ifnonnullN hx hb dX3_save_18 ?_
    refine va_new (D := D) (ci := 2) (fs := [.null, .int 0, .null, .null, .null, .null, .null, .null, .null, .null, .null, .int 0, .int 0]) (C := RX2) (T := TX2) (N := 13) hx hb hts in_X3_save_RX2 tyX2 tyX2_ok hown (hts (.classLink RX3 9 RX2) (by decide +kernel)) (hts (.instantiable RX2 13) (by decide +kernel)) (hts (.initialized RX2) (by decide +kernel)) hK.1 hP hD hS hA rfl df_X2 (Nat.le_of_ble_eq_true rfl) (Nat.le_of_ble_eq_true rfl) dX3_save_21 (fun o_21 H hP hD hS => ?_)
    have hP : va_P D vwCl (wX x r tr pp h sl ++ (wR Y r q S ++ (wA Y sl 2 f ++ [(o_21, .inr (2, [.null, .int 0, .null, .null, .null, .null, .null, .null, .null, .null, .null, .int 0, .int 0]))]))) H := hP
    have hD : va_D A (wX x r tr pp h sl ++ (wR Y r q S ++ (wA Y sl 2 f ++ [(o_21, .inr (2, [.null, .int 0, .null, .null, .null, .null, .null, .null, .null, .null, .null, .int 0, .int 0]))]))) := hD
    refine W.widen (k := 1) (n := 13) (Nat.le_of_ble_eq_true rfl) (Nat.le_of_ble_eq_true rfl) ?_
    refine lv_dup hx hb dX3_save_24 rfl ?_
    refine ck_v (wr := wX x r tr pp h sl ++ (wR Y r q S ++ wA Y sl 2 f)) (va_runI (As := []) (rest := [.ref o_21]) ⟨hx, hb, hml, hown, hts⟩ (c_X2_init l D Y H.size o_21) (cwI 0 hts gX3_save_X2_init rfl rfl rfl (hts (.initialized RX2) (by decide +kernel)) (hts (.methodLink RX3 11 yX2_init) (by decide +kernel)) (hts (.instanceMethod yX2_init) (by decide +kernel)) rfl (by decide +kernel) ⟨Nat.le_of_ble_eq_true rfl, Nat.le_of_ble_eq_true rfl⟩) (pst_S hK hP hD [13] rfl (by decide)) rfl rfl hl.1 rfl (lv_room (Nat.le_of_ble_eq_true rfl)) dX3_save_25 ⟨Nat.le_of_ble_eq_true rfl, Nat.le_of_ble_eq_true rfl⟩) hP hD hS hA [13] [0, 1, 2, 3, 4, 5, 6, 7, 8, 9, 10, 11, 12] rfl rfl (by decide) (by decide) (fun w9 H locs hw9 hP hD hS => ?_)
    obtain ⟨q_25, rfl⟩ := hw9
    have hP : va_P D vwCl (wX x r tr pp h sl ++ (wR Y r q S ++ (wA Y sl 2 f ++ wR Y o_21 q_25 S0_X2))) H := hP
    have hD : va_D A (wX x r tr pp h sl ++ (wR Y r q S ++ (wA Y sl 2 f ++ wR Y o_21 q_25 S0_X2))) := hD
    refine W.widen (k := 11) (n := 313) (Nat.le_of_ble_eq_true rfl) (Nat.le_of_ble_eq_true rfl) ?_
    refine lv_astore_n (lv' := [(2, .ref o_21), (0, .ref x), (1, .int sn)]) hx hb dX3_save_28 rfl hl (by decide) rfl (fun ls hl => ?_)
    refine lv_aload_n hx hb dX3_save_29 rfl (lv_at hl 1 rfl) ?_
    refine va_get (D := D) (ci := 3) (v := .ref sl) (C := RX3) (T := TX3) (N := 5) hx hb hts in_X3_save_RX3 hown hK.1 hP 0 rfl rfl 4 (by decide) (hts (.fieldLink RX3 33 "NineDancers" "slots" "[LNineDancers$Ring;") (by decide +kernel)) (fun _ h9 => h9) rfl dX3_save_30 ?_
    refine lv_iload_n hx hb dX3_save_33 rfl (lv_at hl 2 rfl) ?_
    refine lv_aload_n hx hb dX3_save_34 rfl (lv_at hl 0 rfl) ?_
    refine va_astq (D := D) hx hb hK.1 hP hD hS 12 2 13 2 rfl rfl rfl rfl (f3_isSlot c_1) dX3_save_35 (fun H locs hP hD hS => ?_)
    have hP : va_P D vwCl (wX x r tr pp h sl ++ (wR Y r q S ++ (wA Y sl 2 (va_up f sn.toNatClampNeg (some o_21)) ++ wR Y o_21 q_25 S0_X2))) H := hP
    have hD : va_D A (wX x r tr pp h sl ++ (wR Y r q S ++ (wA Y sl 2 (va_up f sn.toNatClampNeg (some o_21)) ++ wR Y o_21 q_25 S0_X2))) := hD
    refine lv_aload_n hx hb dX3_save_36 rfl (lv_at hl 0 rfl) ?_
    refine lv_aload_n hx hb dX3_save_37 rfl (lv_at hl 1 rfl) ?_
    refine va_get (D := D) (ci := 3) (v := .ref r) (C := RX3) (T := TX3) (N := 5) hx hb hts in_X3_save_RX3 hown hK.1 hP 0 rfl rfl 0 (by decide) (hts (.fieldLink RX3 12 "NineDancers" "ring" "LNineDancers$Ring;") (by decide +kernel)) (fun _ h9 => h9) rfl dX3_save_38 ?_
    refine ck_vD (wr := wX x r tr pp h sl ++ wA Y sl 2 (va_up f sn.toNatClampNeg (some o_21))) (ws' := wX x r tr pp h sl ++ (wR Y r q S ++ (wA Y sl 2 (va_up f sn.toNatClampNeg (some o_21)) ++ wR Y o_21 q_25 (D_X2_copyFrom S0_X2 S)))) (va_runV (As := [.ref r]) (rest := []) ⟨hx, hb, hml, hown, hts⟩ (c_X2_copyFrom l D Y H.size q_25 q S0_X2 S o_21 r) (cwV 1 hts gX3_save_X2_copyFrom rfl rfl rfl (by decide +kernel) ⟨Nat.le_of_ble_eq_true rfl, Nat.le_of_ble_eq_true rfl⟩) (pst_V hK hP hD [13, 14, 15, 16, 17, 18, 19, 20, 21, 22, 23, 1, 2, 3, 4, 5, 6, 7, 8, 9, 10, 11] rfl (by decide) (q0 := 0) rfl rfl) rfl rfl hl.1 rfl (lv_room (Nat.le_of_ble_eq_true rfl)) dX3_save_41 ⟨Nat.le_of_ble_eq_true rfl, Nat.le_of_ble_eq_true rfl⟩) hP hD hS hA [13, 14, 15, 16, 17, 18, 19, 20, 21, 22, 23, 1, 2, 3, 4, 5, 6, 7, 8, 9, 10, 11] [0, 12] [0, 13, 14, 15, 16, 17, 18, 19, 20, 21, 22, 23, 1, 2, 3, 4, 5, 6, 7, 8, 9, 10, 11, 12] rfl rfl (by decide) (by decide) rfl (by decide) (fun H locs hP hD hS => ?_)
    obtain ⟨S_1, eS_1⟩ : ∃ z9, (D_X2_copyFrom S0_X2 S) = z9 := ⟨_, rfl⟩
    rw [eS_1] at hP hD
    refine lv_aload_n hx hb dX3_save_44 rfl (lv_at hl 1 rfl) ?_
    refine va_get (D := D) (ci := 3) (v := .ref r) (C := RX3) (T := TX3) (N := 5) hx hb hts in_X3_save_RX3 hown hK.1 hP 0 rfl rfl 0 (by decide) (hts (.fieldLink RX3 12 "NineDancers" "ring" "LNineDancers$Ring;") (by decide +kernel)) (fun _ h9 => h9) rfl dX3_save_45 ?_
    refine va_get (D := D) (ci := 2) (v := .int (S 10 1)) (C := RX2) (T := TX2) (N := 13) hx hb hts in_X3_save_RX2 hown hK.1 hP 1 rfl rfl 11 (by decide) (hts (.fieldLink RX3 75 "NineDancers$Ring" "rounds" "I") (by decide +kernel)) (fun _ h9 => h9) rfl dX3_save_48 ?_
    subst eS_1
    have e9 : D_X3_save S f sn = S 10 1 := by rw [D_X3_save, if_neg c_1]
    exact ret_i hx hb hr hlk hP hD hS dX3_save_51 ⟨Nat.le_of_ble_eq_true rfl, Nat.le_of_ble_eq_true rfl⟩ e9.symm
  · refine lv_ldc (v := (-1000002)) hx hb hown (hts (.constant RX3 37 (-1000002)) (by decide +kernel)) dX3_save_7 ?_
    have e9 : D_X3_save S f sn = (-1000002) := by rw [D_X3_save, if_pos c_1]
    exact ret_i hx hb hr hlk hP hD hS dX3_save_9 ⟨Nat.le_of_ble_eq_true rfl, Nat.le_of_ble_eq_true rfl⟩ e9.symm

section
-- ===== PART A: goes FIRST, ahead of the names: the tables' words, and 'selects' of the private methods out of them =====
/-- a private method of a class that the tables say can be made, by its rows of tables_1 -/
def lw_okq (q : MethodName × Nat) : Prop := (q.1.cls ≠ "java/lang/invoke/MethodHandle" ∧ q.1.cls ≠ "java/lang/invoke/VarHandle") ∧ Cond.instantiable q.1.cls q.2 ∈ tables_1 ∧ Cond.privateMethod q.1 ∈ tables_1 ∧ Cond.instanceMethod q.1 ∈ tables_1
theorem lw_p0 : lw_okq (⟨"NineDancers$History", "dropOldest", "()V"⟩, 2) := ⟨⟨by decide +kernel, by decide +kernel⟩, List.mem_of_getElem? (i := 98) (by decide +kernel), List.mem_of_getElem? (i := 140) (by decide +kernel), List.mem_of_getElem? (i := 141) (by decide +kernel)⟩
theorem lw_p1 : lw_okq (⟨"NineDancers$Ring", "rest", "(I)V"⟩, 13) := ⟨⟨by decide +kernel, by decide +kernel⟩, List.mem_of_getElem? (i := 19) (by decide +kernel), List.mem_of_getElem? (i := 204) (by decide +kernel), List.mem_of_getElem? (i := 205) (by decide +kernel)⟩
theorem lw_p2 : lw_okq (⟨"NineDancers$Ring", "wouldDance", "(II)Z"⟩, 13) := ⟨⟨by decide +kernel, by decide +kernel⟩, List.mem_of_getElem? (i := 19) (by decide +kernel), List.mem_of_getElem? (i := 209) (by decide +kernel), List.mem_of_getElem? (i := 210) (by decide +kernel)⟩
theorem lw_p3 : lw_okq (⟨"NineDancers$Ring", "dance", "(II)V"⟩, 13) := ⟨⟨by decide +kernel, by decide +kernel⟩, List.mem_of_getElem? (i := 19) (by decide +kernel), List.mem_of_getElem? (i := 213) (by decide +kernel), List.mem_of_getElem? (i := 214) (by decide +kernel)⟩
theorem lw_p4 : lw_okq (⟨"NineDancers$Ring", "joyOfEach", "(II)I"⟩, 13) := ⟨⟨by decide +kernel, by decide +kernel⟩, List.mem_of_getElem? (i := 19) (by decide +kernel), List.mem_of_getElem? (i := 217) (by decide +kernel), List.mem_of_getElem? (i := 218) (by decide +kernel)⟩
theorem lw_p5 : lw_okq (⟨"NineDancers$Ring", "takePart", "(II)V"⟩, 13) := ⟨⟨by decide +kernel, by decide +kernel⟩, List.mem_of_getElem? (i := 19) (by decide +kernel), List.mem_of_getElem? (i := 222) (by decide +kernel), List.mem_of_getElem? (i := 223) (by decide +kernel)⟩
theorem lw_p6 : lw_okq (⟨"NineDancers$Ring", "leaveAlone", "(I)V"⟩, 13) := ⟨⟨by decide +kernel, by decide +kernel⟩, List.mem_of_getElem? (i := 19) (by decide +kernel), List.mem_of_getElem? (i := 226) (by decide +kernel), List.mem_of_getElem? (i := 227) (by decide +kernel)⟩
theorem lw_p7 : lw_okq (⟨"NineDancers$Pad", "hasTimes", "(I)Z"⟩, 2) := ⟨⟨by decide +kernel, by decide +kernel⟩, List.mem_of_getElem? (i := 83) (by decide +kernel), List.mem_of_getElem? (i := 260) (by decide +kernel), List.mem_of_getElem? (i := 261) (by decide +kernel)⟩
theorem lw_p8 : lw_okq (⟨"NineDancers", "tellNumbersOfPad", "()I"⟩, 5) := ⟨⟨by decide +kernel, by decide +kernel⟩, List.mem_of_getElem? (i := 11) (by decide +kernel), List.mem_of_getElem? (i := 264) (by decide +kernel), List.mem_of_getElem? (i := 265) (by decide +kernel)⟩
theorem lw_p9 : lw_okq (⟨"NineDancers", "tell", "(II)I"⟩, 5) := ⟨⟨by decide +kernel, by decide +kernel⟩, List.mem_of_getElem? (i := 11) (by decide +kernel), List.mem_of_getElem? (i := 274) (by decide +kernel), List.mem_of_getElem? (i := 275) (by decide +kernel)⟩
theorem lw_p10 : lw_okq (⟨"NineDancers$Ring", "isUnmet", "(II)Z"⟩, 13) := ⟨⟨by decide +kernel, by decide +kernel⟩, List.mem_of_getElem? (i := 19) (by decide +kernel), List.mem_of_getElem? (i := 318) (by decide +kernel), List.mem_of_getElem? (i := 319) (by decide +kernel)⟩
theorem lw_p11 : lw_okq (⟨"NineDancers$Ring", "pairWouldBring", "(III)I"⟩, 13) := ⟨⟨by decide +kernel, by decide +kernel⟩, List.mem_of_getElem? (i := 19) (by decide +kernel), List.mem_of_getElem? (i := 330) (by decide +kernel), List.mem_of_getElem? (i := 331) (by decide +kernel)⟩
theorem lw_p12 : lw_okq (⟨"NineDancers$Ring", "hasUnmetPair", "(I)Z"⟩, 13) := ⟨⟨by decide +kernel, by decide +kernel⟩, List.mem_of_getElem? (i := 19) (by decide +kernel), List.mem_of_getElem? (i := 347) (by decide +kernel), List.mem_of_getElem? (i := 348) (by decide +kernel)⟩
theorem lw_p13 : lw_okq (⟨"NineDancersModel", "changes", "()V"⟩, 13) := ⟨⟨by decide +kernel, by decide +kernel⟩, List.mem_of_getElem? (i := 402) (by decide +kernel), List.mem_of_getElem? (i := 463) (by decide +kernel), List.mem_of_getElem? (i := 464) (by decide +kernel)⟩
theorem lw_p14 : lw_okq (⟨"NineDancersModel", "isThere", "(I)Z"⟩, 13) := ⟨⟨by decide +kernel, by decide +kernel⟩, List.mem_of_getElem? (i := 402) (by decide +kernel), List.mem_of_getElem? (i := 483) (by decide +kernel), List.mem_of_getElem? (i := 484) (by decide +kernel)⟩
theorem lw_p15 : lw_okq (⟨"NineDancersModel", "sum", "(I)I"⟩, 13) := ⟨⟨by decide +kernel, by decide +kernel⟩, List.mem_of_getElem? (i := 402) (by decide +kernel), List.mem_of_getElem? (i := 488) (by decide +kernel), List.mem_of_getElem? (i := 489) (by decide +kernel)⟩
def lw_privs_1 : List (MethodName × Nat) := [(⟨"NineDancers$History", "dropOldest", "()V"⟩, 2), (⟨"NineDancers$Ring", "rest", "(I)V"⟩, 13), (⟨"NineDancers$Ring", "wouldDance", "(II)Z"⟩, 13), (⟨"NineDancers$Ring", "dance", "(II)V"⟩, 13), (⟨"NineDancers$Ring", "joyOfEach", "(II)I"⟩, 13), (⟨"NineDancers$Ring", "takePart", "(II)V"⟩, 13), (⟨"NineDancers$Ring", "leaveAlone", "(I)V"⟩, 13), (⟨"NineDancers$Pad", "hasTimes", "(I)Z"⟩, 2), (⟨"NineDancers", "tellNumbersOfPad", "()I"⟩, 5), (⟨"NineDancers", "tell", "(II)I"⟩, 5), (⟨"NineDancers$Ring", "isUnmet", "(II)Z"⟩, 13), (⟨"NineDancers$Ring", "pairWouldBring", "(III)I"⟩, 13), (⟨"NineDancers$Ring", "hasUnmetPair", "(I)Z"⟩, 13), (⟨"NineDancersModel", "changes", "()V"⟩, 13), (⟨"NineDancersModel", "isThere", "(I)Z"⟩, 13), (⟨"NineDancersModel", "sum", "(I)I"⟩, 13)]
theorem lw_r1 : ∀ q ∈ lw_privs_1, lw_okq q := List.forall_mem_cons.mpr ⟨lw_p0, List.forall_mem_cons.mpr ⟨lw_p1, List.forall_mem_cons.mpr ⟨lw_p2, List.forall_mem_cons.mpr ⟨lw_p3, List.forall_mem_cons.mpr ⟨lw_p4, List.forall_mem_cons.mpr ⟨lw_p5, List.forall_mem_cons.mpr ⟨lw_p6, List.forall_mem_cons.mpr ⟨lw_p7, List.forall_mem_cons.mpr ⟨lw_p8, List.forall_mem_cons.mpr ⟨lw_p9, List.forall_mem_cons.mpr ⟨lw_p10, List.forall_mem_cons.mpr ⟨lw_p11, List.forall_mem_cons.mpr ⟨lw_p12, List.forall_mem_cons.mpr ⟨lw_p13, List.forall_mem_cons.mpr ⟨lw_p14, List.forall_mem_cons.mpr ⟨lw_p15, fun _ h => absurd h List.not_mem_nil⟩⟩⟩⟩⟩⟩⟩⟩⟩⟩⟩⟩⟩⟩⟩⟩
theorem lw_p16 : lw_okq (⟨"NineDancersModel", "round", "(I)I"⟩, 13) := ⟨⟨by decide +kernel, by decide +kernel⟩, List.mem_of_getElem? (i := 402) (by decide +kernel), List.mem_of_getElem? (i := 501) (by decide +kernel), List.mem_of_getElem? (i := 502) (by decide +kernel)⟩
theorem lw_p17 : lw_okq (⟨"NineDancersModel", "dances", "(II)Z"⟩, 13) := ⟨⟨by decide +kernel, by decide +kernel⟩, List.mem_of_getElem? (i := 402) (by decide +kernel), List.mem_of_getElem? (i := 505) (by decide +kernel), List.mem_of_getElem? (i := 506) (by decide +kernel)⟩
theorem lw_p18 : lw_okq (⟨"NineDancersModel", "canDance", "(I)Z"⟩, 13) := ⟨⟨by decide +kernel, by decide +kernel⟩, List.mem_of_getElem? (i := 402) (by decide +kernel), List.mem_of_getElem? (i := 512) (by decide +kernel), List.mem_of_getElem? (i := 513) (by decide +kernel)⟩
theorem lw_p19 : lw_okq (⟨"NineDancersModel", "danced", "(II)V"⟩, 13) := ⟨⟨by decide +kernel, by decide +kernel⟩, List.mem_of_getElem? (i := 402) (by decide +kernel), List.mem_of_getElem? (i := 516) (by decide +kernel), List.mem_of_getElem? (i := 517) (by decide +kernel)⟩
theorem lw_p20 : lw_okq (⟨"NineDancersModel", "joyOf", "(II)I"⟩, 13) := ⟨⟨by decide +kernel, by decide +kernel⟩, List.mem_of_getElem? (i := 402) (by decide +kernel), List.mem_of_getElem? (i := 520) (by decide +kernel), List.mem_of_getElem? (i := 521) (by decide +kernel)⟩
theorem lw_p21 : lw_okq (⟨"NineDancersModel", "rested", "(IZ)V"⟩, 13) := ⟨⟨by decide +kernel, by decide +kernel⟩, List.mem_of_getElem? (i := 402) (by decide +kernel), List.mem_of_getElem? (i := 524) (by decide +kernel), List.mem_of_getElem? (i := 525) (by decide +kernel)⟩
theorem lw_p22 : lw_okq (⟨"NineDancersModel", "metBy", "(I)I"⟩, 13) := ⟨⟨by decide +kernel, by decide +kernel⟩, List.mem_of_getElem? (i := 402) (by decide +kernel), List.mem_of_getElem? (i := 537) (by decide +kernel), List.mem_of_getElem? (i := 538) (by decide +kernel)⟩
theorem lw_p23 : lw_okq (⟨"NineDancersModel", "mostOften", "(I)I"⟩, 13) := ⟨⟨by decide +kernel, by decide +kernel⟩, List.mem_of_getElem? (i := 402) (by decide +kernel), List.mem_of_getElem? (i := 541) (by decide +kernel), List.mem_of_getElem? (i := 542) (by decide +kernel)⟩
theorem lw_p24 : lw_okq (⟨"NineDancersModel", "thoseThere", "()I"⟩, 13) := ⟨⟨by decide +kernel, by decide +kernel⟩, List.mem_of_getElem? (i := 402) (by decide +kernel), List.mem_of_getElem? (i := 557) (by decide +kernel), List.mem_of_getElem? (i := 558) (by decide +kernel)⟩
theorem lw_p25 : lw_okq (⟨"NineDancersModel", "newPairs", "()I"⟩, 13) := ⟨⟨by decide +kernel, by decide +kernel⟩, List.mem_of_getElem? (i := 402) (by decide +kernel), List.mem_of_getElem? (i := 561) (by decide +kernel), List.mem_of_getElem? (i := 562) (by decide +kernel)⟩
theorem lw_p26 : lw_okq (⟨"NineDancersModel", "isNew", "(II)Z"⟩, 13) := ⟨⟨by decide +kernel, by decide +kernel⟩, List.mem_of_getElem? (i := 402) (by decide +kernel), List.mem_of_getElem? (i := 565) (by decide +kernel), List.mem_of_getElem? (i := 566) (by decide +kernel)⟩
theorem lw_p27 : lw_okq (⟨"NineDancersModel", "joyBy", "(I)I"⟩, 13) := ⟨⟨by decide +kernel, by decide +kernel⟩, List.mem_of_getElem? (i := 402) (by decide +kernel), List.mem_of_getElem? (i := 574) (by decide +kernel), List.mem_of_getElem? (i := 575) (by decide +kernel)⟩
theorem lw_p28 : lw_okq (⟨"NineDancersModel", "villagersBy", "(II)I"⟩, 13) := ⟨⟨by decide +kernel, by decide +kernel⟩, List.mem_of_getElem? (i := 402) (by decide +kernel), List.mem_of_getElem? (i := 578) (by decide +kernel), List.mem_of_getElem? (i := 579) (by decide +kernel)⟩
theorem lw_p29 : lw_okq (⟨"NineDancersModel", "keeps", "()V"⟩, 13) := ⟨⟨by decide +kernel, by decide +kernel⟩, List.mem_of_getElem? (i := 402) (by decide +kernel), List.mem_of_getElem? (i := 594) (by decide +kernel), List.mem_of_getElem? (i := 595) (by decide +kernel)⟩
theorem lw_p30 : lw_okq (⟨"NineDancersModel", "comesBack", "()V"⟩, 13) := ⟨⟨by decide +kernel, by decide +kernel⟩, List.mem_of_getElem? (i := 402) (by decide +kernel), List.mem_of_getElem? (i := 598) (by decide +kernel), List.mem_of_getElem? (i := 599) (by decide +kernel)⟩
theorem lw_p31 : lw_okq (⟨"NineDancersModel", "readsCall", "()Z"⟩, 13) := ⟨⟨by decide +kernel, by decide +kernel⟩, List.mem_of_getElem? (i := 402) (by decide +kernel), List.mem_of_getElem? (i := 620) (by decide +kernel), List.mem_of_getElem? (i := 621) (by decide +kernel)⟩
def lw_privs_2 : List (MethodName × Nat) := [(⟨"NineDancersModel", "round", "(I)I"⟩, 13), (⟨"NineDancersModel", "dances", "(II)Z"⟩, 13), (⟨"NineDancersModel", "canDance", "(I)Z"⟩, 13), (⟨"NineDancersModel", "danced", "(II)V"⟩, 13), (⟨"NineDancersModel", "joyOf", "(II)I"⟩, 13), (⟨"NineDancersModel", "rested", "(IZ)V"⟩, 13), (⟨"NineDancersModel", "metBy", "(I)I"⟩, 13), (⟨"NineDancersModel", "mostOften", "(I)I"⟩, 13), (⟨"NineDancersModel", "thoseThere", "()I"⟩, 13), (⟨"NineDancersModel", "newPairs", "()I"⟩, 13), (⟨"NineDancersModel", "isNew", "(II)Z"⟩, 13), (⟨"NineDancersModel", "joyBy", "(I)I"⟩, 13), (⟨"NineDancersModel", "villagersBy", "(II)I"⟩, 13), (⟨"NineDancersModel", "keeps", "()V"⟩, 13), (⟨"NineDancersModel", "comesBack", "()V"⟩, 13), (⟨"NineDancersModel", "readsCall", "()Z"⟩, 13)]
theorem lw_r2 : ∀ q ∈ lw_privs_2, lw_okq q := List.forall_mem_cons.mpr ⟨lw_p16, List.forall_mem_cons.mpr ⟨lw_p17, List.forall_mem_cons.mpr ⟨lw_p18, List.forall_mem_cons.mpr ⟨lw_p19, List.forall_mem_cons.mpr ⟨lw_p20, List.forall_mem_cons.mpr ⟨lw_p21, List.forall_mem_cons.mpr ⟨lw_p22, List.forall_mem_cons.mpr ⟨lw_p23, List.forall_mem_cons.mpr ⟨lw_p24, List.forall_mem_cons.mpr ⟨lw_p25, List.forall_mem_cons.mpr ⟨lw_p26, List.forall_mem_cons.mpr ⟨lw_p27, List.forall_mem_cons.mpr ⟨lw_p28, List.forall_mem_cons.mpr ⟨lw_p29, List.forall_mem_cons.mpr ⟨lw_p30, List.forall_mem_cons.mpr ⟨lw_p31, fun _ h => absurd h List.not_mem_nil⟩⟩⟩⟩⟩⟩⟩⟩⟩⟩⟩⟩⟩⟩⟩⟩
theorem lw_p32 : lw_okq (⟨"NineDancersModel", "number", "()I"⟩, 13) := ⟨⟨by decide +kernel, by decide +kernel⟩, List.mem_of_getElem? (i := 402) (by decide +kernel), List.mem_of_getElem? (i := 624) (by decide +kernel), List.mem_of_getElem? (i := 625) (by decide +kernel)⟩
theorem lw_p33 : lw_okq (⟨"NineDancersModel", "isHere", "(II)Z"⟩, 13) := ⟨⟨by decide +kernel, by decide +kernel⟩, List.mem_of_getElem? (i := 402) (by decide +kernel), List.mem_of_getElem? (i := 628) (by decide +kernel), List.mem_of_getElem? (i := 629) (by decide +kernel)⟩
theorem lw_p34 : lw_okq (⟨"NineDancersModel", "takesOne", "(I)Z"⟩, 13) := ⟨⟨by decide +kernel, by decide +kernel⟩, List.mem_of_getElem? (i := 402) (by decide +kernel), List.mem_of_getElem? (i := 632) (by decide +kernel), List.mem_of_getElem? (i := 633) (by decide +kernel)⟩
def lw_privs_3 : List (MethodName × Nat) := [(⟨"NineDancersModel", "number", "()I"⟩, 13), (⟨"NineDancersModel", "isHere", "(II)Z"⟩, 13), (⟨"NineDancersModel", "takesOne", "(I)Z"⟩, 13)]
theorem lw_r3 : ∀ q ∈ lw_privs_3, lw_okq q := List.forall_mem_cons.mpr ⟨lw_p32, List.forall_mem_cons.mpr ⟨lw_p33, List.forall_mem_cons.mpr ⟨lw_p34, fun _ h => absurd h List.not_mem_nil⟩⟩⟩
def lw_privs : List (MethodName × Nat) := lw_privs_1 ++ (lw_privs_2 ++ (lw_privs_3))
def lw_tbl : List Cond := k2_sels lw_privs ++ tables_1
theorem lw_privs_ok : ∀ q ∈ lw_privs, lw_okq q := by
  show ∀ q ∈ lw_privs_1 ++ (lw_privs_2 ++ (lw_privs_3)), lw_okq q
  exact List.forall_mem_append.mpr ⟨lw_r1, List.forall_mem_append.mpr ⟨lw_r2, lw_r3⟩⟩
-- ===== end of PART A; then your names; then what follows =====
/-! ===== BEGIN words of one list among another's, by their places ===== -/
theorem goodIn_r {big : List Cond} (ws : List Cond) (ps : List Nat) (hp : ws = ps.filterMap (fun i => big[i]?)) (h : ws.all goodWord = true) : GoodIn big ws := by
  intro w hw
  have h1 := List.all_eq_true.mp h w hw
  rw [hp] at hw
  obtain ⟨i, -, hi⟩ := List.mem_filterMap.mp hw
  have hm : w ∈ big := by first | exact List.mem_of_getElem? hi | exact List.getElem?_mem hi
  exact ⟨hm, good_of_word h1⟩
theorem goodIn_app {big a b : List Cond} (ha : GoodIn big a) (hb : GoodIn big b) : GoodIn big (a ++ b) := fun w h => (List.mem_append.mp h).elim (ha w) (hb w)
theorem goodIn_ca {big a b : List Cond} {c : Cond} (ha : GoodIn big (c :: a)) (hb : GoodIn big b) : GoodIn big (c :: (a ++ b)) := fun w h => (List.mem_cons.mp h).elim (fun e => ha w (List.mem_cons.mpr (Or.inl e))) (fun h => (List.mem_append.mp h).elim (fun h => ha w (List.mem_cons.mpr (Or.inr h))) (hb w))
theorem goodIn_sub {big ws : List Cond} (hm : ∀ w ∈ ws, w ∈ big) (h : ws.all goodWord = true) : GoodIn big ws := fun w hw => ⟨hm w hw, good_of_word (List.all_eq_true.mp h w hw)⟩
/-! ===== END ===== -/

/-! ===== BEGIN printed: names, fields, word lists, decode rows ===== -/
def RX0 : String := "NineDancers$History"
def TX0 : u_T := fun k => match k with
  | 0 => ("NineDancers$History", "states", "[LNineDancers$Ring;", true)
  | _ => ("NineDancers$History", "length", "I", false)
def tyX0 : Nat → FieldType := fun k => match k with
  | 0 => .array (.object "NineDancers$Ring")
  | _ => .int
abbrev wsX00 : List Cond := u_ws RX0 TX0 2
theorem nmX0 : ∀ a, a < 2 → ∀ b, b < 2 → a ≠ b → (TX0 a).2.1 ≠ (TX0 b).2.1 := by decide +kernel
theorem tyX0_ok : ∀ k, k < 2 → parseFieldDescriptor (TX0 k).2.2.1 = some (tyX0 k) := by decide +kernel
abbrev cX0_init : ByteArray := prog_2_method_1_code
def yX0_init : MethodName := ⟨RX0, "<init>", "()V"⟩
abbrev cX0_remember : ByteArray := prog_2_method_2_code
def yX0_remember : MethodName := ⟨RX0, "remember", "(LNineDancers$Ring;)V"⟩
abbrev cX0_dropOldest : ByteArray := prog_2_method_3_code
def yX0_dropOldest : MethodName := ⟨RX0, "dropOldest", "()V"⟩
abbrev cX0_takeBackInto : ByteArray := prog_2_method_4_code
def yX0_takeBackInto : MethodName := ⟨RX0, "takeBackInto", "(LNineDancers$Ring;)V"⟩
def RX1 : String := "NineDancers$Pad"
def TX1 : u_T := fun k => match k with
  | 0 => ("NineDancers$Pad", "text", "[C", true)
  | _ => ("NineDancers$Pad", "length", "I", false)
def tyX1 : Nat → FieldType := fun k => match k with
  | 0 => .array .char
  | _ => .int
abbrev wsX10 : List Cond := u_ws RX1 TX1 2
theorem nmX1 : ∀ a, a < 2 → ∀ b, b < 2 → a ≠ b → (TX1 a).2.1 ≠ (TX1 b).2.1 := by decide +kernel
theorem tyX1_ok : ∀ k, k < 2 → parseFieldDescriptor (TX1 k).2.2.1 = some (tyX1 k) := by decide +kernel
abbrev cX1_init : ByteArray := prog_3_method_1_code
def yX1_init : MethodName := ⟨RX1, "<init>", "()V"⟩
abbrev cX1_append : ByteArray := prog_3_method_2_code
def yX1_append : MethodName := ⟨RX1, "append", "(JI)V"⟩
abbrev cX1_empty : ByteArray := prog_3_method_3_code
def yX1_empty : MethodName := ⟨RX1, "empty", "()I"⟩
abbrev cX1_firstFault : ByteArray := prog_3_method_4_code
def yX1_firstFault : MethodName := ⟨RX1, "firstFault", "()I"⟩
abbrev cX1_isDigit : ByteArray := prog_3_method_5_code
def yX1_isDigit : MethodName := ⟨RX1, "isDigit", "(C)Z"⟩
abbrev cX1_canTakeDigit : ByteArray := prog_3_method_6_code
def yX1_canTakeDigit : MethodName := ⟨RX1, "canTakeDigit", "(II)Z"⟩
abbrev cX1_roundsInAll : ByteArray := prog_3_method_7_code
def yX1_roundsInAll : MethodName := ⟨RX1, "roundsInAll", "()I"⟩
abbrev cX1_startsCall : ByteArray := prog_3_method_8_code
def yX1_startsCall : MethodName := ⟨RX1, "startsCall", "(I)Z"⟩
abbrev cX1_hasTimes : ByteArray := prog_3_method_9_code
def yX1_hasTimes : MethodName := ⟨RX1, "hasTimes", "(I)Z"⟩
abbrev cX1_timesAt : ByteArray := prog_3_method_10_code
def yX1_timesAt : MethodName := ⟨RX1, "timesAt", "(I)I"⟩
abbrev cX1_numberAt : ByteArray := prog_3_method_11_code
def yX1_numberAt : MethodName := ⟨RX1, "numberAt", "(I)I"⟩
def RX2 : String := "NineDancers$Ring"
def TX2 : u_T := fun k => match k with
  | 0 => ("NineDancers$Ring", "settings", "[I", true)
  | 1 => ("NineDancers$Ring", "there", "I", false)
  | 2 => ("NineDancers$Ring", "strengths", "[I", true)
  | 3 => ("NineDancers$Ring", "joys", "[I", true)
  | 4 => ("NineDancers$Ring", "roundsDanced", "[I", true)
  | 5 => ("NineDancers$Ring", "roundsRested", "[I", true)
  | 6 => ("NineDancers$Ring", "roundsAlone", "[I", true)
  | 7 => ("NineDancers$Ring", "likings", "[I", true)
  | 8 => ("NineDancers$Ring", "dances", "[I", true)
  | 9 => ("NineDancers$Ring", "lastDances", "[I", true)
  | 10 => ("NineDancers$Ring", "timesTold", "[I", true)
  | 11 => ("NineDancers$Ring", "rounds", "I", false)
  | _ => ("NineDancers$Ring", "lastNumber", "I", false)
def tyX2 : Nat → FieldType := fun k => match k with
  | 0 => .array .int
  | 1 => .int
  | 2 => .array .int
  | 3 => .array .int
  | 4 => .array .int
  | 5 => .array .int
  | 6 => .array .int
  | 7 => .array .int
  | 8 => .array .int
  | 9 => .array .int
  | 10 => .array .int
  | 11 => .int
  | _ => .int
abbrev wsX20 : List Cond := u_ws RX2 TX2 13
theorem nmX2 : ∀ a, a < 13 → ∀ b, b < 13 → a ≠ b → (TX2 a).2.1 ≠ (TX2 b).2.1 := by decide +kernel
theorem tyX2_ok : ∀ k, k < 13 → parseFieldDescriptor (TX2 k).2.2.1 = some (tyX2 k) := by decide +kernel
abbrev cX2_init : ByteArray := prog_4_method_1_code
def yX2_init : MethodName := ⟨RX2, "<init>", "()V"⟩
abbrev cX2_copyFrom : ByteArray := prog_4_method_2_code
def yX2_copyFrom : MethodName := ⟨RX2, "copyFrom", "(LNineDancers$Ring;)V"⟩
abbrev cX2_copyRow : ByteArray := prog_4_method_3_code
def yX2_copyRow : MethodName := ⟨RX2, "copyRow", "([I[I)V"⟩
abbrev cX2_isThere : ByteArray := prog_4_method_4_code
def yX2_isThere : MethodName := ⟨RX2, "isThere", "(I)Z"⟩
abbrev cX2_danceRound : ByteArray := prog_4_method_5_code
def yX2_danceRound : MethodName := ⟨RX2, "danceRound", "(I)I"⟩
abbrev cX2_wouldDance : ByteArray := prog_4_method_6_code
def yX2_wouldDance : MethodName := ⟨RX2, "wouldDance", "(II)Z"⟩
abbrev cX2_dance : ByteArray := prog_4_method_7_code
def yX2_dance : MethodName := ⟨RX2, "dance", "(II)V"⟩
abbrev cX2_joyOfEach : ByteArray := prog_4_method_8_code
def yX2_joyOfEach : MethodName := ⟨RX2, "joyOfEach", "(II)I"⟩
abbrev cX2_takePart : ByteArray := prog_4_method_9_code
def yX2_takePart : MethodName := ⟨RX2, "takePart", "(II)V"⟩
abbrev cX2_leaveAlone : ByteArray := prog_4_method_10_code
def yX2_leaveAlone : MethodName := ⟨RX2, "leaveAlone", "(I)V"⟩
abbrev cX2_rest : ByteArray := prog_4_method_11_code
def yX2_rest : MethodName := ⟨RX2, "rest", "(I)V"⟩
abbrev cX2_dancedWith : ByteArray := prog_4_method_12_code
def yX2_dancedWith : MethodName := ⟨RX2, "dancedWith", "(I)I"⟩
abbrev cX2_mostFrequentPartner : ByteArray := prog_4_method_13_code
def yX2_mostFrequentPartner : MethodName := ⟨RX2, "mostFrequentPartner", "(I)I"⟩
abbrev cX2_isUnmet : ByteArray := prog_4_method_14_code
def yX2_isUnmet : MethodName := ⟨RX2, "isUnmet", "(II)Z"⟩
abbrev cX2_unmetPairs : ByteArray := prog_4_method_15_code
def yX2_unmetPairs : MethodName := ⟨RX2, "unmetPairs", "()I"⟩
abbrev cX2_remaindersWithUnmetPair : ByteArray := prog_4_method_16_code
def yX2_remaindersWithUnmetPair : MethodName := ⟨RX2, "remaindersWithUnmetPair", "()I"⟩
abbrev cX2_hasUnmetPair : ByteArray := prog_4_method_17_code
def yX2_hasUnmetPair : MethodName := ⟨RX2, "hasUnmetPair", "(I)Z"⟩
abbrev cX2_roundsByTrying : ByteArray := prog_4_method_18_code
def yX2_roundsByTrying : MethodName := ⟨RX2, "roundsByTrying", "()I"⟩
abbrev cX2_wouldBring : ByteArray := prog_4_method_19_code
def yX2_wouldBring : MethodName := ⟨RX2, "wouldBring", "(II)I"⟩
abbrev cX2_pairWouldBring : ByteArray := prog_4_method_20_code
def yX2_pairWouldBring : MethodName := ⟨RX2, "pairWouldBring", "(III)I"⟩
def RX3 : String := "NineDancers"
def TX3 : u_T := fun k => match k with
  | 0 => ("NineDancers", "ring", "LNineDancers$Ring;", true)
  | 1 => ("NineDancers", "trial", "LNineDancers$Ring;", true)
  | 2 => ("NineDancers", "pad", "LNineDancers$Pad;", true)
  | 3 => ("NineDancers", "history", "LNineDancers$History;", true)
  | _ => ("NineDancers", "slots", "[LNineDancers$Ring;", true)
def tyX3 : Nat → FieldType := fun k => match k with
  | 0 => .object "NineDancers$Ring"
  | 1 => .object "NineDancers$Ring"
  | 2 => .object "NineDancers$Pad"
  | 3 => .object "NineDancers$History"
  | _ => .array (.object "NineDancers$Ring")
abbrev wsX30 : List Cond := u_ws RX3 TX3 5
theorem nmX3 : ∀ a, a < 5 → ∀ b, b < 5 → a ≠ b → (TX3 a).2.1 ≠ (TX3 b).2.1 := by decide +kernel
theorem tyX3_ok : ∀ k, k < 5 → parseFieldDescriptor (TX3 k).2.2.1 = some (tyX3 k) := by decide +kernel
abbrev cX3_init : ByteArray := prog_1_method_1_code
def yX3_init : MethodName := ⟨RX3, "<init>", "()V"⟩
abbrev cX3_set : ByteArray := prog_1_method_2_code
def yX3_set : MethodName := ⟨RX3, "set", "(II)I"⟩
abbrev cX3_like : ByteArray := prog_1_method_3_code
def yX3_like : MethodName := ⟨RX3, "like", "(III)I"⟩
abbrev cX3_away : ByteArray := prog_1_method_4_code
def yX3_away : MethodName := ⟨RX3, "away", "(IZ)I"⟩
abbrev cX3_call : ByteArray := prog_1_method_5_code
def yX3_call : MethodName := ⟨RX3, "call", "(I)I"⟩
abbrev cX3_read : ByteArray := prog_1_method_6_code
def yX3_read : MethodName := ⟨RX3, "read", "()I"⟩
abbrev cX3_feed : ByteArray := prog_1_method_7_code
def yX3_feed : MethodName := ⟨RX3, "feed", "(II)I"⟩
abbrev cX3_villager : ByteArray := prog_1_method_8_code
def yX3_villager : MethodName := ⟨RX3, "villager", "(II)I"⟩
abbrev cX3_pair : ByteArray := prog_1_method_9_code
def yX3_pair : MethodName := ⟨RX3, "pair", "(III)I"⟩
abbrev cX3_partner : ByteArray := prog_1_method_10_code
def yX3_partner : MethodName := ⟨RX3, "partner", "(II)I"⟩
abbrev cX3_count : ByteArray := prog_1_method_11_code
def yX3_count : MethodName := ⟨RX3, "count", "(I)I"⟩
abbrev cX3_ifCalled : ByteArray := prog_1_method_12_code
def yX3_ifCalled : MethodName := ⟨RX3, "ifCalled", "(II)I"⟩
abbrev cX3_bestCall : ByteArray := prog_1_method_13_code
def yX3_bestCall : MethodName := ⟨RX3, "bestCall", "(I)I"⟩
abbrev cX3_fewestRounds : ByteArray := prog_1_method_14_code
def yX3_fewestRounds : MethodName := ⟨RX3, "fewestRounds", "(I)I"⟩
abbrev cX3_untilAllMet : ByteArray := prog_1_method_15_code
def yX3_untilAllMet : MethodName := ⟨RX3, "untilAllMet", "()I"⟩
abbrev cX3_put : ByteArray := prog_1_method_16_code
def yX3_put : MethodName := ⟨RX3, "put", "(J)I"⟩
abbrev cX3_wipe : ByteArray := prog_1_method_17_code
def yX3_wipe : MethodName := ⟨RX3, "wipe", "()I"⟩
abbrev cX3_fault : ByteArray := prog_1_method_18_code
def yX3_fault : MethodName := ⟨RX3, "fault", "()I"⟩
abbrev cX3_undo : ByteArray := prog_1_method_19_code
def yX3_undo : MethodName := ⟨RX3, "undo", "()I"⟩
abbrev cX3_save : ByteArray := prog_1_method_20_code
def yX3_save : MethodName := ⟨RX3, "save", "(I)I"⟩
abbrev cX3_restore : ByteArray := prog_1_method_21_code
def yX3_restore : MethodName := ⟨RX3, "restore", "(I)I"⟩
abbrev cX3_isVillager : ByteArray := prog_1_method_22_code
def yX3_isVillager : MethodName := ⟨RX3, "isVillager", "(I)Z"⟩
abbrev cX3_isNumber : ByteArray := prog_1_method_23_code
def yX3_isNumber : MethodName := ⟨RX3, "isNumber", "(I)Z"⟩
abbrev cX3_isSlot : ByteArray := prog_1_method_24_code
def yX3_isSlot : MethodName := ⟨RX3, "isSlot", "(I)Z"⟩
abbrev cX3_pairIndex : ByteArray := prog_1_method_25_code
def yX3_pairIndex : MethodName := ⟨RX3, "pairIndex", "(II)I"⟩
abbrev cX3_counterpart : ByteArray := prog_1_method_26_code
def yX3_counterpart : MethodName := ⟨RX3, "counterpart", "(II)I"⟩
abbrev cX3_remainderOf : ByteArray := prog_1_method_27_code
def yX3_remainderOf : MethodName := ⟨RX3, "remainderOf", "(I)I"⟩
abbrev cX3_sumOf : ByteArray := prog_1_method_28_code
def yX3_sumOf : MethodName := ⟨RX3, "sumOf", "([I)I"⟩
abbrev cX3_charactersIn : ByteArray := prog_1_method_29_code
def yX3_charactersIn : MethodName := ⟨RX3, "charactersIn", "(J)I"⟩
abbrev cX3_tellNumbersOfPad : ByteArray := prog_1_method_30_code
def yX3_tellNumbersOfPad : MethodName := ⟨RX3, "tellNumbersOfPad", "()I"⟩
abbrev cX3_tell : ByteArray := prog_1_method_31_code
def yX3_tell : MethodName := ⟨RX3, "tell", "(II)I"⟩
def RX4 : String := "NineDancersModel"
def TX4 : u_T := fun k => match k with
  | 0 => ("NineDancersModel", "all", "[I", true)
  | 1 => ("NineDancersModel", "kept", "[I", true)
  | 2 => ("NineDancersModel", "history", "[I", true)
  | 3 => ("NineDancersModel", "historyLong", "I", false)
  | 4 => ("NineDancersModel", "slots", "[I", true)
  | 5 => ("NineDancersModel", "isSaved", "[I", true)
  | 6 => ("NineDancersModel", "dancing", "[I", true)
  | 7 => ("NineDancersModel", "text", "[I", true)
  | 8 => ("NineDancersModel", "textLong", "I", false)
  | 9 => ("NineDancersModel", "spot", "I", false)
  | 10 => ("NineDancersModel", "times", "[I", true)
  | 11 => ("NineDancersModel", "numbers", "[I", true)
  | _ => ("NineDancersModel", "read", "I", false)
def tyX4 : Nat → FieldType := fun k => match k with
  | 0 => .array .int
  | 1 => .array .int
  | 2 => .array .int
  | 3 => .int
  | 4 => .array .int
  | 5 => .array .int
  | 6 => .array .int
  | 7 => .array .int
  | 8 => .int
  | 9 => .int
  | 10 => .array .int
  | 11 => .array .int
  | _ => .int
abbrev wsX40 : List Cond := u_ws RX4 TX4 13
theorem nmX4 : ∀ a, a < 13 → ∀ b, b < 13 → a ≠ b → (TX4 a).2.1 ≠ (TX4 b).2.1 := by decide +kernel
theorem tyX4_ok : ∀ k, k < 13 → parseFieldDescriptor (TX4 k).2.2.1 = some (tyX4 k) := by decide +kernel
abbrev cX4_init : ByteArray := prog_6_method_1_code
def yX4_init : MethodName := ⟨RX4, "<init>", "()V"⟩
abbrev cX4_in : ByteArray := prog_6_method_3_code
def yX4_in : MethodName := ⟨RX4, "in", "(JJJ)Z"⟩
abbrev cX4_changes : ByteArray := prog_6_method_4_code
def yX4_changes : MethodName := ⟨RX4, "changes", "()V"⟩
abbrev cX4_keeps : ByteArray := prog_6_method_5_code
def yX4_keeps : MethodName := ⟨RX4, "keeps", "()V"⟩
abbrev cX4_comesBack : ByteArray := prog_6_method_6_code
def yX4_comesBack : MethodName := ⟨RX4, "comesBack", "()V"⟩
abbrev cX4_isVillager : ByteArray := prog_6_method_7_code
def yX4_isVillager : MethodName := ⟨RX4, "isVillager", "(I)Z"⟩
abbrev cX4_isNumber : ByteArray := prog_6_method_8_code
def yX4_isNumber : MethodName := ⟨RX4, "isNumber", "(I)Z"⟩
abbrev cX4_pairAt : ByteArray := prog_6_method_9_code
def yX4_pairAt : MethodName := ⟨RX4, "pairAt", "(II)I"⟩
abbrev cX4_partnerBy : ByteArray := prog_6_method_10_code
def yX4_partnerBy : MethodName := ⟨RX4, "partnerBy", "(II)I"⟩
abbrev cX4_isThere : ByteArray := prog_6_method_11_code
def yX4_isThere : MethodName := ⟨RX4, "isThere", "(I)Z"⟩
abbrev cX4_canDance : ByteArray := prog_6_method_12_code
def yX4_canDance : MethodName := ⟨RX4, "canDance", "(I)Z"⟩
abbrev cX4_dances : ByteArray := prog_6_method_13_code
def yX4_dances : MethodName := ⟨RX4, "dances", "(II)Z"⟩
abbrev cX4_joyOf : ByteArray := prog_6_method_14_code
def yX4_joyOf : MethodName := ⟨RX4, "joyOf", "(II)I"⟩
abbrev cX4_danced : ByteArray := prog_6_method_15_code
def yX4_danced : MethodName := ⟨RX4, "danced", "(II)V"⟩
abbrev cX4_rested : ByteArray := prog_6_method_16_code
def yX4_rested : MethodName := ⟨RX4, "rested", "(IZ)V"⟩
abbrev cX4_round : ByteArray := prog_6_method_17_code
def yX4_round : MethodName := ⟨RX4, "round", "(I)I"⟩
abbrev cX4_sum : ByteArray := prog_6_method_18_code
def yX4_sum : MethodName := ⟨RX4, "sum", "(I)I"⟩
abbrev cX4_isNew : ByteArray := prog_6_method_19_code
def yX4_isNew : MethodName := ⟨RX4, "isNew", "(II)Z"⟩
abbrev cX4_newPairs : ByteArray := prog_6_method_20_code
def yX4_newPairs : MethodName := ⟨RX4, "newPairs", "()I"⟩
abbrev cX4_isSetting : ByteArray := prog_6_method_21_code
def yX4_isSetting : MethodName := ⟨RX4, "isSetting", "(II)Z"⟩
abbrev cX4_set : ByteArray := prog_6_method_22_code
def yX4_set : MethodName := ⟨RX4, "set", "(II)I"⟩
abbrev cX4_like : ByteArray := prog_6_method_23_code
def yX4_like : MethodName := ⟨RX4, "like", "(III)I"⟩
abbrev cX4_away : ByteArray := prog_6_method_24_code
def yX4_away : MethodName := ⟨RX4, "away", "(IZ)I"⟩
abbrev cX4_call : ByteArray := prog_6_method_25_code
def yX4_call : MethodName := ⟨RX4, "call", "(I)I"⟩
abbrev cX4_feed : ByteArray := prog_6_method_26_code
def yX4_feed : MethodName := ⟨RX4, "feed", "(II)I"⟩
abbrev cX4_metBy : ByteArray := prog_6_method_27_code
def yX4_metBy : MethodName := ⟨RX4, "metBy", "(I)I"⟩
abbrev cX4_mostOften : ByteArray := prog_6_method_28_code
def yX4_mostOften : MethodName := ⟨RX4, "mostOften", "(I)I"⟩
abbrev cX4_villager : ByteArray := prog_6_method_29_code
def yX4_villager : MethodName := ⟨RX4, "villager", "(II)I"⟩
abbrev cX4_pair : ByteArray := prog_6_method_30_code
def yX4_pair : MethodName := ⟨RX4, "pair", "(III)I"⟩
abbrev cX4_partner : ByteArray := prog_6_method_31_code
def yX4_partner : MethodName := ⟨RX4, "partner", "(II)I"⟩
abbrev cX4_thoseThere : ByteArray := prog_6_method_32_code
def yX4_thoseThere : MethodName := ⟨RX4, "thoseThere", "()I"⟩
abbrev cX4_count : ByteArray := prog_6_method_33_code
def yX4_count : MethodName := ⟨RX4, "count", "(I)I"⟩
abbrev cX4_joyBy : ByteArray := prog_6_method_34_code
def yX4_joyBy : MethodName := ⟨RX4, "joyBy", "(I)I"⟩
abbrev cX4_villagersBy : ByteArray := prog_6_method_35_code
def yX4_villagersBy : MethodName := ⟨RX4, "villagersBy", "(II)I"⟩
abbrev cX4_ifCalled : ByteArray := prog_6_method_36_code
def yX4_ifCalled : MethodName := ⟨RX4, "ifCalled", "(II)I"⟩
abbrev cX4_bestCall : ByteArray := prog_6_method_37_code
def yX4_bestCall : MethodName := ⟨RX4, "bestCall", "(I)I"⟩
abbrev cX4_fewestRounds : ByteArray := prog_6_method_38_code
def yX4_fewestRounds : MethodName := ⟨RX4, "fewestRounds", "(I)I"⟩
abbrev cX4_untilAllMet : ByteArray := prog_6_method_39_code
def yX4_untilAllMet : MethodName := ⟨RX4, "untilAllMet", "()I"⟩
abbrev cX4_charactersOf : ByteArray := prog_6_method_40_code
def yX4_charactersOf : MethodName := ⟨RX4, "charactersOf", "(J)I"⟩
abbrev cX4_put : ByteArray := prog_6_method_41_code
def yX4_put : MethodName := ⟨RX4, "put", "(J)I"⟩
abbrev cX4_wipe : ByteArray := prog_6_method_42_code
def yX4_wipe : MethodName := ⟨RX4, "wipe", "()I"⟩
abbrev cX4_isHere : ByteArray := prog_6_method_43_code
def yX4_isHere : MethodName := ⟨RX4, "isHere", "(II)Z"⟩
abbrev cX4_takesOne : ByteArray := prog_6_method_44_code
def yX4_takesOne : MethodName := ⟨RX4, "takesOne", "(I)Z"⟩
abbrev cX4_number : ByteArray := prog_6_method_45_code
def yX4_number : MethodName := ⟨RX4, "number", "()I"⟩
abbrev cX4_readsCall : ByteArray := prog_6_method_46_code
def yX4_readsCall : MethodName := ⟨RX4, "readsCall", "()Z"⟩
abbrev cX4_fault : ByteArray := prog_6_method_47_code
def yX4_fault : MethodName := ⟨RX4, "fault", "()I"⟩
abbrev cX4_read : ByteArray := prog_6_method_48_code
def yX4_read : MethodName := ⟨RX4, "read", "()I"⟩
abbrev cX4_undo : ByteArray := prog_6_method_49_code
def yX4_undo : MethodName := ⟨RX4, "undo", "()I"⟩
abbrev cX4_isSlot : ByteArray := prog_6_method_50_code
def yX4_isSlot : MethodName := ⟨RX4, "isSlot", "(I)Z"⟩
abbrev cX4_save : ByteArray := prog_6_method_51_code
def yX4_save : MethodName := ⟨RX4, "save", "(I)I"⟩
abbrev cX4_restore : ByteArray := prog_6_method_52_code
def yX4_restore : MethodName := ⟨RX4, "restore", "(I)I"⟩
def RJ6 : String := "java/lang/Integer"
def TJ6 : u_T := fun k => match k with
  | _ => ("", "", "", false)
def tyJ6 : Nat → FieldType := fun k => match k with
  | _ => .int
abbrev wsJ60 : List Cond := u_ws RJ6 TJ6 0
theorem nmJ6 : ∀ a, a < 0 → ∀ b, b < 0 → a ≠ b → (TJ6 a).2.1 ≠ (TJ6 b).2.1 := by decide +kernel
theorem tyJ6_ok : ∀ k, k < 0 → parseFieldDescriptor (TJ6 k).2.2.1 = some (tyJ6 k) := by decide +kernel
abbrev cJ6_bitCount_0f7a4 : ByteArray := prog_7_method_49_code
def yJ6_bitCount_0f7a4 : MethodName := ⟨RJ6, "bitCount", "(I)I"⟩
def RJ9 : String := "java/lang/Math"
def TJ9 : u_T := fun k => match k with
  | _ => ("", "", "", false)
def tyJ9 : Nat → FieldType := fun k => match k with
  | _ => .int
abbrev wsJ90 : List Cond := u_ws RJ9 TJ9 0
theorem nmJ9 : ∀ a, a < 0 → ∀ b, b < 0 → a ≠ b → (TJ9 a).2.1 ≠ (TJ9 b).2.1 := by decide +kernel
theorem tyJ9_ok : ∀ k, k < 0 → parseFieldDescriptor (TJ9 k).2.2.1 = some (tyJ9 k) := by decide +kernel
abbrev cJ9_floorMod_7cf53 : ByteArray := prog_8_method_50_code
def yJ9_floorMod_7cf53 : MethodName := ⟨RJ9, "floorMod", "(II)I"⟩
abbrev cJ9_min_7cf53 : ByteArray := prog_8_method_69_code
def yJ9_min_7cf53 : MethodName := ⟨RJ9, "min", "(II)I"⟩
def RJ10 : String := "java/lang/System"
def TJ10 : u_T := fun k => match k with
  | _ => ("", "", "", false)
def tyJ10 : Nat → FieldType := fun k => match k with
  | _ => .int
abbrev wsJ100 : List Cond := u_ws RJ10 TJ10 0
theorem nmJ10 : ∀ a, a < 0 → ∀ b, b < 0 → a ≠ b → (TJ10 a).2.1 ≠ (TJ10 b).2.1 := by decide +kernel
theorem tyJ10_ok : ∀ k, k < 0 → parseFieldDescriptor (TJ10 k).2.2.1 = some (tyJ10 k) := by decide +kernel
def RJ7 : String := "java/util/Arrays"
def TJ7 : u_T := fun k => match k with
  | _ => ("", "", "", false)
def tyJ7 : Nat → FieldType := fun k => match k with
  | _ => .int
abbrev wsJ70 : List Cond := u_ws RJ7 TJ7 0
theorem nmJ7 : ∀ a, a < 0 → ∀ b, b < 0 → a ≠ b → (TJ7 a).2.1 ≠ (TJ7 b).2.1 := by decide +kernel
theorem tyJ7_ok : ∀ k, k < 0 → parseFieldDescriptor (TJ7 k).2.2.1 = some (tyJ7 k) := by decide +kernel
abbrev cJ7_fill_53178 : ByteArray := prog_10_method_103_code
def yJ7_fill_53178 : MethodName := ⟨RJ7, "fill", "([II)V"⟩
def RL : String := "NineDancersLaw"
abbrev cL_law : ByteArray := code
def yL_law : MethodName := ⟨RL, "law", "([I)Z"⟩
def wsJ7_fill_53178 : List Cond := .code yJ7_fill_53178 cJ7_fill_53178 4 none :: ([])
def wsX2_init : List Cond := .code yX2_init cX2_init 1 none :: ([.methodLink RX2 3 objectInit, .instanceMethod objectInit, .code objectInit ⟨#[0xb1]⟩ 1 none, .arrayClass .int, .fieldLink RX2 9 "NineDancers$Ring" "settings" "[I", .fieldLink RX2 15 "NineDancers$Ring" "there" "I", .fieldLink RX2 19 "NineDancers$Ring" "strengths" "[I", .fieldLink RX2 22 "NineDancers$Ring" "joys" "[I", .fieldLink RX2 25 "NineDancers$Ring" "roundsDanced" "[I", .fieldLink RX2 28 "NineDancers$Ring" "roundsRested" "[I", .fieldLink RX2 31 "NineDancers$Ring" "roundsAlone" "[I", .fieldLink RX2 34 "NineDancers$Ring" "likings" "[I", .fieldLink RX2 37 "NineDancers$Ring" "dances" "[I", .fieldLink RX2 40 "NineDancers$Ring" "lastDances" "[I", .fieldLink RX2 43 "NineDancers$Ring" "timesTold" "[I", .fieldLink RX2 46 "NineDancers$Ring" "rounds" "I", .constant RX2 49 (-1000006), .fieldLink RX2 50 "NineDancers$Ring" "lastNumber" "I", .methodLink RX2 53 yJ7_fill_53178, .static yJ7_fill_53178, .initialized RJ7, .code yJ7_fill_53178 cJ7_fill_53178 4 none] ++ wsX20)
def wsX0_init_r1 : List Cond := [Cond.methodLink RX0 3 objectInit, Cond.instanceMethod objectInit, Cond.code objectInit ⟨#[0xb1]⟩ 1 none, Cond.classLink RX0 9 RX2, Cond.fieldLink RX0 11 "NineDancers$History" "states" "[LNineDancers$Ring;", Cond.fieldLink RX0 17 "NineDancers$History" "length" "I", Cond.instantiable RX2 13, Cond.initialized RX2, Cond.methodLink RX0 21 yX2_init, Cond.instanceMethod yX2_init, Cond.code yX2_init cX2_init 1 none, Cond.methodLink RX2 3 objectInit, Cond.arrayClass .int, Cond.fieldLink RX2 9 "NineDancers$Ring" "settings" "[I", Cond.fieldLink RX2 15 "NineDancers$Ring" "there" "I", Cond.fieldLink RX2 19 "NineDancers$Ring" "strengths" "[I", Cond.fieldLink RX2 22 "NineDancers$Ring" "joys" "[I", Cond.fieldLink RX2 25 "NineDancers$Ring" "roundsDanced" "[I", Cond.fieldLink RX2 28 "NineDancers$Ring" "roundsRested" "[I", Cond.fieldLink RX2 31 "NineDancers$Ring" "roundsAlone" "[I", Cond.fieldLink RX2 34 "NineDancers$Ring" "likings" "[I", Cond.fieldLink RX2 37 "NineDancers$Ring" "dances" "[I", Cond.fieldLink RX2 40 "NineDancers$Ring" "lastDances" "[I", Cond.fieldLink RX2 43 "NineDancers$Ring" "timesTold" "[I"]
def wsX0_init_r2 : List Cond := [Cond.fieldLink RX2 46 "NineDancers$Ring" "rounds" "I", Cond.constant RX2 49 (-1000006), Cond.fieldLink RX2 50 "NineDancers$Ring" "lastNumber" "I", Cond.methodLink RX2 53 yJ7_fill_53178, Cond.static yJ7_fill_53178, Cond.initialized RJ7, Cond.code yJ7_fill_53178 cJ7_fill_53178 4 none]
def wsX0_init : List Cond := .code yX0_init cX0_init 2 none :: ((wsX0_init_r1 ++ wsX0_init_r2) ++ wsX00 ++ wsX20)
def wsX0_dropOldest : List Cond := .code yX0_dropOldest cX0_dropOldest 3 none :: ([.fieldLink RX0 11 "NineDancers$History" "states" "[LNineDancers$Ring;", .fieldLink RX0 17 "NineDancers$History" "length" "I"] ++ wsX00)
def wsX2_copyRow : List Cond := .code yX2_copyRow cX2_copyRow 2 none :: ([.methodLink RX2 63 Lib.Math.min.name, .static Lib.Math.min.name, .initialized "java/lang/Math", .code Lib.Math.min.name Lib.Math.min.code 2 (some .int), .methodLink RX2 69 arraycopyName, .native arraycopyName, .static arraycopyName, .initialized "java/lang/System"])
def wsX2_copyFrom_r1 : List Cond := [Cond.fieldLink RX2 9 "NineDancers$Ring" "settings" "[I", Cond.fieldLink RX2 15 "NineDancers$Ring" "there" "I", Cond.fieldLink RX2 19 "NineDancers$Ring" "strengths" "[I", Cond.fieldLink RX2 22 "NineDancers$Ring" "joys" "[I", Cond.fieldLink RX2 25 "NineDancers$Ring" "roundsDanced" "[I", Cond.fieldLink RX2 28 "NineDancers$Ring" "roundsRested" "[I", Cond.fieldLink RX2 31 "NineDancers$Ring" "roundsAlone" "[I", Cond.fieldLink RX2 34 "NineDancers$Ring" "likings" "[I", Cond.fieldLink RX2 37 "NineDancers$Ring" "dances" "[I", Cond.fieldLink RX2 40 "NineDancers$Ring" "lastDances" "[I", Cond.fieldLink RX2 43 "NineDancers$Ring" "timesTold" "[I", Cond.fieldLink RX2 46 "NineDancers$Ring" "rounds" "I", Cond.fieldLink RX2 50 "NineDancers$Ring" "lastNumber" "I", Cond.methodLink RX2 59 yX2_copyRow, Cond.static yX2_copyRow, Cond.initialized RX2, Cond.code yX2_copyRow cX2_copyRow 2 none, Cond.methodLink RX2 63 Lib.Math.min.name, Cond.static Lib.Math.min.name, Cond.initialized "java/lang/Math", Cond.code Lib.Math.min.name Lib.Math.min.code 2 (some .int), Cond.methodLink RX2 69 arraycopyName, Cond.native arraycopyName, Cond.static arraycopyName]
def wsX2_copyFrom_r2 : List Cond := [Cond.initialized "java/lang/System"]
def wsX2_copyFrom : List Cond := .code yX2_copyFrom cX2_copyFrom 2 none :: ((wsX2_copyFrom_r1 ++ wsX2_copyFrom_r2) ++ wsX20)
def wsX0_remember_r1 : List Cond := [Cond.fieldLink RX0 17 "NineDancers$History" "length" "I", Cond.fieldLink RX0 11 "NineDancers$History" "states" "[LNineDancers$Ring;", Cond.methodLink RX0 22 yX0_dropOldest, Cond.instanceMethod yX0_dropOldest, Cond.selects RX0 yX0_dropOldest yX0_dropOldest, Cond.initialized RX0, Cond.code yX0_dropOldest cX0_dropOldest 3 none, Cond.methodLink RX0 25 yX2_copyFrom, Cond.instanceMethod yX2_copyFrom, Cond.selects RX2 yX2_copyFrom yX2_copyFrom, Cond.initialized RX2, Cond.code yX2_copyFrom cX2_copyFrom 2 none, Cond.fieldLink RX2 9 "NineDancers$Ring" "settings" "[I", Cond.fieldLink RX2 15 "NineDancers$Ring" "there" "I", Cond.fieldLink RX2 19 "NineDancers$Ring" "strengths" "[I", Cond.fieldLink RX2 22 "NineDancers$Ring" "joys" "[I", Cond.fieldLink RX2 25 "NineDancers$Ring" "roundsDanced" "[I", Cond.fieldLink RX2 28 "NineDancers$Ring" "roundsRested" "[I", Cond.fieldLink RX2 31 "NineDancers$Ring" "roundsAlone" "[I", Cond.fieldLink RX2 34 "NineDancers$Ring" "likings" "[I", Cond.fieldLink RX2 37 "NineDancers$Ring" "dances" "[I", Cond.fieldLink RX2 40 "NineDancers$Ring" "lastDances" "[I", Cond.fieldLink RX2 43 "NineDancers$Ring" "timesTold" "[I", Cond.fieldLink RX2 46 "NineDancers$Ring" "rounds" "I"]
def wsX0_remember_r2 : List Cond := [Cond.fieldLink RX2 50 "NineDancers$Ring" "lastNumber" "I", Cond.methodLink RX2 59 yX2_copyRow, Cond.static yX2_copyRow, Cond.code yX2_copyRow cX2_copyRow 2 none, Cond.methodLink RX2 63 Lib.Math.min.name, Cond.static Lib.Math.min.name, Cond.initialized "java/lang/Math", Cond.code Lib.Math.min.name Lib.Math.min.code 2 (some .int), Cond.methodLink RX2 69 arraycopyName, Cond.native arraycopyName, Cond.static arraycopyName, Cond.initialized "java/lang/System"]
def wsX0_remember : List Cond := .code yX0_remember cX0_remember 2 none :: ((wsX0_remember_r1 ++ wsX0_remember_r2) ++ wsX00 ++ wsX20)
def wsX0_takeBackInto_r1 : List Cond := [Cond.fieldLink RX0 17 "NineDancers$History" "length" "I", Cond.fieldLink RX0 11 "NineDancers$History" "states" "[LNineDancers$Ring;", Cond.methodLink RX0 25 yX2_copyFrom, Cond.instanceMethod yX2_copyFrom, Cond.selects RX2 yX2_copyFrom yX2_copyFrom, Cond.initialized RX2, Cond.code yX2_copyFrom cX2_copyFrom 2 none, Cond.fieldLink RX2 9 "NineDancers$Ring" "settings" "[I", Cond.fieldLink RX2 15 "NineDancers$Ring" "there" "I", Cond.fieldLink RX2 19 "NineDancers$Ring" "strengths" "[I", Cond.fieldLink RX2 22 "NineDancers$Ring" "joys" "[I", Cond.fieldLink RX2 25 "NineDancers$Ring" "roundsDanced" "[I", Cond.fieldLink RX2 28 "NineDancers$Ring" "roundsRested" "[I", Cond.fieldLink RX2 31 "NineDancers$Ring" "roundsAlone" "[I", Cond.fieldLink RX2 34 "NineDancers$Ring" "likings" "[I", Cond.fieldLink RX2 37 "NineDancers$Ring" "dances" "[I", Cond.fieldLink RX2 40 "NineDancers$Ring" "lastDances" "[I", Cond.fieldLink RX2 43 "NineDancers$Ring" "timesTold" "[I", Cond.fieldLink RX2 46 "NineDancers$Ring" "rounds" "I", Cond.fieldLink RX2 50 "NineDancers$Ring" "lastNumber" "I", Cond.methodLink RX2 59 yX2_copyRow, Cond.static yX2_copyRow, Cond.code yX2_copyRow cX2_copyRow 2 none, Cond.methodLink RX2 63 Lib.Math.min.name]
def wsX0_takeBackInto_r2 : List Cond := [Cond.static Lib.Math.min.name, Cond.initialized "java/lang/Math", Cond.code Lib.Math.min.name Lib.Math.min.code 2 (some .int), Cond.methodLink RX2 69 arraycopyName, Cond.native arraycopyName, Cond.static arraycopyName, Cond.initialized "java/lang/System"]
def wsX0_takeBackInto : List Cond := .code yX0_takeBackInto cX0_takeBackInto 2 none :: ((wsX0_takeBackInto_r1 ++ wsX0_takeBackInto_r2) ++ wsX00 ++ wsX20)
def wsX1_init : List Cond := .code yX1_init cX1_init 1 none :: ([.methodLink RX1 3 objectInit, .instanceMethod objectInit, .code objectInit ⟨#[0xb1]⟩ 1 none, .arrayClass .char, .fieldLink RX1 9 "NineDancers$Pad" "text" "[C", .fieldLink RX1 15 "NineDancers$Pad" "length" "I"] ++ wsX10)
def wsX1_append : List Cond := .code yX1_append cX1_append 5 none :: ([.fieldLink RX1 15 "NineDancers$Pad" "length" "I", .fieldLink RX1 9 "NineDancers$Pad" "text" "[C", .constantLong RX1 19 (255)] ++ wsX10)
def wsX1_empty : List Cond := .code yX1_empty cX1_empty 2 (some .int) :: ([.fieldLink RX1 15 "NineDancers$Pad" "length" "I"] ++ wsX10)
def wsX1_isDigit : List Cond := .code yX1_isDigit cX1_isDigit 1 (some .boolean) :: ([])
def wsX1_canTakeDigit : List Cond := .code yX1_canTakeDigit cX1_canTakeDigit 2 (some .boolean) :: ([])
def wsX1_firstFault : List Cond := .code yX1_firstFault cX1_firstFault 6 (some .int) :: ([.fieldLink RX1 15 "NineDancers$Pad" "length" "I", .fieldLink RX1 9 "NineDancers$Pad" "text" "[C", .constant RX1 29 (-1000006), .methodLink RX1 21 yX1_isDigit, .static yX1_isDigit, .initialized RX1, .code yX1_isDigit cX1_isDigit 1 (some .boolean), .methodLink RX1 25 yX1_canTakeDigit, .static yX1_canTakeDigit, .code yX1_canTakeDigit cX1_canTakeDigit 2 (some .boolean)] ++ wsX10)
def wsX1_startsCall : List Cond := .code yX1_startsCall cX1_startsCall 2 (some .boolean) :: ([.fieldLink RX1 9 "NineDancers$Pad" "text" "[C"] ++ wsX10)
def wsX1_hasTimes : List Cond := .code yX1_hasTimes cX1_hasTimes 2 (some .boolean) :: ([.fieldLink RX1 15 "NineDancers$Pad" "length" "I", .fieldLink RX1 9 "NineDancers$Pad" "text" "[C"] ++ wsX10)
def wsX1_timesAt : List Cond := .code yX1_timesAt cX1_timesAt 2 (some .int) :: ([.fieldLink RX1 9 "NineDancers$Pad" "text" "[C", .methodLink RX1 38 yX1_hasTimes, .instanceMethod yX1_hasTimes, .selects RX1 yX1_hasTimes yX1_hasTimes, .initialized RX1, .code yX1_hasTimes cX1_hasTimes 2 (some .boolean), .fieldLink RX1 15 "NineDancers$Pad" "length" "I"] ++ wsX10)
def wsX1_roundsInAll : List Cond := .code yX1_roundsInAll cX1_roundsInAll 3 (some .int) :: ([.fieldLink RX1 15 "NineDancers$Pad" "length" "I", .methodLink RX1 30 yX1_startsCall, .instanceMethod yX1_startsCall, .selects RX1 yX1_startsCall yX1_startsCall, .initialized RX1, .code yX1_startsCall cX1_startsCall 2 (some .boolean), .fieldLink RX1 9 "NineDancers$Pad" "text" "[C", .methodLink RX1 34 yX1_timesAt, .instanceMethod yX1_timesAt, .selects RX1 yX1_timesAt yX1_timesAt, .code yX1_timesAt cX1_timesAt 2 (some .int), .methodLink RX1 38 yX1_hasTimes, .instanceMethod yX1_hasTimes, .selects RX1 yX1_hasTimes yX1_hasTimes, .code yX1_hasTimes cX1_hasTimes 2 (some .boolean)] ++ wsX10)
def wsX1_numberAt : List Cond := .code yX1_numberAt cX1_numberAt 5 (some .int) :: ([.fieldLink RX1 15 "NineDancers$Pad" "length" "I", .fieldLink RX1 9 "NineDancers$Pad" "text" "[C", .methodLink RX1 38 yX1_hasTimes, .instanceMethod yX1_hasTimes, .selects RX1 yX1_hasTimes yX1_hasTimes, .initialized RX1, .code yX1_hasTimes cX1_hasTimes 2 (some .boolean), .methodLink RX1 21 yX1_isDigit, .static yX1_isDigit, .code yX1_isDigit cX1_isDigit 1 (some .boolean)] ++ wsX10)
def wsX2_isThere : List Cond := .code yX2_isThere cX2_isThere 2 (some .boolean) :: ([.fieldLink RX2 15 "NineDancers$Ring" "there" "I"] ++ wsX20)
def wsJ9_floorMod_7cf53 : List Cond := .code yJ9_floorMod_7cf53 cJ9_floorMod_7cf53 3 (some .int) :: ([])
def wsX3_remainderOf : List Cond := .code yX3_remainderOf cX3_remainderOf 1 (some .int) :: ([.methodLink RX3 173 yJ9_floorMod_7cf53, .static yJ9_floorMod_7cf53, .initialized RJ9, .code yJ9_floorMod_7cf53 cJ9_floorMod_7cf53 3 (some .int)])
def wsX3_counterpart : List Cond := .code yX3_counterpart cX3_counterpart 2 (some .int) :: ([.methodLink RX3 118 yX3_remainderOf, .static yX3_remainderOf, .initialized RX3, .code yX3_remainderOf cX3_remainderOf 1 (some .int), .methodLink RX3 173 yJ9_floorMod_7cf53, .static yJ9_floorMod_7cf53, .initialized RJ9, .code yJ9_floorMod_7cf53 cJ9_floorMod_7cf53 3 (some .int)])
def wsX2_rest : List Cond := .code yX2_rest cX2_rest 2 none :: ([.fieldLink RX2 28 "NineDancers$Ring" "roundsRested" "[I", .fieldLink RX2 19 "NineDancers$Ring" "strengths" "[I", .fieldLink RX2 9 "NineDancers$Ring" "settings" "[I", .methodLink RX2 63 Lib.Math.min.name, .static Lib.Math.min.name, .initialized "java/lang/Math", .code Lib.Math.min.name Lib.Math.min.code 2 (some .int), .methodLink RX2 97 yX2_isThere, .instanceMethod yX2_isThere, .selects RX2 yX2_isThere yX2_isThere, .initialized RX2, .code yX2_isThere cX2_isThere 2 (some .boolean), .fieldLink RX2 15 "NineDancers$Ring" "there" "I"] ++ wsX20)
def wsX2_wouldDance : List Cond := .code yX2_wouldDance cX2_wouldDance 3 (some .boolean) :: ([.fieldLink RX2 19 "NineDancers$Ring" "strengths" "[I", .fieldLink RX2 9 "NineDancers$Ring" "settings" "[I", .methodLink RX2 97 yX2_isThere, .instanceMethod yX2_isThere, .selects RX2 yX2_isThere yX2_isThere, .initialized RX2, .code yX2_isThere cX2_isThere 2 (some .boolean), .fieldLink RX2 15 "NineDancers$Ring" "there" "I"] ++ wsX20)
def wsX3_pairIndex : List Cond := .code yX3_pairIndex cX3_pairIndex 2 (some .int) :: ([])
def wsX2_joyOfEach : List Cond := .code yX2_joyOfEach cX2_joyOfEach 3 (some .int) :: ([.fieldLink RX2 9 "NineDancers$Ring" "settings" "[I", .fieldLink RX2 34 "NineDancers$Ring" "likings" "[I", .static yX3_pairIndex, .initialized RX3, .code yX3_pairIndex cX3_pairIndex 2 (some .int)] ++ wsX20)
def wsX2_takePart : List Cond := .code yX2_takePart cX2_takePart 3 none :: ([.fieldLink RX2 22 "NineDancers$Ring" "joys" "[I", .fieldLink RX2 19 "NineDancers$Ring" "strengths" "[I", .fieldLink RX2 9 "NineDancers$Ring" "settings" "[I", .fieldLink RX2 25 "NineDancers$Ring" "roundsDanced" "[I"] ++ wsX20)
def wsX2_dance : List Cond := .code yX2_dance cX2_dance 5 none :: ([.fieldLink RX2 37 "NineDancers$Ring" "dances" "[I", .fieldLink RX2 40 "NineDancers$Ring" "lastDances" "[I", .fieldLink RX2 46 "NineDancers$Ring" "rounds" "I", .methodLink RX2 101 yX2_joyOfEach, .instanceMethod yX2_joyOfEach, .selects RX2 yX2_joyOfEach yX2_joyOfEach, .initialized RX2, .code yX2_joyOfEach cX2_joyOfEach 3 (some .int), .fieldLink RX2 9 "NineDancers$Ring" "settings" "[I", .fieldLink RX2 34 "NineDancers$Ring" "likings" "[I", .static yX3_pairIndex, .initialized RX3, .code yX3_pairIndex cX3_pairIndex 2 (some .int), .methodLink RX2 104 yX2_takePart, .instanceMethod yX2_takePart, .selects RX2 yX2_takePart yX2_takePart, .code yX2_takePart cX2_takePart 3 none, .fieldLink RX2 22 "NineDancers$Ring" "joys" "[I", .fieldLink RX2 19 "NineDancers$Ring" "strengths" "[I", .fieldLink RX2 25 "NineDancers$Ring" "roundsDanced" "[I"] ++ wsX20)
def wsX2_leaveAlone : List Cond := .code yX2_leaveAlone cX2_leaveAlone 2 none :: ([.fieldLink RX2 31 "NineDancers$Ring" "roundsAlone" "[I", .methodLink RX2 97 yX2_isThere, .instanceMethod yX2_isThere, .selects RX2 yX2_isThere yX2_isThere, .initialized RX2, .code yX2_isThere cX2_isThere 2 (some .boolean), .fieldLink RX2 15 "NineDancers$Ring" "there" "I", .methodLink RX2 78 yX2_rest, .instanceMethod yX2_rest, .selects RX2 yX2_rest yX2_rest, .code yX2_rest cX2_rest 2 none, .fieldLink RX2 28 "NineDancers$Ring" "roundsRested" "[I", .fieldLink RX2 19 "NineDancers$Ring" "strengths" "[I", .fieldLink RX2 9 "NineDancers$Ring" "settings" "[I", .methodLink RX2 63 Lib.Math.min.name, .static Lib.Math.min.name, .initialized "java/lang/Math", .code Lib.Math.min.name Lib.Math.min.code 2 (some .int)] ++ wsX20)
def wsX2_danceRound_r1 : List Cond := [Cond.fieldLink RX2 43 "NineDancers$Ring" "timesTold" "[I", Cond.fieldLink RX2 50 "NineDancers$Ring" "lastNumber" "I", Cond.fieldLink RX2 46 "NineDancers$Ring" "rounds" "I", Cond.static yX3_counterpart, Cond.initialized RX3, Cond.code yX3_counterpart cX3_counterpart 2 (some .int), Cond.methodLink RX3 118 yX3_remainderOf, Cond.static yX3_remainderOf, Cond.code yX3_remainderOf cX3_remainderOf 1 (some .int), Cond.methodLink RX3 173 yJ9_floorMod_7cf53, Cond.static yJ9_floorMod_7cf53, Cond.initialized RJ9, Cond.code yJ9_floorMod_7cf53 cJ9_floorMod_7cf53 3 (some .int), Cond.methodLink RX2 78 yX2_rest, Cond.instanceMethod yX2_rest, Cond.selects RX2 yX2_rest yX2_rest, Cond.initialized RX2, Cond.code yX2_rest cX2_rest 2 none, Cond.fieldLink RX2 28 "NineDancers$Ring" "roundsRested" "[I", Cond.fieldLink RX2 19 "NineDancers$Ring" "strengths" "[I", Cond.fieldLink RX2 9 "NineDancers$Ring" "settings" "[I", Cond.methodLink RX2 63 Lib.Math.min.name, Cond.static Lib.Math.min.name, Cond.initialized "java/lang/Math"]
def wsX2_danceRound_r2 : List Cond := [Cond.code Lib.Math.min.name Lib.Math.min.code 2 (some .int), Cond.methodLink RX2 97 yX2_isThere, Cond.instanceMethod yX2_isThere, Cond.selects RX2 yX2_isThere yX2_isThere, Cond.code yX2_isThere cX2_isThere 2 (some .boolean), Cond.fieldLink RX2 15 "NineDancers$Ring" "there" "I", Cond.methodLink RX2 82 yX2_wouldDance, Cond.instanceMethod yX2_wouldDance, Cond.selects RX2 yX2_wouldDance yX2_wouldDance, Cond.code yX2_wouldDance cX2_wouldDance 3 (some .boolean), Cond.methodLink RX2 86 yX2_dance, Cond.instanceMethod yX2_dance, Cond.selects RX2 yX2_dance yX2_dance, Cond.code yX2_dance cX2_dance 5 none, Cond.fieldLink RX2 37 "NineDancers$Ring" "dances" "[I", Cond.fieldLink RX2 40 "NineDancers$Ring" "lastDances" "[I", Cond.methodLink RX2 101 yX2_joyOfEach, Cond.instanceMethod yX2_joyOfEach, Cond.selects RX2 yX2_joyOfEach yX2_joyOfEach, Cond.code yX2_joyOfEach cX2_joyOfEach 3 (some .int), Cond.fieldLink RX2 34 "NineDancers$Ring" "likings" "[I", Cond.static yX3_pairIndex, Cond.code yX3_pairIndex cX3_pairIndex 2 (some .int), Cond.methodLink RX2 104 yX2_takePart]
def wsX2_danceRound_r3 : List Cond := [Cond.instanceMethod yX2_takePart, Cond.selects RX2 yX2_takePart yX2_takePart, Cond.code yX2_takePart cX2_takePart 3 none, Cond.fieldLink RX2 22 "NineDancers$Ring" "joys" "[I", Cond.fieldLink RX2 25 "NineDancers$Ring" "roundsDanced" "[I", Cond.methodLink RX2 90 yX2_leaveAlone, Cond.instanceMethod yX2_leaveAlone, Cond.selects RX2 yX2_leaveAlone yX2_leaveAlone, Cond.code yX2_leaveAlone cX2_leaveAlone 2 none, Cond.fieldLink RX2 31 "NineDancers$Ring" "roundsAlone" "[I"]
def wsX2_danceRound : List Cond := .code yX2_danceRound cX2_danceRound 5 (some .int) :: ((wsX2_danceRound_r1 ++ (wsX2_danceRound_r2 ++ wsX2_danceRound_r3)) ++ wsX20)
def wsX2_dancedWith : List Cond := .code yX2_dancedWith cX2_dancedWith 4 (some .int) :: ([.fieldLink RX2 37 "NineDancers$Ring" "dances" "[I", .static yX3_pairIndex, .initialized RX3, .code yX3_pairIndex cX3_pairIndex 2 (some .int)] ++ wsX20)
def wsX2_mostFrequentPartner : List Cond := .code yX2_mostFrequentPartner cX2_mostFrequentPartner 6 (some .int) :: ([.constant RX2 49 (-1000006), .fieldLink RX2 37 "NineDancers$Ring" "dances" "[I", .static yX3_pairIndex, .initialized RX3, .code yX3_pairIndex cX3_pairIndex 2 (some .int)] ++ wsX20)
def wsX2_isUnmet : List Cond := .code yX2_isUnmet cX2_isUnmet 3 (some .boolean) :: ([.fieldLink RX2 37 "NineDancers$Ring" "dances" "[I", .methodLink RX2 97 yX2_isThere, .instanceMethod yX2_isThere, .selects RX2 yX2_isThere yX2_isThere, .initialized RX2, .code yX2_isThere cX2_isThere 2 (some .boolean), .fieldLink RX2 15 "NineDancers$Ring" "there" "I", .static yX3_pairIndex, .initialized RX3, .code yX3_pairIndex cX3_pairIndex 2 (some .int)] ++ wsX20)
def wsX2_unmetPairs : List Cond := .code yX2_unmetPairs cX2_unmetPairs 4 (some .int) :: ([.methodLink RX2 110 yX2_isUnmet, .instanceMethod yX2_isUnmet, .selects RX2 yX2_isUnmet yX2_isUnmet, .initialized RX2, .code yX2_isUnmet cX2_isUnmet 3 (some .boolean), .fieldLink RX2 37 "NineDancers$Ring" "dances" "[I", .methodLink RX2 97 yX2_isThere, .instanceMethod yX2_isThere, .selects RX2 yX2_isThere yX2_isThere, .code yX2_isThere cX2_isThere 2 (some .boolean), .fieldLink RX2 15 "NineDancers$Ring" "there" "I", .static yX3_pairIndex, .initialized RX3, .code yX3_pairIndex cX3_pairIndex 2 (some .int)] ++ wsX20)
def wsX2_hasUnmetPair : List Cond := .code yX2_hasUnmetPair cX2_hasUnmetPair 4 (some .boolean) :: ([.static yX3_counterpart, .initialized RX3, .code yX3_counterpart cX3_counterpart 2 (some .int), .methodLink RX3 118 yX3_remainderOf, .static yX3_remainderOf, .code yX3_remainderOf cX3_remainderOf 1 (some .int), .methodLink RX3 173 yJ9_floorMod_7cf53, .static yJ9_floorMod_7cf53, .initialized RJ9, .code yJ9_floorMod_7cf53 cJ9_floorMod_7cf53 3 (some .int), .methodLink RX2 110 yX2_isUnmet, .instanceMethod yX2_isUnmet, .selects RX2 yX2_isUnmet yX2_isUnmet, .initialized RX2, .code yX2_isUnmet cX2_isUnmet 3 (some .boolean), .fieldLink RX2 37 "NineDancers$Ring" "dances" "[I", .methodLink RX2 97 yX2_isThere, .instanceMethod yX2_isThere, .selects RX2 yX2_isThere yX2_isThere, .code yX2_isThere cX2_isThere 2 (some .boolean), .fieldLink RX2 15 "NineDancers$Ring" "there" "I", .static yX3_pairIndex, .code yX3_pairIndex cX3_pairIndex 2 (some .int)] ++ wsX20)
def wsX2_remaindersWithUnmetPair_r1 : List Cond := [Cond.methodLink RX2 113 yX2_hasUnmetPair, Cond.instanceMethod yX2_hasUnmetPair, Cond.selects RX2 yX2_hasUnmetPair yX2_hasUnmetPair, Cond.initialized RX2, Cond.code yX2_hasUnmetPair cX2_hasUnmetPair 4 (some .boolean), Cond.static yX3_counterpart, Cond.initialized RX3, Cond.code yX3_counterpart cX3_counterpart 2 (some .int), Cond.methodLink RX3 118 yX3_remainderOf, Cond.static yX3_remainderOf, Cond.code yX3_remainderOf cX3_remainderOf 1 (some .int), Cond.methodLink RX3 173 yJ9_floorMod_7cf53, Cond.static yJ9_floorMod_7cf53, Cond.initialized RJ9, Cond.code yJ9_floorMod_7cf53 cJ9_floorMod_7cf53 3 (some .int), Cond.methodLink RX2 110 yX2_isUnmet, Cond.instanceMethod yX2_isUnmet, Cond.selects RX2 yX2_isUnmet yX2_isUnmet, Cond.code yX2_isUnmet cX2_isUnmet 3 (some .boolean), Cond.fieldLink RX2 37 "NineDancers$Ring" "dances" "[I", Cond.methodLink RX2 97 yX2_isThere, Cond.instanceMethod yX2_isThere, Cond.selects RX2 yX2_isThere yX2_isThere, Cond.code yX2_isThere cX2_isThere 2 (some .boolean)]
def wsX2_remaindersWithUnmetPair_r2 : List Cond := [Cond.fieldLink RX2 15 "NineDancers$Ring" "there" "I", Cond.static yX3_pairIndex, Cond.code yX3_pairIndex cX3_pairIndex 2 (some .int)]
def wsX2_remaindersWithUnmetPair : List Cond := .code yX2_remaindersWithUnmetPair cX2_remaindersWithUnmetPair 3 (some .int) :: ((wsX2_remaindersWithUnmetPair_r1 ++ wsX2_remaindersWithUnmetPair_r2) ++ wsX20)
def wsJ6_bitCount_0f7a4 : List Cond := .code yJ6_bitCount_0f7a4 cJ6_bitCount_0f7a4 1 (some .int) :: ([.constant RJ6 265 (1431655765), .constant RJ6 266 (858993459), .constant RJ6 267 (252645135)])
def wsX2_roundsByTrying_r1 : List Cond := [Cond.methodLink RX2 110 yX2_isUnmet, Cond.instanceMethod yX2_isUnmet, Cond.selects RX2 yX2_isUnmet yX2_isUnmet, Cond.initialized RX2, Cond.code yX2_isUnmet cX2_isUnmet 3 (some .boolean), Cond.fieldLink RX2 37 "NineDancers$Ring" "dances" "[I", Cond.methodLink RX2 97 yX2_isThere, Cond.instanceMethod yX2_isThere, Cond.selects RX2 yX2_isThere yX2_isThere, Cond.code yX2_isThere cX2_isThere 2 (some .boolean), Cond.fieldLink RX2 15 "NineDancers$Ring" "there" "I", Cond.static yX3_pairIndex, Cond.initialized RX3, Cond.code yX3_pairIndex cX3_pairIndex 2 (some .int), Cond.static yX3_remainderOf, Cond.code yX3_remainderOf cX3_remainderOf 1 (some .int), Cond.methodLink RX3 173 yJ9_floorMod_7cf53, Cond.static yJ9_floorMod_7cf53, Cond.initialized RJ9, Cond.code yJ9_floorMod_7cf53 cJ9_floorMod_7cf53 3 (some .int), Cond.methodLink RX2 116 yJ6_bitCount_0f7a4, Cond.static yJ6_bitCount_0f7a4, Cond.initialized RJ6, Cond.code yJ6_bitCount_0f7a4 cJ6_bitCount_0f7a4 1 (some .int)]
def wsX2_roundsByTrying_r2 : List Cond := [Cond.constant RJ6 265 (1431655765), Cond.constant RJ6 266 (858993459), Cond.constant RJ6 267 (252645135)]
def wsX2_roundsByTrying : List Cond := .code yX2_roundsByTrying cX2_roundsByTrying 4 (some .int) :: ((wsX2_roundsByTrying_r1 ++ wsX2_roundsByTrying_r2) ++ wsX20)
def wsX2_pairWouldBring_r1 : List Cond := [Cond.fieldLink RX2 15 "NineDancers$Ring" "there" "I", Cond.fieldLink RX2 37 "NineDancers$Ring" "dances" "[I", Cond.methodLink RX2 82 yX2_wouldDance, Cond.instanceMethod yX2_wouldDance, Cond.selects RX2 yX2_wouldDance yX2_wouldDance, Cond.initialized RX2, Cond.code yX2_wouldDance cX2_wouldDance 3 (some .boolean), Cond.fieldLink RX2 19 "NineDancers$Ring" "strengths" "[I", Cond.fieldLink RX2 9 "NineDancers$Ring" "settings" "[I", Cond.methodLink RX2 97 yX2_isThere, Cond.instanceMethod yX2_isThere, Cond.selects RX2 yX2_isThere yX2_isThere, Cond.code yX2_isThere cX2_isThere 2 (some .boolean), Cond.methodLink RX2 116 yJ6_bitCount_0f7a4, Cond.static yJ6_bitCount_0f7a4, Cond.initialized RJ6, Cond.code yJ6_bitCount_0f7a4 cJ6_bitCount_0f7a4 1 (some .int), Cond.constant RJ6 265 (1431655765), Cond.constant RJ6 266 (858993459), Cond.constant RJ6 267 (252645135), Cond.methodLink RX2 101 yX2_joyOfEach, Cond.instanceMethod yX2_joyOfEach, Cond.selects RX2 yX2_joyOfEach yX2_joyOfEach, Cond.code yX2_joyOfEach cX2_joyOfEach 3 (some .int)]
def wsX2_pairWouldBring_r2 : List Cond := [Cond.fieldLink RX2 34 "NineDancers$Ring" "likings" "[I", Cond.static yX3_pairIndex, Cond.initialized RX3, Cond.code yX3_pairIndex cX3_pairIndex 2 (some .int)]
def wsX2_pairWouldBring : List Cond := .code yX2_pairWouldBring cX2_pairWouldBring 5 (some .int) :: ((wsX2_pairWouldBring_r1 ++ wsX2_pairWouldBring_r2) ++ wsX20)
def wsX2_wouldBring_r1 : List Cond := [Cond.static yX3_counterpart, Cond.initialized RX3, Cond.code yX3_counterpart cX3_counterpart 2 (some .int), Cond.methodLink RX3 118 yX3_remainderOf, Cond.static yX3_remainderOf, Cond.code yX3_remainderOf cX3_remainderOf 1 (some .int), Cond.methodLink RX3 173 yJ9_floorMod_7cf53, Cond.static yJ9_floorMod_7cf53, Cond.initialized RJ9, Cond.code yJ9_floorMod_7cf53 cJ9_floorMod_7cf53 3 (some .int), Cond.methodLink RX2 121 yX2_pairWouldBring, Cond.instanceMethod yX2_pairWouldBring, Cond.selects RX2 yX2_pairWouldBring yX2_pairWouldBring, Cond.initialized RX2, Cond.code yX2_pairWouldBring cX2_pairWouldBring 5 (some .int), Cond.fieldLink RX2 15 "NineDancers$Ring" "there" "I", Cond.fieldLink RX2 37 "NineDancers$Ring" "dances" "[I", Cond.methodLink RX2 82 yX2_wouldDance, Cond.instanceMethod yX2_wouldDance, Cond.selects RX2 yX2_wouldDance yX2_wouldDance, Cond.code yX2_wouldDance cX2_wouldDance 3 (some .boolean), Cond.fieldLink RX2 19 "NineDancers$Ring" "strengths" "[I", Cond.fieldLink RX2 9 "NineDancers$Ring" "settings" "[I", Cond.methodLink RX2 97 yX2_isThere]
def wsX2_wouldBring_r2 : List Cond := [Cond.instanceMethod yX2_isThere, Cond.selects RX2 yX2_isThere yX2_isThere, Cond.code yX2_isThere cX2_isThere 2 (some .boolean), Cond.methodLink RX2 116 yJ6_bitCount_0f7a4, Cond.static yJ6_bitCount_0f7a4, Cond.initialized RJ6, Cond.code yJ6_bitCount_0f7a4 cJ6_bitCount_0f7a4 1 (some .int), Cond.constant RJ6 265 (1431655765), Cond.constant RJ6 266 (858993459), Cond.constant RJ6 267 (252645135), Cond.methodLink RX2 101 yX2_joyOfEach, Cond.instanceMethod yX2_joyOfEach, Cond.selects RX2 yX2_joyOfEach yX2_joyOfEach, Cond.code yX2_joyOfEach cX2_joyOfEach 3 (some .int), Cond.fieldLink RX2 34 "NineDancers$Ring" "likings" "[I", Cond.static yX3_pairIndex, Cond.code yX3_pairIndex cX3_pairIndex 2 (some .int)]
def wsX2_wouldBring : List Cond := .code yX2_wouldBring cX2_wouldBring 6 (some .int) :: ((wsX2_wouldBring_r1 ++ wsX2_wouldBring_r2) ++ wsX20)
def wsX3_init_r1 : List Cond := [Cond.methodLink RX3 3 objectInit, Cond.instanceMethod objectInit, Cond.code objectInit ⟨#[0xb1]⟩ 1 none, Cond.classLink RX3 9 RX2, Cond.instantiable RX2 13, Cond.initialized RX2, Cond.fieldLink RX3 12 "NineDancers" "ring" "LNineDancers$Ring;", Cond.fieldLink RX3 16 "NineDancers" "trial" "LNineDancers$Ring;", Cond.classLink RX3 19 RX1, Cond.instantiable RX1 2, Cond.initialized RX1, Cond.fieldLink RX3 22 "NineDancers" "pad" "LNineDancers$Pad;", Cond.classLink RX3 26 RX0, Cond.instantiable RX0 2, Cond.initialized RX0, Cond.fieldLink RX3 29 "NineDancers" "history" "LNineDancers$History;", Cond.fieldLink RX3 33 "NineDancers" "slots" "[LNineDancers$Ring;", Cond.methodLink RX3 11 yX2_init, Cond.instanceMethod yX2_init, Cond.code yX2_init cX2_init 1 none, Cond.methodLink RX2 3 objectInit, Cond.arrayClass .int, Cond.fieldLink RX2 9 "NineDancers$Ring" "settings" "[I", Cond.fieldLink RX2 15 "NineDancers$Ring" "there" "I"]
def wsX3_init_r2 : List Cond := [Cond.fieldLink RX2 19 "NineDancers$Ring" "strengths" "[I", Cond.fieldLink RX2 22 "NineDancers$Ring" "joys" "[I", Cond.fieldLink RX2 25 "NineDancers$Ring" "roundsDanced" "[I", Cond.fieldLink RX2 28 "NineDancers$Ring" "roundsRested" "[I", Cond.fieldLink RX2 31 "NineDancers$Ring" "roundsAlone" "[I", Cond.fieldLink RX2 34 "NineDancers$Ring" "likings" "[I", Cond.fieldLink RX2 37 "NineDancers$Ring" "dances" "[I", Cond.fieldLink RX2 40 "NineDancers$Ring" "lastDances" "[I", Cond.fieldLink RX2 43 "NineDancers$Ring" "timesTold" "[I", Cond.fieldLink RX2 46 "NineDancers$Ring" "rounds" "I", Cond.constant RX2 49 (-1000006), Cond.fieldLink RX2 50 "NineDancers$Ring" "lastNumber" "I", Cond.methodLink RX2 53 yJ7_fill_53178, Cond.static yJ7_fill_53178, Cond.initialized RJ7, Cond.code yJ7_fill_53178 cJ7_fill_53178 4 none, Cond.instanceMethod yX1_init, Cond.code yX1_init cX1_init 1 none, Cond.methodLink RX1 3 objectInit, Cond.arrayClass .char, Cond.fieldLink RX1 9 "NineDancers$Pad" "text" "[C", Cond.fieldLink RX1 15 "NineDancers$Pad" "length" "I", Cond.methodLink RX3 28 yX0_init, Cond.instanceMethod yX0_init]
def wsX3_init_r3 : List Cond := [Cond.code yX0_init cX0_init 2 none, Cond.methodLink RX0 3 objectInit, Cond.classLink RX0 9 RX2, Cond.fieldLink RX0 11 "NineDancers$History" "states" "[LNineDancers$Ring;", Cond.fieldLink RX0 17 "NineDancers$History" "length" "I", Cond.methodLink RX0 21 yX2_init]
def wsX3_init : List Cond := .code yX3_init cX3_init 1 none :: ((wsX3_init_r1 ++ (wsX3_init_r2 ++ wsX3_init_r3)) ++ wsX20 ++ wsX30 ++ wsX10 ++ wsX00)
def wsX3_set_r1 : List Cond := [Cond.constant RX3 37 (-1000002), Cond.fieldLink RX3 29 "NineDancers" "history" "LNineDancers$History;", Cond.fieldLink RX3 12 "NineDancers" "ring" "LNineDancers$Ring;", Cond.fieldLink RX3 42 "NineDancers$Ring" "settings" "[I", Cond.methodLink RX3 38 yX0_remember, Cond.instanceMethod yX0_remember, Cond.selects RX0 yX0_remember yX0_remember, Cond.initialized RX0, Cond.code yX0_remember cX0_remember 2 none, Cond.fieldLink RX0 17 "NineDancers$History" "length" "I", Cond.fieldLink RX0 11 "NineDancers$History" "states" "[LNineDancers$Ring;", Cond.methodLink RX0 22 yX0_dropOldest, Cond.instanceMethod yX0_dropOldest, Cond.selects RX0 yX0_dropOldest yX0_dropOldest, Cond.code yX0_dropOldest cX0_dropOldest 3 none, Cond.methodLink RX0 25 yX2_copyFrom, Cond.instanceMethod yX2_copyFrom, Cond.selects RX2 yX2_copyFrom yX2_copyFrom, Cond.initialized RX2, Cond.code yX2_copyFrom cX2_copyFrom 2 none, Cond.fieldLink RX2 9 "NineDancers$Ring" "settings" "[I", Cond.fieldLink RX2 15 "NineDancers$Ring" "there" "I", Cond.fieldLink RX2 19 "NineDancers$Ring" "strengths" "[I", Cond.fieldLink RX2 22 "NineDancers$Ring" "joys" "[I"]
def wsX3_set_r2 : List Cond := [Cond.fieldLink RX2 25 "NineDancers$Ring" "roundsDanced" "[I", Cond.fieldLink RX2 28 "NineDancers$Ring" "roundsRested" "[I", Cond.fieldLink RX2 31 "NineDancers$Ring" "roundsAlone" "[I", Cond.fieldLink RX2 34 "NineDancers$Ring" "likings" "[I", Cond.fieldLink RX2 37 "NineDancers$Ring" "dances" "[I", Cond.fieldLink RX2 40 "NineDancers$Ring" "lastDances" "[I", Cond.fieldLink RX2 43 "NineDancers$Ring" "timesTold" "[I", Cond.fieldLink RX2 46 "NineDancers$Ring" "rounds" "I", Cond.fieldLink RX2 50 "NineDancers$Ring" "lastNumber" "I", Cond.methodLink RX2 59 yX2_copyRow, Cond.static yX2_copyRow, Cond.code yX2_copyRow cX2_copyRow 2 none, Cond.methodLink RX2 63 Lib.Math.min.name, Cond.static Lib.Math.min.name, Cond.initialized "java/lang/Math", Cond.code Lib.Math.min.name Lib.Math.min.code 2 (some .int), Cond.methodLink RX2 69 arraycopyName, Cond.native arraycopyName, Cond.static arraycopyName, Cond.initialized "java/lang/System"]
def wsX3_set : List Cond := .code yX3_set cX3_set 5 (some .int) :: ((wsX3_set_r1 ++ wsX3_set_r2) ++ wsX30 ++ wsX20 ++ wsX00)
def wsX3_isVillager : List Cond := .code yX3_isVillager cX3_isVillager 1 (some .boolean) :: ([])
def wsX3_like_r1 : List Cond := [Cond.constant RX3 50 (-1000001), Cond.constant RX3 37 (-1000002), Cond.fieldLink RX3 29 "NineDancers" "history" "LNineDancers$History;", Cond.fieldLink RX3 12 "NineDancers" "ring" "LNineDancers$Ring;", Cond.fieldLink RX3 55 "NineDancers$Ring" "likings" "[I", Cond.methodLink RX3 46 yX3_isVillager, Cond.static yX3_isVillager, Cond.initialized RX3, Cond.code yX3_isVillager cX3_isVillager 1 (some .boolean), Cond.methodLink RX3 38 yX0_remember, Cond.instanceMethod yX0_remember, Cond.selects RX0 yX0_remember yX0_remember, Cond.initialized RX0, Cond.code yX0_remember cX0_remember 2 none, Cond.fieldLink RX0 17 "NineDancers$History" "length" "I", Cond.fieldLink RX0 11 "NineDancers$History" "states" "[LNineDancers$Ring;", Cond.methodLink RX0 22 yX0_dropOldest, Cond.instanceMethod yX0_dropOldest, Cond.selects RX0 yX0_dropOldest yX0_dropOldest, Cond.code yX0_dropOldest cX0_dropOldest 3 none, Cond.methodLink RX0 25 yX2_copyFrom, Cond.instanceMethod yX2_copyFrom, Cond.selects RX2 yX2_copyFrom yX2_copyFrom, Cond.initialized RX2]
def wsX3_like_r2 : List Cond := [Cond.code yX2_copyFrom cX2_copyFrom 2 none, Cond.fieldLink RX2 9 "NineDancers$Ring" "settings" "[I", Cond.fieldLink RX2 15 "NineDancers$Ring" "there" "I", Cond.fieldLink RX2 19 "NineDancers$Ring" "strengths" "[I", Cond.fieldLink RX2 22 "NineDancers$Ring" "joys" "[I", Cond.fieldLink RX2 25 "NineDancers$Ring" "roundsDanced" "[I", Cond.fieldLink RX2 28 "NineDancers$Ring" "roundsRested" "[I", Cond.fieldLink RX2 31 "NineDancers$Ring" "roundsAlone" "[I", Cond.fieldLink RX2 34 "NineDancers$Ring" "likings" "[I", Cond.fieldLink RX2 37 "NineDancers$Ring" "dances" "[I", Cond.fieldLink RX2 40 "NineDancers$Ring" "lastDances" "[I", Cond.fieldLink RX2 43 "NineDancers$Ring" "timesTold" "[I", Cond.fieldLink RX2 46 "NineDancers$Ring" "rounds" "I", Cond.fieldLink RX2 50 "NineDancers$Ring" "lastNumber" "I", Cond.methodLink RX2 59 yX2_copyRow, Cond.static yX2_copyRow, Cond.code yX2_copyRow cX2_copyRow 2 none, Cond.methodLink RX2 63 Lib.Math.min.name, Cond.static Lib.Math.min.name, Cond.initialized "java/lang/Math", Cond.code Lib.Math.min.name Lib.Math.min.code 2 (some .int), Cond.methodLink RX2 69 arraycopyName, Cond.native arraycopyName, Cond.static arraycopyName]
def wsX3_like_r3 : List Cond := [Cond.initialized "java/lang/System", Cond.methodLink RX3 51 yX3_pairIndex, Cond.static yX3_pairIndex, Cond.code yX3_pairIndex cX3_pairIndex 2 (some .int)]
def wsX3_like : List Cond := .code yX3_like cX3_like 6 (some .int) :: ((wsX3_like_r1 ++ (wsX3_like_r2 ++ wsX3_like_r3)) ++ wsX30 ++ wsX20 ++ wsX00)
def wsX3_away_r1 : List Cond := [Cond.constant RX3 50 (-1000001), Cond.fieldLink RX3 12 "NineDancers" "ring" "LNineDancers$Ring;", Cond.constant RX3 61 (-1000005), Cond.fieldLink RX3 29 "NineDancers" "history" "LNineDancers$History;", Cond.fieldLink RX3 62 "NineDancers$Ring" "there" "I", Cond.methodLink RX3 46 yX3_isVillager, Cond.static yX3_isVillager, Cond.initialized RX3, Cond.code yX3_isVillager cX3_isVillager 1 (some .boolean), Cond.methodLink RX3 58 yX2_isThere, Cond.instanceMethod yX2_isThere, Cond.selects RX2 yX2_isThere yX2_isThere, Cond.initialized RX2, Cond.code yX2_isThere cX2_isThere 2 (some .boolean), Cond.fieldLink RX2 15 "NineDancers$Ring" "there" "I", Cond.methodLink RX3 38 yX0_remember, Cond.instanceMethod yX0_remember, Cond.selects RX0 yX0_remember yX0_remember, Cond.initialized RX0, Cond.code yX0_remember cX0_remember 2 none, Cond.fieldLink RX0 17 "NineDancers$History" "length" "I", Cond.fieldLink RX0 11 "NineDancers$History" "states" "[LNineDancers$Ring;", Cond.methodLink RX0 22 yX0_dropOldest, Cond.instanceMethod yX0_dropOldest]
def wsX3_away_r2 : List Cond := [Cond.selects RX0 yX0_dropOldest yX0_dropOldest, Cond.code yX0_dropOldest cX0_dropOldest 3 none, Cond.methodLink RX0 25 yX2_copyFrom, Cond.instanceMethod yX2_copyFrom, Cond.selects RX2 yX2_copyFrom yX2_copyFrom, Cond.code yX2_copyFrom cX2_copyFrom 2 none, Cond.fieldLink RX2 9 "NineDancers$Ring" "settings" "[I", Cond.fieldLink RX2 19 "NineDancers$Ring" "strengths" "[I", Cond.fieldLink RX2 22 "NineDancers$Ring" "joys" "[I", Cond.fieldLink RX2 25 "NineDancers$Ring" "roundsDanced" "[I", Cond.fieldLink RX2 28 "NineDancers$Ring" "roundsRested" "[I", Cond.fieldLink RX2 31 "NineDancers$Ring" "roundsAlone" "[I", Cond.fieldLink RX2 34 "NineDancers$Ring" "likings" "[I", Cond.fieldLink RX2 37 "NineDancers$Ring" "dances" "[I", Cond.fieldLink RX2 40 "NineDancers$Ring" "lastDances" "[I", Cond.fieldLink RX2 43 "NineDancers$Ring" "timesTold" "[I", Cond.fieldLink RX2 46 "NineDancers$Ring" "rounds" "I", Cond.fieldLink RX2 50 "NineDancers$Ring" "lastNumber" "I", Cond.methodLink RX2 59 yX2_copyRow, Cond.static yX2_copyRow, Cond.code yX2_copyRow cX2_copyRow 2 none, Cond.methodLink RX2 63 Lib.Math.min.name, Cond.static Lib.Math.min.name, Cond.initialized "java/lang/Math"]
def wsX3_away_r3 : List Cond := [Cond.code Lib.Math.min.name Lib.Math.min.code 2 (some .int), Cond.methodLink RX2 69 arraycopyName, Cond.native arraycopyName, Cond.static arraycopyName, Cond.initialized "java/lang/System", Cond.methodLink RX3 66 yJ6_bitCount_0f7a4, Cond.static yJ6_bitCount_0f7a4, Cond.initialized RJ6, Cond.code yJ6_bitCount_0f7a4 cJ6_bitCount_0f7a4 1 (some .int), Cond.constant RJ6 265 (1431655765), Cond.constant RJ6 266 (858993459), Cond.constant RJ6 267 (252645135)]
def wsX3_away : List Cond := .code yX3_away cX3_away 3 (some .int) :: ((wsX3_away_r1 ++ (wsX3_away_r2 ++ wsX3_away_r3)) ++ wsX30 ++ wsX20 ++ wsX00)
def wsX3_isNumber : List Cond := .code yX3_isNumber cX3_isNumber 1 (some .boolean) :: ([])
def wsX3_call_r1 : List Cond := [Cond.constant RX3 37 (-1000002), Cond.fieldLink RX3 12 "NineDancers" "ring" "LNineDancers$Ring;", Cond.fieldLink RX3 75 "NineDancers$Ring" "rounds" "I", Cond.constant RX3 78 (-1000004), Cond.fieldLink RX3 29 "NineDancers" "history" "LNineDancers$History;", Cond.methodLink RX3 72 yX3_isNumber, Cond.static yX3_isNumber, Cond.initialized RX3, Cond.code yX3_isNumber cX3_isNumber 1 (some .boolean), Cond.methodLink RX3 38 yX0_remember, Cond.instanceMethod yX0_remember, Cond.selects RX0 yX0_remember yX0_remember, Cond.initialized RX0, Cond.code yX0_remember cX0_remember 2 none, Cond.fieldLink RX0 17 "NineDancers$History" "length" "I", Cond.fieldLink RX0 11 "NineDancers$History" "states" "[LNineDancers$Ring;", Cond.methodLink RX0 22 yX0_dropOldest, Cond.instanceMethod yX0_dropOldest, Cond.selects RX0 yX0_dropOldest yX0_dropOldest, Cond.code yX0_dropOldest cX0_dropOldest 3 none, Cond.methodLink RX0 25 yX2_copyFrom, Cond.instanceMethod yX2_copyFrom, Cond.selects RX2 yX2_copyFrom yX2_copyFrom, Cond.initialized RX2]
def wsX3_call_r2 : List Cond := [Cond.code yX2_copyFrom cX2_copyFrom 2 none, Cond.fieldLink RX2 9 "NineDancers$Ring" "settings" "[I", Cond.fieldLink RX2 15 "NineDancers$Ring" "there" "I", Cond.fieldLink RX2 19 "NineDancers$Ring" "strengths" "[I", Cond.fieldLink RX2 22 "NineDancers$Ring" "joys" "[I", Cond.fieldLink RX2 25 "NineDancers$Ring" "roundsDanced" "[I", Cond.fieldLink RX2 28 "NineDancers$Ring" "roundsRested" "[I", Cond.fieldLink RX2 31 "NineDancers$Ring" "roundsAlone" "[I", Cond.fieldLink RX2 34 "NineDancers$Ring" "likings" "[I", Cond.fieldLink RX2 37 "NineDancers$Ring" "dances" "[I", Cond.fieldLink RX2 40 "NineDancers$Ring" "lastDances" "[I", Cond.fieldLink RX2 43 "NineDancers$Ring" "timesTold" "[I", Cond.fieldLink RX2 46 "NineDancers$Ring" "rounds" "I", Cond.fieldLink RX2 50 "NineDancers$Ring" "lastNumber" "I", Cond.methodLink RX2 59 yX2_copyRow, Cond.static yX2_copyRow, Cond.code yX2_copyRow cX2_copyRow 2 none, Cond.methodLink RX2 63 Lib.Math.min.name, Cond.static Lib.Math.min.name, Cond.initialized "java/lang/Math", Cond.code Lib.Math.min.name Lib.Math.min.code 2 (some .int), Cond.methodLink RX2 69 arraycopyName, Cond.native arraycopyName, Cond.static arraycopyName]
def wsX3_call_r3 : List Cond := [Cond.initialized "java/lang/System", Cond.methodLink RX3 79 yX2_danceRound, Cond.instanceMethod yX2_danceRound, Cond.selects RX2 yX2_danceRound yX2_danceRound, Cond.code yX2_danceRound cX2_danceRound 5 (some .int), Cond.static yX3_counterpart, Cond.code yX3_counterpart cX3_counterpart 2 (some .int), Cond.methodLink RX3 118 yX3_remainderOf, Cond.static yX3_remainderOf, Cond.code yX3_remainderOf cX3_remainderOf 1 (some .int), Cond.methodLink RX3 173 yJ9_floorMod_7cf53, Cond.static yJ9_floorMod_7cf53, Cond.initialized RJ9, Cond.code yJ9_floorMod_7cf53 cJ9_floorMod_7cf53 3 (some .int), Cond.methodLink RX2 78 yX2_rest, Cond.instanceMethod yX2_rest, Cond.selects RX2 yX2_rest yX2_rest, Cond.code yX2_rest cX2_rest 2 none, Cond.methodLink RX2 97 yX2_isThere, Cond.instanceMethod yX2_isThere, Cond.selects RX2 yX2_isThere yX2_isThere, Cond.code yX2_isThere cX2_isThere 2 (some .boolean), Cond.methodLink RX2 82 yX2_wouldDance, Cond.instanceMethod yX2_wouldDance]
def wsX3_call_r4 : List Cond := [Cond.selects RX2 yX2_wouldDance yX2_wouldDance, Cond.code yX2_wouldDance cX2_wouldDance 3 (some .boolean), Cond.methodLink RX2 86 yX2_dance, Cond.instanceMethod yX2_dance, Cond.selects RX2 yX2_dance yX2_dance, Cond.code yX2_dance cX2_dance 5 none, Cond.methodLink RX2 101 yX2_joyOfEach, Cond.instanceMethod yX2_joyOfEach, Cond.selects RX2 yX2_joyOfEach yX2_joyOfEach, Cond.code yX2_joyOfEach cX2_joyOfEach 3 (some .int), Cond.static yX3_pairIndex, Cond.code yX3_pairIndex cX3_pairIndex 2 (some .int), Cond.methodLink RX2 104 yX2_takePart, Cond.instanceMethod yX2_takePart, Cond.selects RX2 yX2_takePart yX2_takePart, Cond.code yX2_takePart cX2_takePart 3 none, Cond.methodLink RX2 90 yX2_leaveAlone, Cond.instanceMethod yX2_leaveAlone, Cond.selects RX2 yX2_leaveAlone yX2_leaveAlone, Cond.code yX2_leaveAlone cX2_leaveAlone 2 none]
def wsX3_call : List Cond := .code yX3_call cX3_call 2 (some .int) :: ((wsX3_call_r1 ++ (wsX3_call_r2 ++ (wsX3_call_r3 ++ wsX3_call_r4))) ++ wsX30 ++ wsX20 ++ wsX00)
def wsX3_tell_r1 : List Cond := [Cond.fieldLink RX3 12 "NineDancers" "ring" "LNineDancers$Ring;", Cond.methodLink RX3 79 yX2_danceRound, Cond.instanceMethod yX2_danceRound, Cond.selects RX2 yX2_danceRound yX2_danceRound, Cond.initialized RX2, Cond.code yX2_danceRound cX2_danceRound 5 (some .int), Cond.fieldLink RX2 43 "NineDancers$Ring" "timesTold" "[I", Cond.fieldLink RX2 50 "NineDancers$Ring" "lastNumber" "I", Cond.fieldLink RX2 46 "NineDancers$Ring" "rounds" "I", Cond.static yX3_counterpart, Cond.initialized RX3, Cond.code yX3_counterpart cX3_counterpart 2 (some .int), Cond.methodLink RX3 118 yX3_remainderOf, Cond.static yX3_remainderOf, Cond.code yX3_remainderOf cX3_remainderOf 1 (some .int), Cond.methodLink RX3 173 yJ9_floorMod_7cf53, Cond.static yJ9_floorMod_7cf53, Cond.initialized RJ9, Cond.code yJ9_floorMod_7cf53 cJ9_floorMod_7cf53 3 (some .int), Cond.methodLink RX2 78 yX2_rest, Cond.instanceMethod yX2_rest, Cond.selects RX2 yX2_rest yX2_rest, Cond.code yX2_rest cX2_rest 2 none, Cond.fieldLink RX2 28 "NineDancers$Ring" "roundsRested" "[I"]
def wsX3_tell_r2 : List Cond := [Cond.fieldLink RX2 19 "NineDancers$Ring" "strengths" "[I", Cond.fieldLink RX2 9 "NineDancers$Ring" "settings" "[I", Cond.methodLink RX2 63 Lib.Math.min.name, Cond.static Lib.Math.min.name, Cond.initialized "java/lang/Math", Cond.code Lib.Math.min.name Lib.Math.min.code 2 (some .int), Cond.methodLink RX2 97 yX2_isThere, Cond.instanceMethod yX2_isThere, Cond.selects RX2 yX2_isThere yX2_isThere, Cond.code yX2_isThere cX2_isThere 2 (some .boolean), Cond.fieldLink RX2 15 "NineDancers$Ring" "there" "I", Cond.methodLink RX2 82 yX2_wouldDance, Cond.instanceMethod yX2_wouldDance, Cond.selects RX2 yX2_wouldDance yX2_wouldDance, Cond.code yX2_wouldDance cX2_wouldDance 3 (some .boolean), Cond.methodLink RX2 86 yX2_dance, Cond.instanceMethod yX2_dance, Cond.selects RX2 yX2_dance yX2_dance, Cond.code yX2_dance cX2_dance 5 none, Cond.fieldLink RX2 37 "NineDancers$Ring" "dances" "[I", Cond.fieldLink RX2 40 "NineDancers$Ring" "lastDances" "[I", Cond.methodLink RX2 101 yX2_joyOfEach, Cond.instanceMethod yX2_joyOfEach, Cond.selects RX2 yX2_joyOfEach yX2_joyOfEach]
def wsX3_tell_r3 : List Cond := [Cond.code yX2_joyOfEach cX2_joyOfEach 3 (some .int), Cond.fieldLink RX2 34 "NineDancers$Ring" "likings" "[I", Cond.static yX3_pairIndex, Cond.code yX3_pairIndex cX3_pairIndex 2 (some .int), Cond.methodLink RX2 104 yX2_takePart, Cond.instanceMethod yX2_takePart, Cond.selects RX2 yX2_takePart yX2_takePart, Cond.code yX2_takePart cX2_takePart 3 none, Cond.fieldLink RX2 22 "NineDancers$Ring" "joys" "[I", Cond.fieldLink RX2 25 "NineDancers$Ring" "roundsDanced" "[I", Cond.methodLink RX2 90 yX2_leaveAlone, Cond.instanceMethod yX2_leaveAlone, Cond.selects RX2 yX2_leaveAlone yX2_leaveAlone, Cond.code yX2_leaveAlone cX2_leaveAlone 2 none, Cond.fieldLink RX2 31 "NineDancers$Ring" "roundsAlone" "[I"]
def wsX3_tell : List Cond := .code yX3_tell cX3_tell 5 (some .int) :: ((wsX3_tell_r1 ++ (wsX3_tell_r2 ++ wsX3_tell_r3)) ++ wsX30 ++ wsX20)
def wsX3_tellNumbersOfPad_r1 : List Cond := [Cond.fieldLink RX3 22 "NineDancers" "pad" "LNineDancers$Pad;", Cond.fieldLink RX3 143 "NineDancers$Pad" "length" "I", Cond.methodLink RX3 184 yX1_startsCall, Cond.instanceMethod yX1_startsCall, Cond.selects RX1 yX1_startsCall yX1_startsCall, Cond.initialized RX1, Cond.code yX1_startsCall cX1_startsCall 2 (some .boolean), Cond.fieldLink RX1 9 "NineDancers$Pad" "text" "[C", Cond.methodLink RX3 187 yX1_numberAt, Cond.instanceMethod yX1_numberAt, Cond.selects RX1 yX1_numberAt yX1_numberAt, Cond.code yX1_numberAt cX1_numberAt 5 (some .int), Cond.fieldLink RX1 15 "NineDancers$Pad" "length" "I", Cond.methodLink RX1 38 yX1_hasTimes, Cond.instanceMethod yX1_hasTimes, Cond.selects RX1 yX1_hasTimes yX1_hasTimes, Cond.code yX1_hasTimes cX1_hasTimes 2 (some .boolean), Cond.methodLink RX1 21 yX1_isDigit, Cond.static yX1_isDigit, Cond.code yX1_isDigit cX1_isDigit 1 (some .boolean), Cond.methodLink RX3 190 yX1_timesAt, Cond.instanceMethod yX1_timesAt, Cond.selects RX1 yX1_timesAt yX1_timesAt, Cond.code yX1_timesAt cX1_timesAt 2 (some .int)]
def wsX3_tellNumbersOfPad_r2 : List Cond := [Cond.methodLink RX3 193 yX3_tell, Cond.instanceMethod yX3_tell, Cond.selects RX3 yX3_tell yX3_tell, Cond.initialized RX3, Cond.code yX3_tell cX3_tell 5 (some .int), Cond.fieldLink RX3 12 "NineDancers" "ring" "LNineDancers$Ring;", Cond.methodLink RX3 79 yX2_danceRound, Cond.instanceMethod yX2_danceRound, Cond.selects RX2 yX2_danceRound yX2_danceRound, Cond.initialized RX2, Cond.code yX2_danceRound cX2_danceRound 5 (some .int), Cond.fieldLink RX2 43 "NineDancers$Ring" "timesTold" "[I", Cond.fieldLink RX2 50 "NineDancers$Ring" "lastNumber" "I", Cond.fieldLink RX2 46 "NineDancers$Ring" "rounds" "I", Cond.static yX3_counterpart, Cond.code yX3_counterpart cX3_counterpart 2 (some .int), Cond.methodLink RX3 118 yX3_remainderOf, Cond.static yX3_remainderOf, Cond.code yX3_remainderOf cX3_remainderOf 1 (some .int), Cond.methodLink RX3 173 yJ9_floorMod_7cf53, Cond.static yJ9_floorMod_7cf53, Cond.initialized RJ9, Cond.code yJ9_floorMod_7cf53 cJ9_floorMod_7cf53 3 (some .int), Cond.methodLink RX2 78 yX2_rest]
def wsX3_tellNumbersOfPad_r3 : List Cond := [Cond.instanceMethod yX2_rest, Cond.selects RX2 yX2_rest yX2_rest, Cond.code yX2_rest cX2_rest 2 none, Cond.fieldLink RX2 28 "NineDancers$Ring" "roundsRested" "[I", Cond.fieldLink RX2 19 "NineDancers$Ring" "strengths" "[I", Cond.fieldLink RX2 9 "NineDancers$Ring" "settings" "[I", Cond.methodLink RX2 63 Lib.Math.min.name, Cond.static Lib.Math.min.name, Cond.initialized "java/lang/Math", Cond.code Lib.Math.min.name Lib.Math.min.code 2 (some .int), Cond.methodLink RX2 97 yX2_isThere, Cond.instanceMethod yX2_isThere, Cond.selects RX2 yX2_isThere yX2_isThere, Cond.code yX2_isThere cX2_isThere 2 (some .boolean), Cond.fieldLink RX2 15 "NineDancers$Ring" "there" "I", Cond.methodLink RX2 82 yX2_wouldDance, Cond.instanceMethod yX2_wouldDance, Cond.selects RX2 yX2_wouldDance yX2_wouldDance, Cond.code yX2_wouldDance cX2_wouldDance 3 (some .boolean), Cond.methodLink RX2 86 yX2_dance, Cond.instanceMethod yX2_dance, Cond.selects RX2 yX2_dance yX2_dance, Cond.code yX2_dance cX2_dance 5 none, Cond.fieldLink RX2 37 "NineDancers$Ring" "dances" "[I"]
def wsX3_tellNumbersOfPad_r4 : List Cond := [Cond.fieldLink RX2 40 "NineDancers$Ring" "lastDances" "[I", Cond.methodLink RX2 101 yX2_joyOfEach, Cond.instanceMethod yX2_joyOfEach, Cond.selects RX2 yX2_joyOfEach yX2_joyOfEach, Cond.code yX2_joyOfEach cX2_joyOfEach 3 (some .int), Cond.fieldLink RX2 34 "NineDancers$Ring" "likings" "[I", Cond.static yX3_pairIndex, Cond.code yX3_pairIndex cX3_pairIndex 2 (some .int), Cond.methodLink RX2 104 yX2_takePart, Cond.instanceMethod yX2_takePart, Cond.selects RX2 yX2_takePart yX2_takePart, Cond.code yX2_takePart cX2_takePart 3 none, Cond.fieldLink RX2 22 "NineDancers$Ring" "joys" "[I", Cond.fieldLink RX2 25 "NineDancers$Ring" "roundsDanced" "[I", Cond.methodLink RX2 90 yX2_leaveAlone, Cond.instanceMethod yX2_leaveAlone, Cond.selects RX2 yX2_leaveAlone yX2_leaveAlone, Cond.code yX2_leaveAlone cX2_leaveAlone 2 none, Cond.fieldLink RX2 31 "NineDancers$Ring" "roundsAlone" "[I"]
def wsX3_tellNumbersOfPad : List Cond := .code yX3_tellNumbersOfPad cX3_tellNumbersOfPad 3 (some .int) :: ((wsX3_tellNumbersOfPad_r1 ++ (wsX3_tellNumbersOfPad_r2 ++ (wsX3_tellNumbersOfPad_r3 ++ wsX3_tellNumbersOfPad_r4))) ++ wsX30 ++ wsX10 ++ wsX20)
def wsX3_read_r1 : List Cond := [Cond.fieldLink RX3 22 "NineDancers" "pad" "LNineDancers$Pad;", Cond.constant RX3 86 (-1000006), Cond.constant RX3 87 (-1000003), Cond.fieldLink RX3 12 "NineDancers" "ring" "LNineDancers$Ring;", Cond.fieldLink RX3 75 "NineDancers$Ring" "rounds" "I", Cond.constant RX3 78 (-1000004), Cond.fieldLink RX3 29 "NineDancers" "history" "LNineDancers$History;", Cond.methodLink RX3 82 yX1_firstFault, Cond.instanceMethod yX1_firstFault, Cond.selects RX1 yX1_firstFault yX1_firstFault, Cond.initialized RX1, Cond.code yX1_firstFault cX1_firstFault 6 (some .int), Cond.fieldLink RX1 15 "NineDancers$Pad" "length" "I", Cond.fieldLink RX1 9 "NineDancers$Pad" "text" "[C", Cond.constant RX1 29 (-1000006), Cond.methodLink RX1 21 yX1_isDigit, Cond.static yX1_isDigit, Cond.code yX1_isDigit cX1_isDigit 1 (some .boolean), Cond.methodLink RX1 25 yX1_canTakeDigit, Cond.static yX1_canTakeDigit, Cond.code yX1_canTakeDigit cX1_canTakeDigit 2 (some .boolean), Cond.methodLink RX3 88 yX1_roundsInAll, Cond.instanceMethod yX1_roundsInAll, Cond.selects RX1 yX1_roundsInAll yX1_roundsInAll]
def wsX3_read_r2 : List Cond := [Cond.code yX1_roundsInAll cX1_roundsInAll 3 (some .int), Cond.methodLink RX1 30 yX1_startsCall, Cond.instanceMethod yX1_startsCall, Cond.selects RX1 yX1_startsCall yX1_startsCall, Cond.code yX1_startsCall cX1_startsCall 2 (some .boolean), Cond.methodLink RX1 34 yX1_timesAt, Cond.instanceMethod yX1_timesAt, Cond.selects RX1 yX1_timesAt yX1_timesAt, Cond.code yX1_timesAt cX1_timesAt 2 (some .int), Cond.methodLink RX1 38 yX1_hasTimes, Cond.instanceMethod yX1_hasTimes, Cond.selects RX1 yX1_hasTimes yX1_hasTimes, Cond.code yX1_hasTimes cX1_hasTimes 2 (some .boolean), Cond.methodLink RX3 38 yX0_remember, Cond.instanceMethod yX0_remember, Cond.selects RX0 yX0_remember yX0_remember, Cond.initialized RX0, Cond.code yX0_remember cX0_remember 2 none, Cond.fieldLink RX0 17 "NineDancers$History" "length" "I", Cond.fieldLink RX0 11 "NineDancers$History" "states" "[LNineDancers$Ring;", Cond.methodLink RX0 22 yX0_dropOldest, Cond.instanceMethod yX0_dropOldest, Cond.selects RX0 yX0_dropOldest yX0_dropOldest, Cond.code yX0_dropOldest cX0_dropOldest 3 none]
def wsX3_read_r3 : List Cond := [Cond.methodLink RX0 25 yX2_copyFrom, Cond.instanceMethod yX2_copyFrom, Cond.selects RX2 yX2_copyFrom yX2_copyFrom, Cond.initialized RX2, Cond.code yX2_copyFrom cX2_copyFrom 2 none, Cond.fieldLink RX2 9 "NineDancers$Ring" "settings" "[I", Cond.fieldLink RX2 15 "NineDancers$Ring" "there" "I", Cond.fieldLink RX2 19 "NineDancers$Ring" "strengths" "[I", Cond.fieldLink RX2 22 "NineDancers$Ring" "joys" "[I", Cond.fieldLink RX2 25 "NineDancers$Ring" "roundsDanced" "[I", Cond.fieldLink RX2 28 "NineDancers$Ring" "roundsRested" "[I", Cond.fieldLink RX2 31 "NineDancers$Ring" "roundsAlone" "[I", Cond.fieldLink RX2 34 "NineDancers$Ring" "likings" "[I", Cond.fieldLink RX2 37 "NineDancers$Ring" "dances" "[I", Cond.fieldLink RX2 40 "NineDancers$Ring" "lastDances" "[I", Cond.fieldLink RX2 43 "NineDancers$Ring" "timesTold" "[I", Cond.fieldLink RX2 46 "NineDancers$Ring" "rounds" "I", Cond.fieldLink RX2 50 "NineDancers$Ring" "lastNumber" "I", Cond.methodLink RX2 59 yX2_copyRow, Cond.static yX2_copyRow, Cond.code yX2_copyRow cX2_copyRow 2 none, Cond.methodLink RX2 63 Lib.Math.min.name, Cond.static Lib.Math.min.name, Cond.initialized "java/lang/Math"]
def wsX3_read_r4 : List Cond := [Cond.code Lib.Math.min.name Lib.Math.min.code 2 (some .int), Cond.methodLink RX2 69 arraycopyName, Cond.native arraycopyName, Cond.static arraycopyName, Cond.initialized "java/lang/System", Cond.methodLink RX3 91 yX3_tellNumbersOfPad, Cond.instanceMethod yX3_tellNumbersOfPad, Cond.selects RX3 yX3_tellNumbersOfPad yX3_tellNumbersOfPad, Cond.initialized RX3, Cond.code yX3_tellNumbersOfPad cX3_tellNumbersOfPad 3 (some .int), Cond.fieldLink RX3 143 "NineDancers$Pad" "length" "I", Cond.methodLink RX3 184 yX1_startsCall, Cond.methodLink RX3 187 yX1_numberAt, Cond.instanceMethod yX1_numberAt, Cond.selects RX1 yX1_numberAt yX1_numberAt, Cond.code yX1_numberAt cX1_numberAt 5 (some .int), Cond.methodLink RX3 190 yX1_timesAt, Cond.methodLink RX3 193 yX3_tell, Cond.instanceMethod yX3_tell, Cond.selects RX3 yX3_tell yX3_tell, Cond.code yX3_tell cX3_tell 5 (some .int), Cond.methodLink RX3 79 yX2_danceRound, Cond.instanceMethod yX2_danceRound, Cond.selects RX2 yX2_danceRound yX2_danceRound]
def wsX3_read_r5 : List Cond := [Cond.code yX2_danceRound cX2_danceRound 5 (some .int), Cond.static yX3_counterpart, Cond.code yX3_counterpart cX3_counterpart 2 (some .int), Cond.methodLink RX3 118 yX3_remainderOf, Cond.static yX3_remainderOf, Cond.code yX3_remainderOf cX3_remainderOf 1 (some .int), Cond.methodLink RX3 173 yJ9_floorMod_7cf53, Cond.static yJ9_floorMod_7cf53, Cond.initialized RJ9, Cond.code yJ9_floorMod_7cf53 cJ9_floorMod_7cf53 3 (some .int), Cond.methodLink RX2 78 yX2_rest, Cond.instanceMethod yX2_rest, Cond.selects RX2 yX2_rest yX2_rest, Cond.code yX2_rest cX2_rest 2 none, Cond.methodLink RX2 97 yX2_isThere, Cond.instanceMethod yX2_isThere, Cond.selects RX2 yX2_isThere yX2_isThere, Cond.code yX2_isThere cX2_isThere 2 (some .boolean), Cond.methodLink RX2 82 yX2_wouldDance, Cond.instanceMethod yX2_wouldDance, Cond.selects RX2 yX2_wouldDance yX2_wouldDance, Cond.code yX2_wouldDance cX2_wouldDance 3 (some .boolean), Cond.methodLink RX2 86 yX2_dance, Cond.instanceMethod yX2_dance]
def wsX3_read_r6 : List Cond := [Cond.selects RX2 yX2_dance yX2_dance, Cond.code yX2_dance cX2_dance 5 none, Cond.methodLink RX2 101 yX2_joyOfEach, Cond.instanceMethod yX2_joyOfEach, Cond.selects RX2 yX2_joyOfEach yX2_joyOfEach, Cond.code yX2_joyOfEach cX2_joyOfEach 3 (some .int), Cond.static yX3_pairIndex, Cond.code yX3_pairIndex cX3_pairIndex 2 (some .int), Cond.methodLink RX2 104 yX2_takePart, Cond.instanceMethod yX2_takePart, Cond.selects RX2 yX2_takePart yX2_takePart, Cond.code yX2_takePart cX2_takePart 3 none, Cond.methodLink RX2 90 yX2_leaveAlone, Cond.instanceMethod yX2_leaveAlone, Cond.selects RX2 yX2_leaveAlone yX2_leaveAlone, Cond.code yX2_leaveAlone cX2_leaveAlone 2 none, Cond.methodLink RX3 94 yX1_empty, Cond.instanceMethod yX1_empty, Cond.selects RX1 yX1_empty yX1_empty, Cond.code yX1_empty cX1_empty 2 (some .int)]
def wsX3_read : List Cond := .code yX3_read cX3_read 2 (some .int) :: ((wsX3_read_r1 ++ (wsX3_read_r2 ++ (wsX3_read_r3 ++ (wsX3_read_r4 ++ (wsX3_read_r5 ++ wsX3_read_r6))))) ++ wsX30 ++ wsX20 ++ wsX10 ++ wsX00)
def wsX3_feed_r1 : List Cond := [Cond.constant RX3 50 (-1000001), Cond.constant RX3 37 (-1000002), Cond.fieldLink RX3 29 "NineDancers" "history" "LNineDancers$History;", Cond.fieldLink RX3 12 "NineDancers" "ring" "LNineDancers$Ring;", Cond.fieldLink RX3 97 "NineDancers$Ring" "strengths" "[I", Cond.methodLink RX3 46 yX3_isVillager, Cond.static yX3_isVillager, Cond.initialized RX3, Cond.code yX3_isVillager cX3_isVillager 1 (some .boolean), Cond.methodLink RX3 38 yX0_remember, Cond.instanceMethod yX0_remember, Cond.selects RX0 yX0_remember yX0_remember, Cond.initialized RX0, Cond.code yX0_remember cX0_remember 2 none, Cond.fieldLink RX0 17 "NineDancers$History" "length" "I", Cond.fieldLink RX0 11 "NineDancers$History" "states" "[LNineDancers$Ring;", Cond.methodLink RX0 22 yX0_dropOldest, Cond.instanceMethod yX0_dropOldest, Cond.selects RX0 yX0_dropOldest yX0_dropOldest, Cond.code yX0_dropOldest cX0_dropOldest 3 none, Cond.methodLink RX0 25 yX2_copyFrom, Cond.instanceMethod yX2_copyFrom, Cond.selects RX2 yX2_copyFrom yX2_copyFrom, Cond.initialized RX2]
def wsX3_feed_r2 : List Cond := [Cond.code yX2_copyFrom cX2_copyFrom 2 none, Cond.fieldLink RX2 9 "NineDancers$Ring" "settings" "[I", Cond.fieldLink RX2 15 "NineDancers$Ring" "there" "I", Cond.fieldLink RX2 19 "NineDancers$Ring" "strengths" "[I", Cond.fieldLink RX2 22 "NineDancers$Ring" "joys" "[I", Cond.fieldLink RX2 25 "NineDancers$Ring" "roundsDanced" "[I", Cond.fieldLink RX2 28 "NineDancers$Ring" "roundsRested" "[I", Cond.fieldLink RX2 31 "NineDancers$Ring" "roundsAlone" "[I", Cond.fieldLink RX2 34 "NineDancers$Ring" "likings" "[I", Cond.fieldLink RX2 37 "NineDancers$Ring" "dances" "[I", Cond.fieldLink RX2 40 "NineDancers$Ring" "lastDances" "[I", Cond.fieldLink RX2 43 "NineDancers$Ring" "timesTold" "[I", Cond.fieldLink RX2 46 "NineDancers$Ring" "rounds" "I", Cond.fieldLink RX2 50 "NineDancers$Ring" "lastNumber" "I", Cond.methodLink RX2 59 yX2_copyRow, Cond.static yX2_copyRow, Cond.code yX2_copyRow cX2_copyRow 2 none, Cond.methodLink RX2 63 Lib.Math.min.name, Cond.static Lib.Math.min.name, Cond.initialized "java/lang/Math", Cond.code Lib.Math.min.name Lib.Math.min.code 2 (some .int), Cond.methodLink RX2 69 arraycopyName, Cond.native arraycopyName, Cond.static arraycopyName]
def wsX3_feed_r3 : List Cond := [Cond.initialized "java/lang/System"]
def wsX3_feed : List Cond := .code yX3_feed cX3_feed 4 (some .int) :: ((wsX3_feed_r1 ++ (wsX3_feed_r2 ++ wsX3_feed_r3)) ++ wsX30 ++ wsX20 ++ wsX00)
def wsX3_villager_r1 : List Cond := [Cond.constant RX3 50 (-1000001), Cond.fieldLink RX3 12 "NineDancers" "ring" "LNineDancers$Ring;", Cond.fieldLink RX3 97 "NineDancers$Ring" "strengths" "[I", Cond.fieldLink RX3 100 "NineDancers$Ring" "joys" "[I", Cond.fieldLink RX3 103 "NineDancers$Ring" "roundsDanced" "[I", Cond.fieldLink RX3 106 "NineDancers$Ring" "roundsRested" "[I", Cond.fieldLink RX3 109 "NineDancers$Ring" "roundsAlone" "[I", Cond.constant RX3 37 (-1000002), Cond.methodLink RX3 46 yX3_isVillager, Cond.static yX3_isVillager, Cond.initialized RX3, Cond.code yX3_isVillager cX3_isVillager 1 (some .boolean), Cond.methodLink RX3 58 yX2_isThere, Cond.instanceMethod yX2_isThere, Cond.selects RX2 yX2_isThere yX2_isThere, Cond.initialized RX2, Cond.code yX2_isThere cX2_isThere 2 (some .boolean), Cond.fieldLink RX2 15 "NineDancers$Ring" "there" "I", Cond.methodLink RX3 112 yX2_dancedWith, Cond.instanceMethod yX2_dancedWith, Cond.selects RX2 yX2_dancedWith yX2_dancedWith, Cond.code yX2_dancedWith cX2_dancedWith 4 (some .int), Cond.fieldLink RX2 37 "NineDancers$Ring" "dances" "[I", Cond.static yX3_pairIndex]
def wsX3_villager_r2 : List Cond := [Cond.code yX3_pairIndex cX3_pairIndex 2 (some .int), Cond.methodLink RX3 115 yX2_mostFrequentPartner, Cond.instanceMethod yX2_mostFrequentPartner, Cond.selects RX2 yX2_mostFrequentPartner yX2_mostFrequentPartner, Cond.code yX2_mostFrequentPartner cX2_mostFrequentPartner 6 (some .int), Cond.constant RX2 49 (-1000006)]
def wsX3_villager : List Cond := .code yX3_villager cX3_villager 3 (some .int) :: ((wsX3_villager_r1 ++ wsX3_villager_r2) ++ wsX30 ++ wsX20)
def wsX3_pair : List Cond := .code yX3_pair cX3_pair 6 (some .int) :: ([.constant RX3 50 (-1000001), .constant RX3 37 (-1000002), .fieldLink RX3 12 "NineDancers" "ring" "LNineDancers$Ring;", .fieldLink RX3 55 "NineDancers$Ring" "likings" "[I", .fieldLink RX3 121 "NineDancers$Ring" "dances" "[I", .fieldLink RX3 124 "NineDancers$Ring" "timesTold" "[I", .fieldLink RX3 127 "NineDancers$Ring" "lastDances" "[I", .methodLink RX3 46 yX3_isVillager, .static yX3_isVillager, .initialized RX3, .code yX3_isVillager cX3_isVillager 1 (some .boolean), .methodLink RX3 51 yX3_pairIndex, .static yX3_pairIndex, .code yX3_pairIndex cX3_pairIndex 2 (some .int), .methodLink RX3 118 yX3_remainderOf, .static yX3_remainderOf, .code yX3_remainderOf cX3_remainderOf 1 (some .int), .methodLink RX3 173 yJ9_floorMod_7cf53, .static yJ9_floorMod_7cf53, .initialized RJ9, .code yJ9_floorMod_7cf53 cJ9_floorMod_7cf53 3 (some .int)] ++ wsX30 ++ wsX20)
def wsX3_partner : List Cond := .code yX3_partner cX3_partner 4 (some .int) :: ([.constant RX3 50 (-1000001), .constant RX3 37 (-1000002), .constant RX3 86 (-1000006), .methodLink RX3 46 yX3_isVillager, .static yX3_isVillager, .initialized RX3, .code yX3_isVillager cX3_isVillager 1 (some .boolean), .methodLink RX3 72 yX3_isNumber, .static yX3_isNumber, .code yX3_isNumber cX3_isNumber 1 (some .boolean), .methodLink RX3 130 yX3_counterpart, .static yX3_counterpart, .code yX3_counterpart cX3_counterpart 2 (some .int), .methodLink RX3 118 yX3_remainderOf, .static yX3_remainderOf, .code yX3_remainderOf cX3_remainderOf 1 (some .int), .methodLink RX3 173 yJ9_floorMod_7cf53, .static yJ9_floorMod_7cf53, .initialized RJ9, .code yJ9_floorMod_7cf53 cJ9_floorMod_7cf53 3 (some .int)])
def wsX3_sumOf : List Cond := .code yX3_sumOf cX3_sumOf 6 (some .int) :: ([])
def wsX3_count_r1 : List Cond := [Cond.fieldLink RX3 12 "NineDancers" "ring" "LNineDancers$Ring;", Cond.fieldLink RX3 42 "NineDancers$Ring" "settings" "[I", Cond.fieldLink RX3 75 "NineDancers$Ring" "rounds" "I", Cond.fieldLink RX3 62 "NineDancers$Ring" "there" "I", Cond.fieldLink RX3 121 "NineDancers$Ring" "dances" "[I", Cond.fieldLink RX3 100 "NineDancers$Ring" "joys" "[I", Cond.fieldLink RX3 109 "NineDancers$Ring" "roundsAlone" "[I", Cond.fieldLink RX3 97 "NineDancers$Ring" "strengths" "[I", Cond.fieldLink RX3 140 "NineDancers$Ring" "lastNumber" "I", Cond.fieldLink RX3 22 "NineDancers" "pad" "LNineDancers$Pad;", Cond.fieldLink RX3 143 "NineDancers$Pad" "length" "I", Cond.fieldLink RX3 29 "NineDancers" "history" "LNineDancers$History;", Cond.fieldLink RX3 146 "NineDancers$History" "length" "I", Cond.constant RX3 37 (-1000002), Cond.methodLink RX3 133 yX3_sumOf, Cond.static yX3_sumOf, Cond.initialized RX3, Cond.code yX3_sumOf cX3_sumOf 6 (some .int), Cond.methodLink RX3 137 yX2_unmetPairs, Cond.instanceMethod yX2_unmetPairs, Cond.selects RX2 yX2_unmetPairs yX2_unmetPairs, Cond.initialized RX2, Cond.code yX2_unmetPairs cX2_unmetPairs 4 (some .int), Cond.methodLink RX2 110 yX2_isUnmet]
def wsX3_count_r2 : List Cond := [Cond.instanceMethod yX2_isUnmet, Cond.selects RX2 yX2_isUnmet yX2_isUnmet, Cond.code yX2_isUnmet cX2_isUnmet 3 (some .boolean), Cond.fieldLink RX2 37 "NineDancers$Ring" "dances" "[I", Cond.methodLink RX2 97 yX2_isThere, Cond.instanceMethod yX2_isThere, Cond.selects RX2 yX2_isThere yX2_isThere, Cond.code yX2_isThere cX2_isThere 2 (some .boolean), Cond.fieldLink RX2 15 "NineDancers$Ring" "there" "I", Cond.static yX3_pairIndex, Cond.code yX3_pairIndex cX3_pairIndex 2 (some .int)]
def wsX3_count : List Cond := .code yX3_count cX3_count 2 (some .int) :: ((wsX3_count_r1 ++ wsX3_count_r2) ++ wsX30 ++ wsX20 ++ wsX10 ++ wsX00)
def wsX3_ifCalled_r1 : List Cond := [Cond.constant RX3 37 (-1000002), Cond.fieldLink RX3 12 "NineDancers" "ring" "LNineDancers$Ring;", Cond.methodLink RX3 72 yX3_isNumber, Cond.static yX3_isNumber, Cond.initialized RX3, Cond.code yX3_isNumber cX3_isNumber 1 (some .boolean), Cond.methodLink RX3 147 yX2_wouldBring, Cond.instanceMethod yX2_wouldBring, Cond.selects RX2 yX2_wouldBring yX2_wouldBring, Cond.initialized RX2, Cond.code yX2_wouldBring cX2_wouldBring 6 (some .int), Cond.static yX3_counterpart, Cond.code yX3_counterpart cX3_counterpart 2 (some .int), Cond.methodLink RX3 118 yX3_remainderOf, Cond.static yX3_remainderOf, Cond.code yX3_remainderOf cX3_remainderOf 1 (some .int), Cond.methodLink RX3 173 yJ9_floorMod_7cf53, Cond.static yJ9_floorMod_7cf53, Cond.initialized RJ9, Cond.code yJ9_floorMod_7cf53 cJ9_floorMod_7cf53 3 (some .int), Cond.methodLink RX2 121 yX2_pairWouldBring, Cond.instanceMethod yX2_pairWouldBring, Cond.selects RX2 yX2_pairWouldBring yX2_pairWouldBring, Cond.code yX2_pairWouldBring cX2_pairWouldBring 5 (some .int)]
def wsX3_ifCalled_r2 : List Cond := [Cond.fieldLink RX2 15 "NineDancers$Ring" "there" "I", Cond.fieldLink RX2 37 "NineDancers$Ring" "dances" "[I", Cond.methodLink RX2 82 yX2_wouldDance, Cond.instanceMethod yX2_wouldDance, Cond.selects RX2 yX2_wouldDance yX2_wouldDance, Cond.code yX2_wouldDance cX2_wouldDance 3 (some .boolean), Cond.fieldLink RX2 19 "NineDancers$Ring" "strengths" "[I", Cond.fieldLink RX2 9 "NineDancers$Ring" "settings" "[I", Cond.methodLink RX2 97 yX2_isThere, Cond.instanceMethod yX2_isThere, Cond.selects RX2 yX2_isThere yX2_isThere, Cond.code yX2_isThere cX2_isThere 2 (some .boolean), Cond.methodLink RX2 116 yJ6_bitCount_0f7a4, Cond.static yJ6_bitCount_0f7a4, Cond.initialized RJ6, Cond.code yJ6_bitCount_0f7a4 cJ6_bitCount_0f7a4 1 (some .int), Cond.constant RJ6 265 (1431655765), Cond.constant RJ6 266 (858993459), Cond.constant RJ6 267 (252645135), Cond.methodLink RX2 101 yX2_joyOfEach, Cond.instanceMethod yX2_joyOfEach, Cond.selects RX2 yX2_joyOfEach yX2_joyOfEach, Cond.code yX2_joyOfEach cX2_joyOfEach 3 (some .int), Cond.fieldLink RX2 34 "NineDancers$Ring" "likings" "[I"]
def wsX3_ifCalled_r3 : List Cond := [Cond.static yX3_pairIndex, Cond.code yX3_pairIndex cX3_pairIndex 2 (some .int)]
def wsX3_ifCalled : List Cond := .code yX3_ifCalled cX3_ifCalled 3 (some .int) :: ((wsX3_ifCalled_r1 ++ (wsX3_ifCalled_r2 ++ wsX3_ifCalled_r3)) ++ wsX30 ++ wsX20)
def wsX3_bestCall_r1 : List Cond := [Cond.constant RX3 37 (-1000002), Cond.fieldLink RX3 12 "NineDancers" "ring" "LNineDancers$Ring;", Cond.methodLink RX3 147 yX2_wouldBring, Cond.instanceMethod yX2_wouldBring, Cond.selects RX2 yX2_wouldBring yX2_wouldBring, Cond.initialized RX2, Cond.code yX2_wouldBring cX2_wouldBring 6 (some .int), Cond.static yX3_counterpart, Cond.initialized RX3, Cond.code yX3_counterpart cX3_counterpart 2 (some .int), Cond.methodLink RX3 118 yX3_remainderOf, Cond.static yX3_remainderOf, Cond.code yX3_remainderOf cX3_remainderOf 1 (some .int), Cond.methodLink RX3 173 yJ9_floorMod_7cf53, Cond.static yJ9_floorMod_7cf53, Cond.initialized RJ9, Cond.code yJ9_floorMod_7cf53 cJ9_floorMod_7cf53 3 (some .int), Cond.methodLink RX2 121 yX2_pairWouldBring, Cond.instanceMethod yX2_pairWouldBring, Cond.selects RX2 yX2_pairWouldBring yX2_pairWouldBring, Cond.code yX2_pairWouldBring cX2_pairWouldBring 5 (some .int), Cond.fieldLink RX2 15 "NineDancers$Ring" "there" "I", Cond.fieldLink RX2 37 "NineDancers$Ring" "dances" "[I", Cond.methodLink RX2 82 yX2_wouldDance]
def wsX3_bestCall_r2 : List Cond := [Cond.instanceMethod yX2_wouldDance, Cond.selects RX2 yX2_wouldDance yX2_wouldDance, Cond.code yX2_wouldDance cX2_wouldDance 3 (some .boolean), Cond.fieldLink RX2 19 "NineDancers$Ring" "strengths" "[I", Cond.fieldLink RX2 9 "NineDancers$Ring" "settings" "[I", Cond.methodLink RX2 97 yX2_isThere, Cond.instanceMethod yX2_isThere, Cond.selects RX2 yX2_isThere yX2_isThere, Cond.code yX2_isThere cX2_isThere 2 (some .boolean), Cond.methodLink RX2 116 yJ6_bitCount_0f7a4, Cond.static yJ6_bitCount_0f7a4, Cond.initialized RJ6, Cond.code yJ6_bitCount_0f7a4 cJ6_bitCount_0f7a4 1 (some .int), Cond.constant RJ6 265 (1431655765), Cond.constant RJ6 266 (858993459), Cond.constant RJ6 267 (252645135), Cond.methodLink RX2 101 yX2_joyOfEach, Cond.instanceMethod yX2_joyOfEach, Cond.selects RX2 yX2_joyOfEach yX2_joyOfEach, Cond.code yX2_joyOfEach cX2_joyOfEach 3 (some .int), Cond.fieldLink RX2 34 "NineDancers$Ring" "likings" "[I", Cond.static yX3_pairIndex, Cond.code yX3_pairIndex cX3_pairIndex 2 (some .int)]
def wsX3_bestCall : List Cond := .code yX3_bestCall cX3_bestCall 6 (some .int) :: ((wsX3_bestCall_r1 ++ wsX3_bestCall_r2) ++ wsX30 ++ wsX20)
def wsX3_fewestRounds_r1 : List Cond := [Cond.fieldLink RX3 12 "NineDancers" "ring" "LNineDancers$Ring;", Cond.constant RX3 37 (-1000002), Cond.methodLink RX3 150 yX2_remaindersWithUnmetPair, Cond.instanceMethod yX2_remaindersWithUnmetPair, Cond.selects RX2 yX2_remaindersWithUnmetPair yX2_remaindersWithUnmetPair, Cond.initialized RX2, Cond.code yX2_remaindersWithUnmetPair cX2_remaindersWithUnmetPair 3 (some .int), Cond.methodLink RX2 113 yX2_hasUnmetPair, Cond.instanceMethod yX2_hasUnmetPair, Cond.selects RX2 yX2_hasUnmetPair yX2_hasUnmetPair, Cond.code yX2_hasUnmetPair cX2_hasUnmetPair 4 (some .boolean), Cond.static yX3_counterpart, Cond.initialized RX3, Cond.code yX3_counterpart cX3_counterpart 2 (some .int), Cond.methodLink RX3 118 yX3_remainderOf, Cond.static yX3_remainderOf, Cond.code yX3_remainderOf cX3_remainderOf 1 (some .int), Cond.methodLink RX3 173 yJ9_floorMod_7cf53, Cond.static yJ9_floorMod_7cf53, Cond.initialized RJ9, Cond.code yJ9_floorMod_7cf53 cJ9_floorMod_7cf53 3 (some .int), Cond.methodLink RX2 110 yX2_isUnmet, Cond.instanceMethod yX2_isUnmet, Cond.selects RX2 yX2_isUnmet yX2_isUnmet]
def wsX3_fewestRounds_r2 : List Cond := [Cond.code yX2_isUnmet cX2_isUnmet 3 (some .boolean), Cond.fieldLink RX2 37 "NineDancers$Ring" "dances" "[I", Cond.methodLink RX2 97 yX2_isThere, Cond.instanceMethod yX2_isThere, Cond.selects RX2 yX2_isThere yX2_isThere, Cond.code yX2_isThere cX2_isThere 2 (some .boolean), Cond.fieldLink RX2 15 "NineDancers$Ring" "there" "I", Cond.static yX3_pairIndex, Cond.code yX3_pairIndex cX3_pairIndex 2 (some .int), Cond.methodLink RX3 153 yX2_roundsByTrying, Cond.instanceMethod yX2_roundsByTrying, Cond.selects RX2 yX2_roundsByTrying yX2_roundsByTrying, Cond.code yX2_roundsByTrying cX2_roundsByTrying 4 (some .int), Cond.methodLink RX2 116 yJ6_bitCount_0f7a4, Cond.static yJ6_bitCount_0f7a4, Cond.initialized RJ6, Cond.code yJ6_bitCount_0f7a4 cJ6_bitCount_0f7a4 1 (some .int), Cond.constant RJ6 265 (1431655765), Cond.constant RJ6 266 (858993459), Cond.constant RJ6 267 (252645135)]
def wsX3_fewestRounds : List Cond := .code yX3_fewestRounds cX3_fewestRounds 2 (some .int) :: ((wsX3_fewestRounds_r1 ++ wsX3_fewestRounds_r2) ++ wsX30 ++ wsX20)
def wsX3_untilAllMet_r1 : List Cond := [Cond.fieldLink RX3 16 "NineDancers" "trial" "LNineDancers$Ring;", Cond.fieldLink RX3 12 "NineDancers" "ring" "LNineDancers$Ring;", Cond.constant RX3 86 (-1000006), Cond.fieldLink RX3 75 "NineDancers$Ring" "rounds" "I", Cond.methodLink RX3 156 yX2_copyFrom, Cond.instanceMethod yX2_copyFrom, Cond.selects RX2 yX2_copyFrom yX2_copyFrom, Cond.initialized RX2, Cond.code yX2_copyFrom cX2_copyFrom 2 none, Cond.fieldLink RX2 9 "NineDancers$Ring" "settings" "[I", Cond.fieldLink RX2 15 "NineDancers$Ring" "there" "I", Cond.fieldLink RX2 19 "NineDancers$Ring" "strengths" "[I", Cond.fieldLink RX2 22 "NineDancers$Ring" "joys" "[I", Cond.fieldLink RX2 25 "NineDancers$Ring" "roundsDanced" "[I", Cond.fieldLink RX2 28 "NineDancers$Ring" "roundsRested" "[I", Cond.fieldLink RX2 31 "NineDancers$Ring" "roundsAlone" "[I", Cond.fieldLink RX2 34 "NineDancers$Ring" "likings" "[I", Cond.fieldLink RX2 37 "NineDancers$Ring" "dances" "[I", Cond.fieldLink RX2 40 "NineDancers$Ring" "lastDances" "[I", Cond.fieldLink RX2 43 "NineDancers$Ring" "timesTold" "[I", Cond.fieldLink RX2 46 "NineDancers$Ring" "rounds" "I", Cond.fieldLink RX2 50 "NineDancers$Ring" "lastNumber" "I", Cond.methodLink RX2 59 yX2_copyRow, Cond.static yX2_copyRow]
def wsX3_untilAllMet_r2 : List Cond := [Cond.code yX2_copyRow cX2_copyRow 2 none, Cond.methodLink RX2 63 Lib.Math.min.name, Cond.static Lib.Math.min.name, Cond.initialized "java/lang/Math", Cond.code Lib.Math.min.name Lib.Math.min.code 2 (some .int), Cond.methodLink RX2 69 arraycopyName, Cond.native arraycopyName, Cond.static arraycopyName, Cond.initialized "java/lang/System", Cond.methodLink RX3 137 yX2_unmetPairs, Cond.instanceMethod yX2_unmetPairs, Cond.selects RX2 yX2_unmetPairs yX2_unmetPairs, Cond.code yX2_unmetPairs cX2_unmetPairs 4 (some .int), Cond.methodLink RX2 110 yX2_isUnmet, Cond.instanceMethod yX2_isUnmet, Cond.selects RX2 yX2_isUnmet yX2_isUnmet, Cond.code yX2_isUnmet cX2_isUnmet 3 (some .boolean), Cond.methodLink RX2 97 yX2_isThere, Cond.instanceMethod yX2_isThere, Cond.selects RX2 yX2_isThere yX2_isThere, Cond.code yX2_isThere cX2_isThere 2 (some .boolean), Cond.static yX3_pairIndex, Cond.initialized RX3, Cond.code yX3_pairIndex cX3_pairIndex 2 (some .int)]
def wsX3_untilAllMet_r3 : List Cond := [Cond.methodLink RX3 118 yX3_remainderOf, Cond.static yX3_remainderOf, Cond.code yX3_remainderOf cX3_remainderOf 1 (some .int), Cond.methodLink RX3 173 yJ9_floorMod_7cf53, Cond.static yJ9_floorMod_7cf53, Cond.initialized RJ9, Cond.code yJ9_floorMod_7cf53 cJ9_floorMod_7cf53 3 (some .int), Cond.methodLink RX3 147 yX2_wouldBring, Cond.instanceMethod yX2_wouldBring, Cond.selects RX2 yX2_wouldBring yX2_wouldBring, Cond.code yX2_wouldBring cX2_wouldBring 6 (some .int), Cond.static yX3_counterpart, Cond.code yX3_counterpart cX3_counterpart 2 (some .int), Cond.methodLink RX2 121 yX2_pairWouldBring, Cond.instanceMethod yX2_pairWouldBring, Cond.selects RX2 yX2_pairWouldBring yX2_pairWouldBring, Cond.code yX2_pairWouldBring cX2_pairWouldBring 5 (some .int), Cond.methodLink RX2 82 yX2_wouldDance, Cond.instanceMethod yX2_wouldDance, Cond.selects RX2 yX2_wouldDance yX2_wouldDance, Cond.code yX2_wouldDance cX2_wouldDance 3 (some .boolean), Cond.methodLink RX2 116 yJ6_bitCount_0f7a4, Cond.static yJ6_bitCount_0f7a4, Cond.initialized RJ6]
def wsX3_untilAllMet_r4 : List Cond := [Cond.code yJ6_bitCount_0f7a4 cJ6_bitCount_0f7a4 1 (some .int), Cond.constant RJ6 265 (1431655765), Cond.constant RJ6 266 (858993459), Cond.constant RJ6 267 (252645135), Cond.methodLink RX2 101 yX2_joyOfEach, Cond.instanceMethod yX2_joyOfEach, Cond.selects RX2 yX2_joyOfEach yX2_joyOfEach, Cond.code yX2_joyOfEach cX2_joyOfEach 3 (some .int), Cond.methodLink RX3 79 yX2_danceRound, Cond.instanceMethod yX2_danceRound, Cond.selects RX2 yX2_danceRound yX2_danceRound, Cond.code yX2_danceRound cX2_danceRound 5 (some .int), Cond.methodLink RX2 78 yX2_rest, Cond.instanceMethod yX2_rest, Cond.selects RX2 yX2_rest yX2_rest, Cond.code yX2_rest cX2_rest 2 none, Cond.methodLink RX2 86 yX2_dance, Cond.instanceMethod yX2_dance, Cond.selects RX2 yX2_dance yX2_dance, Cond.code yX2_dance cX2_dance 5 none, Cond.methodLink RX2 104 yX2_takePart, Cond.instanceMethod yX2_takePart, Cond.selects RX2 yX2_takePart yX2_takePart, Cond.code yX2_takePart cX2_takePart 3 none]
def wsX3_untilAllMet_r5 : List Cond := [Cond.methodLink RX2 90 yX2_leaveAlone, Cond.instanceMethod yX2_leaveAlone, Cond.selects RX2 yX2_leaveAlone yX2_leaveAlone, Cond.code yX2_leaveAlone cX2_leaveAlone 2 none]
def wsX3_untilAllMet : List Cond := .code yX3_untilAllMet cX3_untilAllMet 4 (some .int) :: ((wsX3_untilAllMet_r1 ++ (wsX3_untilAllMet_r2 ++ (wsX3_untilAllMet_r3 ++ (wsX3_untilAllMet_r4 ++ wsX3_untilAllMet_r5)))) ++ wsX30 ++ wsX20)
def wsX3_charactersIn : List Cond := .code yX3_charactersIn cX3_charactersIn 7 (some .int) :: ([.constantLong RX3 178 (255), .constantLong RX3 180 (33), .constantLong RX3 182 (126)])
def wsX3_put : List Cond := .code yX3_put cX3_put 4 (some .int) :: ([.constant RX3 37 (-1000002), .fieldLink RX3 22 "NineDancers" "pad" "LNineDancers$Pad;", .fieldLink RX3 143 "NineDancers$Pad" "length" "I", .constant RX3 78 (-1000004), .methodLink RX3 159 yX3_charactersIn, .static yX3_charactersIn, .initialized RX3, .code yX3_charactersIn cX3_charactersIn 7 (some .int), .constantLong RX3 178 (255), .constantLong RX3 180 (33), .constantLong RX3 182 (126), .methodLink RX3 163 yX1_append, .instanceMethod yX1_append, .selects RX1 yX1_append yX1_append, .initialized RX1, .code yX1_append cX1_append 5 none, .fieldLink RX1 15 "NineDancers$Pad" "length" "I", .fieldLink RX1 9 "NineDancers$Pad" "text" "[C", .constantLong RX1 19 (255)] ++ wsX30 ++ wsX10)
def wsX3_wipe : List Cond := .code yX3_wipe cX3_wipe 1 (some .int) :: ([.fieldLink RX3 22 "NineDancers" "pad" "LNineDancers$Pad;", .methodLink RX3 94 yX1_empty, .instanceMethod yX1_empty, .selects RX1 yX1_empty yX1_empty, .initialized RX1, .code yX1_empty cX1_empty 2 (some .int), .fieldLink RX1 15 "NineDancers$Pad" "length" "I"] ++ wsX30 ++ wsX10)
def wsX3_fault : List Cond := .code yX3_fault cX3_fault 1 (some .int) :: ([.fieldLink RX3 22 "NineDancers" "pad" "LNineDancers$Pad;", .methodLink RX3 82 yX1_firstFault, .instanceMethod yX1_firstFault, .selects RX1 yX1_firstFault yX1_firstFault, .initialized RX1, .code yX1_firstFault cX1_firstFault 6 (some .int), .fieldLink RX1 15 "NineDancers$Pad" "length" "I", .fieldLink RX1 9 "NineDancers$Pad" "text" "[C", .constant RX1 29 (-1000006), .methodLink RX1 21 yX1_isDigit, .static yX1_isDigit, .code yX1_isDigit cX1_isDigit 1 (some .boolean), .methodLink RX1 25 yX1_canTakeDigit, .static yX1_canTakeDigit, .code yX1_canTakeDigit cX1_canTakeDigit 2 (some .boolean)] ++ wsX30 ++ wsX10)
def wsX3_undo_r1 : List Cond := [Cond.fieldLink RX3 29 "NineDancers" "history" "LNineDancers$History;", Cond.fieldLink RX3 146 "NineDancers$History" "length" "I", Cond.constant RX3 61 (-1000005), Cond.fieldLink RX3 12 "NineDancers" "ring" "LNineDancers$Ring;", Cond.methodLink RX3 167 yX0_takeBackInto, Cond.instanceMethod yX0_takeBackInto, Cond.selects RX0 yX0_takeBackInto yX0_takeBackInto, Cond.initialized RX0, Cond.code yX0_takeBackInto cX0_takeBackInto 2 none, Cond.fieldLink RX0 17 "NineDancers$History" "length" "I", Cond.fieldLink RX0 11 "NineDancers$History" "states" "[LNineDancers$Ring;", Cond.methodLink RX0 25 yX2_copyFrom, Cond.instanceMethod yX2_copyFrom, Cond.selects RX2 yX2_copyFrom yX2_copyFrom, Cond.initialized RX2, Cond.code yX2_copyFrom cX2_copyFrom 2 none, Cond.fieldLink RX2 9 "NineDancers$Ring" "settings" "[I", Cond.fieldLink RX2 15 "NineDancers$Ring" "there" "I", Cond.fieldLink RX2 19 "NineDancers$Ring" "strengths" "[I", Cond.fieldLink RX2 22 "NineDancers$Ring" "joys" "[I", Cond.fieldLink RX2 25 "NineDancers$Ring" "roundsDanced" "[I", Cond.fieldLink RX2 28 "NineDancers$Ring" "roundsRested" "[I", Cond.fieldLink RX2 31 "NineDancers$Ring" "roundsAlone" "[I", Cond.fieldLink RX2 34 "NineDancers$Ring" "likings" "[I"]
def wsX3_undo_r2 : List Cond := [Cond.fieldLink RX2 37 "NineDancers$Ring" "dances" "[I", Cond.fieldLink RX2 40 "NineDancers$Ring" "lastDances" "[I", Cond.fieldLink RX2 43 "NineDancers$Ring" "timesTold" "[I", Cond.fieldLink RX2 46 "NineDancers$Ring" "rounds" "I", Cond.fieldLink RX2 50 "NineDancers$Ring" "lastNumber" "I", Cond.methodLink RX2 59 yX2_copyRow, Cond.static yX2_copyRow, Cond.code yX2_copyRow cX2_copyRow 2 none, Cond.methodLink RX2 63 Lib.Math.min.name, Cond.static Lib.Math.min.name, Cond.initialized "java/lang/Math", Cond.code Lib.Math.min.name Lib.Math.min.code 2 (some .int), Cond.methodLink RX2 69 arraycopyName, Cond.native arraycopyName, Cond.static arraycopyName, Cond.initialized "java/lang/System"]
def wsX3_undo : List Cond := .code yX3_undo cX3_undo 1 (some .int) :: ((wsX3_undo_r1 ++ wsX3_undo_r2) ++ wsX30 ++ wsX00 ++ wsX20)
def wsX3_isSlot : List Cond := .code yX3_isSlot cX3_isSlot 1 (some .boolean) :: ([])
def wsX3_save_r1 : List Cond := [Cond.constant RX3 37 (-1000002), Cond.fieldLink RX3 33 "NineDancers" "slots" "[LNineDancers$Ring;", Cond.classLink RX3 9 RX2, Cond.instantiable RX2 13, Cond.initialized RX2, Cond.fieldLink RX3 12 "NineDancers" "ring" "LNineDancers$Ring;", Cond.fieldLink RX3 75 "NineDancers$Ring" "rounds" "I", Cond.methodLink RX3 170 yX3_isSlot, Cond.static yX3_isSlot, Cond.initialized RX3, Cond.code yX3_isSlot cX3_isSlot 1 (some .boolean), Cond.methodLink RX3 11 yX2_init, Cond.instanceMethod yX2_init, Cond.code yX2_init cX2_init 1 none, Cond.methodLink RX2 3 objectInit, Cond.instanceMethod objectInit, Cond.code objectInit ⟨#[0xb1]⟩ 1 none, Cond.arrayClass .int, Cond.fieldLink RX2 9 "NineDancers$Ring" "settings" "[I", Cond.fieldLink RX2 15 "NineDancers$Ring" "there" "I", Cond.fieldLink RX2 19 "NineDancers$Ring" "strengths" "[I", Cond.fieldLink RX2 22 "NineDancers$Ring" "joys" "[I", Cond.fieldLink RX2 25 "NineDancers$Ring" "roundsDanced" "[I", Cond.fieldLink RX2 28 "NineDancers$Ring" "roundsRested" "[I"]
def wsX3_save_r2 : List Cond := [Cond.fieldLink RX2 31 "NineDancers$Ring" "roundsAlone" "[I", Cond.fieldLink RX2 34 "NineDancers$Ring" "likings" "[I", Cond.fieldLink RX2 37 "NineDancers$Ring" "dances" "[I", Cond.fieldLink RX2 40 "NineDancers$Ring" "lastDances" "[I", Cond.fieldLink RX2 43 "NineDancers$Ring" "timesTold" "[I", Cond.fieldLink RX2 46 "NineDancers$Ring" "rounds" "I", Cond.constant RX2 49 (-1000006), Cond.fieldLink RX2 50 "NineDancers$Ring" "lastNumber" "I", Cond.methodLink RX2 53 yJ7_fill_53178, Cond.static yJ7_fill_53178, Cond.initialized RJ7, Cond.code yJ7_fill_53178 cJ7_fill_53178 4 none, Cond.methodLink RX3 156 yX2_copyFrom, Cond.instanceMethod yX2_copyFrom, Cond.selects RX2 yX2_copyFrom yX2_copyFrom, Cond.code yX2_copyFrom cX2_copyFrom 2 none, Cond.methodLink RX2 59 yX2_copyRow, Cond.static yX2_copyRow, Cond.code yX2_copyRow cX2_copyRow 2 none, Cond.methodLink RX2 63 Lib.Math.min.name, Cond.static Lib.Math.min.name, Cond.initialized "java/lang/Math", Cond.code Lib.Math.min.name Lib.Math.min.code 2 (some .int), Cond.methodLink RX2 69 arraycopyName]
def wsX3_save_r3 : List Cond := [Cond.native arraycopyName, Cond.static arraycopyName, Cond.initialized "java/lang/System"]
def wsX3_save : List Cond := .code yX3_save cX3_save 3 (some .int) :: ((wsX3_save_r1 ++ (wsX3_save_r2 ++ wsX3_save_r3)) ++ wsX30 ++ wsX20)
def wsX3_restore_r1 : List Cond := [Cond.constant RX3 37 (-1000002), Cond.fieldLink RX3 33 "NineDancers" "slots" "[LNineDancers$Ring;", Cond.constant RX3 61 (-1000005), Cond.fieldLink RX3 29 "NineDancers" "history" "LNineDancers$History;", Cond.fieldLink RX3 12 "NineDancers" "ring" "LNineDancers$Ring;", Cond.fieldLink RX3 75 "NineDancers$Ring" "rounds" "I", Cond.methodLink RX3 170 yX3_isSlot, Cond.static yX3_isSlot, Cond.initialized RX3, Cond.code yX3_isSlot cX3_isSlot 1 (some .boolean), Cond.methodLink RX3 38 yX0_remember, Cond.instanceMethod yX0_remember, Cond.selects RX0 yX0_remember yX0_remember, Cond.initialized RX0, Cond.code yX0_remember cX0_remember 2 none, Cond.fieldLink RX0 17 "NineDancers$History" "length" "I", Cond.fieldLink RX0 11 "NineDancers$History" "states" "[LNineDancers$Ring;", Cond.methodLink RX0 22 yX0_dropOldest, Cond.instanceMethod yX0_dropOldest, Cond.selects RX0 yX0_dropOldest yX0_dropOldest, Cond.code yX0_dropOldest cX0_dropOldest 3 none, Cond.methodLink RX0 25 yX2_copyFrom, Cond.instanceMethod yX2_copyFrom, Cond.selects RX2 yX2_copyFrom yX2_copyFrom]
def wsX3_restore_r2 : List Cond := [Cond.initialized RX2, Cond.code yX2_copyFrom cX2_copyFrom 2 none, Cond.fieldLink RX2 9 "NineDancers$Ring" "settings" "[I", Cond.fieldLink RX2 15 "NineDancers$Ring" "there" "I", Cond.fieldLink RX2 19 "NineDancers$Ring" "strengths" "[I", Cond.fieldLink RX2 22 "NineDancers$Ring" "joys" "[I", Cond.fieldLink RX2 25 "NineDancers$Ring" "roundsDanced" "[I", Cond.fieldLink RX2 28 "NineDancers$Ring" "roundsRested" "[I", Cond.fieldLink RX2 31 "NineDancers$Ring" "roundsAlone" "[I", Cond.fieldLink RX2 34 "NineDancers$Ring" "likings" "[I", Cond.fieldLink RX2 37 "NineDancers$Ring" "dances" "[I", Cond.fieldLink RX2 40 "NineDancers$Ring" "lastDances" "[I", Cond.fieldLink RX2 43 "NineDancers$Ring" "timesTold" "[I", Cond.fieldLink RX2 46 "NineDancers$Ring" "rounds" "I", Cond.fieldLink RX2 50 "NineDancers$Ring" "lastNumber" "I", Cond.methodLink RX2 59 yX2_copyRow, Cond.static yX2_copyRow, Cond.code yX2_copyRow cX2_copyRow 2 none, Cond.methodLink RX2 63 Lib.Math.min.name, Cond.static Lib.Math.min.name, Cond.initialized "java/lang/Math", Cond.code Lib.Math.min.name Lib.Math.min.code 2 (some .int), Cond.methodLink RX2 69 arraycopyName, Cond.native arraycopyName]
def wsX3_restore_r3 : List Cond := [Cond.static arraycopyName, Cond.initialized "java/lang/System", Cond.methodLink RX3 156 yX2_copyFrom]
def wsX3_restore : List Cond := .code yX3_restore cX3_restore 3 (some .int) :: ((wsX3_restore_r1 ++ (wsX3_restore_r2 ++ wsX3_restore_r3)) ++ wsX30 ++ wsX20 ++ wsX00)
def wsX4_init : List Cond := .code yX4_init cX4_init 2 none :: ([.methodLink RX4 1 objectInit, .instanceMethod objectInit, .code objectInit ⟨#[0xb1]⟩ 1 none, .arrayClass .int, .fieldLink RX4 7 "NineDancersModel" "all" "[I", .fieldLink RX4 13 "NineDancersModel" "kept" "[I", .fieldLink RX4 16 "NineDancersModel" "history" "[I", .fieldLink RX4 19 "NineDancersModel" "slots" "[I", .fieldLink RX4 22 "NineDancersModel" "isSaved" "[I", .fieldLink RX4 25 "NineDancersModel" "dancing" "[I", .fieldLink RX4 28 "NineDancersModel" "text" "[I", .fieldLink RX4 31 "NineDancersModel" "times" "[I", .fieldLink RX4 34 "NineDancersModel" "numbers" "[I", .constant RX4 37 (-1000006)] ++ wsX40)
def wsX4_in : List Cond := .code yX4_in cX4_in 6 (some .boolean) :: ([])
def wsX4_changes : List Cond := .code yX4_changes cX4_changes 2 none :: ([.fieldLink RX4 38 "NineDancersModel" "historyLong" "I", .fieldLink RX4 16 "NineDancersModel" "history" "[I", .fieldLink RX4 7 "NineDancersModel" "all" "[I"] ++ wsX40)
def wsX4_keeps : List Cond := .code yX4_keeps cX4_keeps 2 none :: ([.fieldLink RX4 13 "NineDancersModel" "kept" "[I", .fieldLink RX4 7 "NineDancersModel" "all" "[I"] ++ wsX40)
def wsX4_comesBack : List Cond := .code yX4_comesBack cX4_comesBack 2 none :: ([.fieldLink RX4 7 "NineDancersModel" "all" "[I", .fieldLink RX4 13 "NineDancersModel" "kept" "[I"] ++ wsX40)
def wsX4_isVillager : List Cond := .code yX4_isVillager cX4_isVillager 1 (some .boolean) :: ([.constantLong RX4 42 (8), .methodLink RX4 44 yX4_in, .static yX4_in, .initialized RX4, .code yX4_in cX4_in 6 (some .boolean)])
def wsX4_isNumber : List Cond := .code yX4_isNumber cX4_isNumber 1 (some .boolean) :: ([.constantLong RX4 48 (999), .methodLink RX4 44 yX4_in, .static yX4_in, .initialized RX4, .code yX4_in cX4_in 6 (some .boolean)])
def wsX4_pairAt : List Cond := .code yX4_pairAt cX4_pairAt 2 (some .int) :: ([])
def wsX4_partnerBy : List Cond := .code yX4_partnerBy cX4_partnerBy 2 (some .int) :: ([])
def wsX4_isThere : List Cond := .code yX4_isThere cX4_isThere 2 (some .boolean) :: ([.fieldLink RX4 7 "NineDancersModel" "all" "[I"] ++ wsX40)
def wsX4_canDance : List Cond := .code yX4_canDance cX4_canDance 2 (some .boolean) :: ([.fieldLink RX4 7 "NineDancersModel" "all" "[I", .methodLink RX4 50 yX4_isThere, .instanceMethod yX4_isThere, .selects RX4 yX4_isThere yX4_isThere, .initialized RX4, .code yX4_isThere cX4_isThere 2 (some .boolean)] ++ wsX40)
def wsX4_dances : List Cond := .code yX4_dances cX4_dances 4 (some .boolean) :: ([.methodLink RX4 54 yX4_partnerBy, .static yX4_partnerBy, .initialized RX4, .code yX4_partnerBy cX4_partnerBy 2 (some .int), .methodLink RX4 58 yX4_canDance, .instanceMethod yX4_canDance, .selects RX4 yX4_canDance yX4_canDance, .code yX4_canDance cX4_canDance 2 (some .boolean), .fieldLink RX4 7 "NineDancersModel" "all" "[I", .methodLink RX4 50 yX4_isThere, .instanceMethod yX4_isThere, .selects RX4 yX4_isThere yX4_isThere, .code yX4_isThere cX4_isThere 2 (some .boolean)] ++ wsX40)
def wsX4_joyOf : List Cond := .code yX4_joyOf cX4_joyOf 3 (some .int) :: ([.fieldLink RX4 7 "NineDancersModel" "all" "[I", .methodLink RX4 61 yX4_pairAt, .static yX4_pairAt, .initialized RX4, .code yX4_pairAt cX4_pairAt 2 (some .int)] ++ wsX40)
def wsX4_danced : List Cond := .code yX4_danced cX4_danced 3 none :: ([.fieldLink RX4 7 "NineDancersModel" "all" "[I", .methodLink RX4 64 yX4_joyOf, .instanceMethod yX4_joyOf, .selects RX4 yX4_joyOf yX4_joyOf, .initialized RX4, .code yX4_joyOf cX4_joyOf 3 (some .int), .methodLink RX4 61 yX4_pairAt, .static yX4_pairAt, .code yX4_pairAt cX4_pairAt 2 (some .int)] ++ wsX40)
def wsX4_rested : List Cond := .code yX4_rested cX4_rested 4 none :: ([.fieldLink RX4 7 "NineDancersModel" "all" "[I"] ++ wsX40)
def wsX4_round_r1 : List Cond := [Cond.fieldLink RX4 25 "NineDancersModel" "dancing" "[I", Cond.fieldLink RX4 7 "NineDancersModel" "all" "[I", Cond.methodLink RX4 67 yX4_dances, Cond.instanceMethod yX4_dances, Cond.selects RX4 yX4_dances yX4_dances, Cond.initialized RX4, Cond.code yX4_dances cX4_dances 4 (some .boolean), Cond.methodLink RX4 54 yX4_partnerBy, Cond.static yX4_partnerBy, Cond.code yX4_partnerBy cX4_partnerBy 2 (some .int), Cond.methodLink RX4 58 yX4_canDance, Cond.instanceMethod yX4_canDance, Cond.selects RX4 yX4_canDance yX4_canDance, Cond.code yX4_canDance cX4_canDance 2 (some .boolean), Cond.methodLink RX4 50 yX4_isThere, Cond.instanceMethod yX4_isThere, Cond.selects RX4 yX4_isThere yX4_isThere, Cond.code yX4_isThere cX4_isThere 2 (some .boolean), Cond.methodLink RX4 71 yX4_danced, Cond.instanceMethod yX4_danced, Cond.selects RX4 yX4_danced yX4_danced, Cond.code yX4_danced cX4_danced 3 none, Cond.methodLink RX4 64 yX4_joyOf, Cond.instanceMethod yX4_joyOf]
def wsX4_round_r2 : List Cond := [Cond.selects RX4 yX4_joyOf yX4_joyOf, Cond.code yX4_joyOf cX4_joyOf 3 (some .int), Cond.methodLink RX4 61 yX4_pairAt, Cond.static yX4_pairAt, Cond.code yX4_pairAt cX4_pairAt 2 (some .int), Cond.methodLink RX4 75 yX4_rested, Cond.instanceMethod yX4_rested, Cond.selects RX4 yX4_rested yX4_rested, Cond.code yX4_rested cX4_rested 4 none]
def wsX4_round : List Cond := .code yX4_round cX4_round 5 (some .int) :: ((wsX4_round_r1 ++ wsX4_round_r2) ++ wsX40)
def wsX4_sum : List Cond := .code yX4_sum cX4_sum 4 (some .int) :: ([.fieldLink RX4 7 "NineDancersModel" "all" "[I"] ++ wsX40)
def wsX4_isNew : List Cond := .code yX4_isNew cX4_isNew 3 (some .boolean) :: ([.fieldLink RX4 7 "NineDancersModel" "all" "[I", .methodLink RX4 50 yX4_isThere, .instanceMethod yX4_isThere, .selects RX4 yX4_isThere yX4_isThere, .initialized RX4, .code yX4_isThere cX4_isThere 2 (some .boolean), .methodLink RX4 61 yX4_pairAt, .static yX4_pairAt, .code yX4_pairAt cX4_pairAt 2 (some .int)] ++ wsX40)
def wsX4_newPairs : List Cond := .code yX4_newPairs cX4_newPairs 4 (some .int) :: ([.methodLink RX4 79 yX4_isNew, .instanceMethod yX4_isNew, .selects RX4 yX4_isNew yX4_isNew, .initialized RX4, .code yX4_isNew cX4_isNew 3 (some .boolean), .fieldLink RX4 7 "NineDancersModel" "all" "[I", .methodLink RX4 50 yX4_isThere, .instanceMethod yX4_isThere, .selects RX4 yX4_isThere yX4_isThere, .code yX4_isThere cX4_isThere 2 (some .boolean), .methodLink RX4 61 yX4_pairAt, .static yX4_pairAt, .code yX4_pairAt cX4_pairAt 2 (some .int)] ++ wsX40)
def wsX4_isSetting : List Cond := .code yX4_isSetting cX4_isSetting 2 (some .boolean) :: ([.constantLong RX4 82 (2), .constantLong RX4 84 (-9), .constantLong RX4 86 (9), .methodLink RX4 44 yX4_in, .static yX4_in, .initialized RX4, .code yX4_in cX4_in 6 (some .boolean)])
def wsX4_set : List Cond := .code yX4_set cX4_set 4 (some .int) :: ([.constant RX4 91 (-1000002), .fieldLink RX4 7 "NineDancersModel" "all" "[I", .methodLink RX4 88 yX4_isSetting, .static yX4_isSetting, .initialized RX4, .code yX4_isSetting cX4_isSetting 2 (some .boolean), .constantLong RX4 82 (2), .constantLong RX4 84 (-9), .constantLong RX4 86 (9), .methodLink RX4 44 yX4_in, .static yX4_in, .code yX4_in cX4_in 6 (some .boolean), .methodLink RX4 92 yX4_changes, .instanceMethod yX4_changes, .selects RX4 yX4_changes yX4_changes, .code yX4_changes cX4_changes 2 none, .fieldLink RX4 38 "NineDancersModel" "historyLong" "I", .fieldLink RX4 16 "NineDancersModel" "history" "[I"] ++ wsX40)
def wsX4_like : List Cond := .code yX4_like cX4_like 5 (some .int) :: ([.constant RX4 98 (-1000001), .constantLong RX4 84 (-9), .constantLong RX4 86 (9), .constant RX4 91 (-1000002), .fieldLink RX4 7 "NineDancersModel" "all" "[I", .methodLink RX4 95 yX4_isVillager, .static yX4_isVillager, .initialized RX4, .code yX4_isVillager cX4_isVillager 1 (some .boolean), .constantLong RX4 42 (8), .methodLink RX4 44 yX4_in, .static yX4_in, .code yX4_in cX4_in 6 (some .boolean), .methodLink RX4 92 yX4_changes, .instanceMethod yX4_changes, .selects RX4 yX4_changes yX4_changes, .code yX4_changes cX4_changes 2 none, .fieldLink RX4 38 "NineDancersModel" "historyLong" "I", .fieldLink RX4 16 "NineDancersModel" "history" "[I", .methodLink RX4 61 yX4_pairAt, .static yX4_pairAt, .code yX4_pairAt cX4_pairAt 2 (some .int)] ++ wsX40)
def wsX4_away_r1 : List Cond := [Cond.constant RX4 98 (-1000001), Cond.constant RX4 99 (-1000005), Cond.fieldLink RX4 7 "NineDancersModel" "all" "[I", Cond.methodLink RX4 95 yX4_isVillager, Cond.static yX4_isVillager, Cond.initialized RX4, Cond.code yX4_isVillager cX4_isVillager 1 (some .boolean), Cond.constantLong RX4 42 (8), Cond.methodLink RX4 44 yX4_in, Cond.static yX4_in, Cond.code yX4_in cX4_in 6 (some .boolean), Cond.methodLink RX4 50 yX4_isThere, Cond.instanceMethod yX4_isThere, Cond.selects RX4 yX4_isThere yX4_isThere, Cond.code yX4_isThere cX4_isThere 2 (some .boolean), Cond.methodLink RX4 92 yX4_changes, Cond.instanceMethod yX4_changes, Cond.selects RX4 yX4_changes yX4_changes, Cond.code yX4_changes cX4_changes 2 none, Cond.fieldLink RX4 38 "NineDancersModel" "historyLong" "I", Cond.fieldLink RX4 16 "NineDancersModel" "history" "[I", Cond.methodLink RX4 100 yX4_sum, Cond.instanceMethod yX4_sum, Cond.selects RX4 yX4_sum yX4_sum]
def wsX4_away_r2 : List Cond := [Cond.code yX4_sum cX4_sum 4 (some .int)]
def wsX4_away : List Cond := .code yX4_away cX4_away 3 (some .int) :: ((wsX4_away_r1 ++ wsX4_away_r2) ++ wsX40)
def wsX4_call_r1 : List Cond := [Cond.constant RX4 91 (-1000002), Cond.fieldLink RX4 7 "NineDancersModel" "all" "[I", Cond.constant RX4 107 (-1000004), Cond.methodLink RX4 104 yX4_isNumber, Cond.static yX4_isNumber, Cond.initialized RX4, Cond.code yX4_isNumber cX4_isNumber 1 (some .boolean), Cond.constantLong RX4 48 (999), Cond.methodLink RX4 44 yX4_in, Cond.static yX4_in, Cond.code yX4_in cX4_in 6 (some .boolean), Cond.methodLink RX4 92 yX4_changes, Cond.instanceMethod yX4_changes, Cond.selects RX4 yX4_changes yX4_changes, Cond.code yX4_changes cX4_changes 2 none, Cond.fieldLink RX4 38 "NineDancersModel" "historyLong" "I", Cond.fieldLink RX4 16 "NineDancersModel" "history" "[I", Cond.methodLink RX4 108 yX4_round, Cond.instanceMethod yX4_round, Cond.selects RX4 yX4_round yX4_round, Cond.code yX4_round cX4_round 5 (some .int), Cond.fieldLink RX4 25 "NineDancersModel" "dancing" "[I", Cond.methodLink RX4 67 yX4_dances, Cond.instanceMethod yX4_dances]
def wsX4_call_r2 : List Cond := [Cond.selects RX4 yX4_dances yX4_dances, Cond.code yX4_dances cX4_dances 4 (some .boolean), Cond.methodLink RX4 54 yX4_partnerBy, Cond.static yX4_partnerBy, Cond.code yX4_partnerBy cX4_partnerBy 2 (some .int), Cond.methodLink RX4 58 yX4_canDance, Cond.instanceMethod yX4_canDance, Cond.selects RX4 yX4_canDance yX4_canDance, Cond.code yX4_canDance cX4_canDance 2 (some .boolean), Cond.methodLink RX4 50 yX4_isThere, Cond.instanceMethod yX4_isThere, Cond.selects RX4 yX4_isThere yX4_isThere, Cond.code yX4_isThere cX4_isThere 2 (some .boolean), Cond.methodLink RX4 71 yX4_danced, Cond.instanceMethod yX4_danced, Cond.selects RX4 yX4_danced yX4_danced, Cond.code yX4_danced cX4_danced 3 none, Cond.methodLink RX4 64 yX4_joyOf, Cond.instanceMethod yX4_joyOf, Cond.selects RX4 yX4_joyOf yX4_joyOf, Cond.code yX4_joyOf cX4_joyOf 3 (some .int), Cond.methodLink RX4 61 yX4_pairAt, Cond.static yX4_pairAt, Cond.code yX4_pairAt cX4_pairAt 2 (some .int)]
def wsX4_call_r3 : List Cond := [Cond.methodLink RX4 75 yX4_rested, Cond.instanceMethod yX4_rested, Cond.selects RX4 yX4_rested yX4_rested, Cond.code yX4_rested cX4_rested 4 none]
def wsX4_call : List Cond := .code yX4_call cX4_call 2 (some .int) :: ((wsX4_call_r1 ++ (wsX4_call_r2 ++ wsX4_call_r3)) ++ wsX40)
def wsX4_feed : List Cond := .code yX4_feed cX4_feed 4 (some .int) :: ([.constant RX4 98 (-1000001), .constantLong RX4 111 (20), .constant RX4 91 (-1000002), .fieldLink RX4 7 "NineDancersModel" "all" "[I", .methodLink RX4 95 yX4_isVillager, .static yX4_isVillager, .initialized RX4, .code yX4_isVillager cX4_isVillager 1 (some .boolean), .constantLong RX4 42 (8), .methodLink RX4 44 yX4_in, .static yX4_in, .code yX4_in cX4_in 6 (some .boolean), .methodLink RX4 92 yX4_changes, .instanceMethod yX4_changes, .selects RX4 yX4_changes yX4_changes, .code yX4_changes cX4_changes 2 none, .fieldLink RX4 38 "NineDancersModel" "historyLong" "I", .fieldLink RX4 16 "NineDancersModel" "history" "[I"] ++ wsX40)
def wsX4_metBy : List Cond := .code yX4_metBy cX4_metBy 4 (some .int) :: ([.fieldLink RX4 7 "NineDancersModel" "all" "[I", .methodLink RX4 61 yX4_pairAt, .static yX4_pairAt, .initialized RX4, .code yX4_pairAt cX4_pairAt 2 (some .int)] ++ wsX40)
def wsX4_mostOften : List Cond := .code yX4_mostOften cX4_mostOften 6 (some .int) :: ([.constant RX4 37 (-1000006), .fieldLink RX4 7 "NineDancersModel" "all" "[I", .methodLink RX4 61 yX4_pairAt, .static yX4_pairAt, .initialized RX4, .code yX4_pairAt cX4_pairAt 2 (some .int)] ++ wsX40)
def wsX4_villager : List Cond := .code yX4_villager cX4_villager 3 (some .int) :: ([.constant RX4 98 (-1000001), .fieldLink RX4 7 "NineDancersModel" "all" "[I", .constant RX4 91 (-1000002), .methodLink RX4 95 yX4_isVillager, .static yX4_isVillager, .initialized RX4, .code yX4_isVillager cX4_isVillager 1 (some .boolean), .constantLong RX4 42 (8), .methodLink RX4 44 yX4_in, .static yX4_in, .code yX4_in cX4_in 6 (some .boolean), .methodLink RX4 113 yX4_metBy, .instanceMethod yX4_metBy, .selects RX4 yX4_metBy yX4_metBy, .code yX4_metBy cX4_metBy 4 (some .int), .methodLink RX4 61 yX4_pairAt, .static yX4_pairAt, .code yX4_pairAt cX4_pairAt 2 (some .int), .methodLink RX4 116 yX4_mostOften, .instanceMethod yX4_mostOften, .selects RX4 yX4_mostOften yX4_mostOften, .code yX4_mostOften cX4_mostOften 6 (some .int), .constant RX4 37 (-1000006)] ++ wsX40)
def wsX4_pair : List Cond := .code yX4_pair cX4_pair 5 (some .int) :: ([.constant RX4 98 (-1000001), .constant RX4 91 (-1000002), .fieldLink RX4 7 "NineDancersModel" "all" "[I", .methodLink RX4 95 yX4_isVillager, .static yX4_isVillager, .initialized RX4, .code yX4_isVillager cX4_isVillager 1 (some .boolean), .constantLong RX4 42 (8), .methodLink RX4 44 yX4_in, .static yX4_in, .code yX4_in cX4_in 6 (some .boolean), .methodLink RX4 61 yX4_pairAt, .static yX4_pairAt, .code yX4_pairAt cX4_pairAt 2 (some .int)] ++ wsX40)
def wsX4_partner : List Cond := .code yX4_partner cX4_partner 4 (some .int) :: ([.constant RX4 98 (-1000001), .constant RX4 91 (-1000002), .constant RX4 37 (-1000006), .methodLink RX4 95 yX4_isVillager, .static yX4_isVillager, .initialized RX4, .code yX4_isVillager cX4_isVillager 1 (some .boolean), .constantLong RX4 42 (8), .methodLink RX4 44 yX4_in, .static yX4_in, .code yX4_in cX4_in 6 (some .boolean), .methodLink RX4 104 yX4_isNumber, .static yX4_isNumber, .code yX4_isNumber cX4_isNumber 1 (some .boolean), .constantLong RX4 48 (999), .methodLink RX4 54 yX4_partnerBy, .static yX4_partnerBy, .code yX4_partnerBy cX4_partnerBy 2 (some .int)])
def wsX4_thoseThere : List Cond := .code yX4_thoseThere cX4_thoseThere 3 (some .int) :: ([.fieldLink RX4 7 "NineDancersModel" "all" "[I"] ++ wsX40)
def wsX4_count_r1 : List Cond := [Cond.fieldLink RX4 7 "NineDancersModel" "all" "[I", Cond.fieldLink RX4 126 "NineDancersModel" "textLong" "I", Cond.fieldLink RX4 38 "NineDancersModel" "historyLong" "I", Cond.constantLong RX4 129 (3), Cond.constant RX4 91 (-1000002), Cond.methodLink RX4 119 yX4_thoseThere, Cond.instanceMethod yX4_thoseThere, Cond.selects RX4 yX4_thoseThere yX4_thoseThere, Cond.initialized RX4, Cond.code yX4_thoseThere cX4_thoseThere 3 (some .int), Cond.methodLink RX4 100 yX4_sum, Cond.instanceMethod yX4_sum, Cond.selects RX4 yX4_sum yX4_sum, Cond.code yX4_sum cX4_sum 4 (some .int), Cond.methodLink RX4 123 yX4_newPairs, Cond.instanceMethod yX4_newPairs, Cond.selects RX4 yX4_newPairs yX4_newPairs, Cond.code yX4_newPairs cX4_newPairs 4 (some .int), Cond.methodLink RX4 79 yX4_isNew, Cond.instanceMethod yX4_isNew, Cond.selects RX4 yX4_isNew yX4_isNew, Cond.code yX4_isNew cX4_isNew 3 (some .boolean), Cond.methodLink RX4 50 yX4_isThere, Cond.instanceMethod yX4_isThere]
def wsX4_count_r2 : List Cond := [Cond.selects RX4 yX4_isThere yX4_isThere, Cond.code yX4_isThere cX4_isThere 2 (some .boolean), Cond.methodLink RX4 61 yX4_pairAt, Cond.static yX4_pairAt, Cond.code yX4_pairAt cX4_pairAt 2 (some .int), Cond.methodLink RX4 44 yX4_in, Cond.static yX4_in, Cond.code yX4_in cX4_in 6 (some .boolean)]
def wsX4_count : List Cond := .code yX4_count cX4_count 2 (some .int) :: ((wsX4_count_r1 ++ wsX4_count_r2) ++ wsX40)
def wsX4_joyBy : List Cond := .code yX4_joyBy cX4_joyBy 4 (some .int) :: ([.methodLink RX4 67 yX4_dances, .instanceMethod yX4_dances, .selects RX4 yX4_dances yX4_dances, .initialized RX4, .code yX4_dances cX4_dances 4 (some .boolean), .methodLink RX4 54 yX4_partnerBy, .static yX4_partnerBy, .code yX4_partnerBy cX4_partnerBy 2 (some .int), .methodLink RX4 58 yX4_canDance, .instanceMethod yX4_canDance, .selects RX4 yX4_canDance yX4_canDance, .code yX4_canDance cX4_canDance 2 (some .boolean), .fieldLink RX4 7 "NineDancersModel" "all" "[I", .methodLink RX4 50 yX4_isThere, .instanceMethod yX4_isThere, .selects RX4 yX4_isThere yX4_isThere, .code yX4_isThere cX4_isThere 2 (some .boolean), .methodLink RX4 64 yX4_joyOf, .instanceMethod yX4_joyOf, .selects RX4 yX4_joyOf yX4_joyOf, .code yX4_joyOf cX4_joyOf 3 (some .int), .methodLink RX4 61 yX4_pairAt, .static yX4_pairAt, .code yX4_pairAt cX4_pairAt 2 (some .int)] ++ wsX40)
def wsX4_villagersBy : List Cond := .code yX4_villagersBy cX4_villagersBy 7 (some .int) :: ([.fieldLink RX4 7 "NineDancersModel" "all" "[I", .methodLink RX4 54 yX4_partnerBy, .static yX4_partnerBy, .initialized RX4, .code yX4_partnerBy cX4_partnerBy 2 (some .int), .methodLink RX4 67 yX4_dances, .instanceMethod yX4_dances, .selects RX4 yX4_dances yX4_dances, .code yX4_dances cX4_dances 4 (some .boolean), .methodLink RX4 58 yX4_canDance, .instanceMethod yX4_canDance, .selects RX4 yX4_canDance yX4_canDance, .code yX4_canDance cX4_canDance 2 (some .boolean), .methodLink RX4 50 yX4_isThere, .instanceMethod yX4_isThere, .selects RX4 yX4_isThere yX4_isThere, .code yX4_isThere cX4_isThere 2 (some .boolean), .methodLink RX4 61 yX4_pairAt, .static yX4_pairAt, .code yX4_pairAt cX4_pairAt 2 (some .int)] ++ wsX40)
def wsX4_ifCalled_r1 : List Cond := [Cond.constantLong RX4 129 (3), Cond.constant RX4 91 (-1000002), Cond.methodLink RX4 104 yX4_isNumber, Cond.static yX4_isNumber, Cond.initialized RX4, Cond.code yX4_isNumber cX4_isNumber 1 (some .boolean), Cond.constantLong RX4 48 (999), Cond.methodLink RX4 44 yX4_in, Cond.static yX4_in, Cond.code yX4_in cX4_in 6 (some .boolean), Cond.methodLink RX4 131 yX4_joyBy, Cond.instanceMethod yX4_joyBy, Cond.selects RX4 yX4_joyBy yX4_joyBy, Cond.code yX4_joyBy cX4_joyBy 4 (some .int), Cond.methodLink RX4 67 yX4_dances, Cond.instanceMethod yX4_dances, Cond.selects RX4 yX4_dances yX4_dances, Cond.code yX4_dances cX4_dances 4 (some .boolean), Cond.methodLink RX4 54 yX4_partnerBy, Cond.static yX4_partnerBy, Cond.code yX4_partnerBy cX4_partnerBy 2 (some .int), Cond.methodLink RX4 58 yX4_canDance, Cond.instanceMethod yX4_canDance, Cond.selects RX4 yX4_canDance yX4_canDance]
def wsX4_ifCalled_r2 : List Cond := [Cond.code yX4_canDance cX4_canDance 2 (some .boolean), Cond.fieldLink RX4 7 "NineDancersModel" "all" "[I", Cond.methodLink RX4 50 yX4_isThere, Cond.instanceMethod yX4_isThere, Cond.selects RX4 yX4_isThere yX4_isThere, Cond.code yX4_isThere cX4_isThere 2 (some .boolean), Cond.methodLink RX4 64 yX4_joyOf, Cond.instanceMethod yX4_joyOf, Cond.selects RX4 yX4_joyOf yX4_joyOf, Cond.code yX4_joyOf cX4_joyOf 3 (some .int), Cond.methodLink RX4 61 yX4_pairAt, Cond.static yX4_pairAt, Cond.code yX4_pairAt cX4_pairAt 2 (some .int), Cond.methodLink RX4 134 yX4_villagersBy, Cond.instanceMethod yX4_villagersBy, Cond.selects RX4 yX4_villagersBy yX4_villagersBy, Cond.code yX4_villagersBy cX4_villagersBy 7 (some .int)]
def wsX4_ifCalled : List Cond := .code yX4_ifCalled cX4_ifCalled 3 (some .int) :: ((wsX4_ifCalled_r1 ++ wsX4_ifCalled_r2) ++ wsX40)
def wsX4_bestCall_r1 : List Cond := [Cond.constant RX4 91 (-1000002), Cond.methodLink RX4 44 yX4_in, Cond.static yX4_in, Cond.initialized RX4, Cond.code yX4_in cX4_in 6 (some .boolean), Cond.methodLink RX4 131 yX4_joyBy, Cond.instanceMethod yX4_joyBy, Cond.selects RX4 yX4_joyBy yX4_joyBy, Cond.code yX4_joyBy cX4_joyBy 4 (some .int), Cond.methodLink RX4 67 yX4_dances, Cond.instanceMethod yX4_dances, Cond.selects RX4 yX4_dances yX4_dances, Cond.code yX4_dances cX4_dances 4 (some .boolean), Cond.methodLink RX4 54 yX4_partnerBy, Cond.static yX4_partnerBy, Cond.code yX4_partnerBy cX4_partnerBy 2 (some .int), Cond.methodLink RX4 58 yX4_canDance, Cond.instanceMethod yX4_canDance, Cond.selects RX4 yX4_canDance yX4_canDance, Cond.code yX4_canDance cX4_canDance 2 (some .boolean), Cond.fieldLink RX4 7 "NineDancersModel" "all" "[I", Cond.methodLink RX4 50 yX4_isThere, Cond.instanceMethod yX4_isThere, Cond.selects RX4 yX4_isThere yX4_isThere]
def wsX4_bestCall_r2 : List Cond := [Cond.code yX4_isThere cX4_isThere 2 (some .boolean), Cond.methodLink RX4 64 yX4_joyOf, Cond.instanceMethod yX4_joyOf, Cond.selects RX4 yX4_joyOf yX4_joyOf, Cond.code yX4_joyOf cX4_joyOf 3 (some .int), Cond.methodLink RX4 61 yX4_pairAt, Cond.static yX4_pairAt, Cond.code yX4_pairAt cX4_pairAt 2 (some .int)]
def wsX4_bestCall : List Cond := .code yX4_bestCall cX4_bestCall 4 (some .int) :: ((wsX4_bestCall_r1 ++ wsX4_bestCall_r2) ++ wsX40)
def wsX4_fewestRounds : List Cond := .code yX4_fewestRounds cX4_fewestRounds 5 (some .int) :: ([.constant RX4 91 (-1000002), .methodLink RX4 44 yX4_in, .static yX4_in, .initialized RX4, .code yX4_in cX4_in 6 (some .boolean), .methodLink RX4 79 yX4_isNew, .instanceMethod yX4_isNew, .selects RX4 yX4_isNew yX4_isNew, .code yX4_isNew cX4_isNew 3 (some .boolean), .fieldLink RX4 7 "NineDancersModel" "all" "[I", .methodLink RX4 50 yX4_isThere, .instanceMethod yX4_isThere, .selects RX4 yX4_isThere yX4_isThere, .code yX4_isThere cX4_isThere 2 (some .boolean), .methodLink RX4 61 yX4_pairAt, .static yX4_pairAt, .code yX4_pairAt cX4_pairAt 2 (some .int)] ++ wsX40)
def wsX4_untilAllMet_r1 : List Cond := [Cond.constant RX4 37 (-1000006), Cond.methodLink RX4 137 yX4_keeps, Cond.instanceMethod yX4_keeps, Cond.selects RX4 yX4_keeps yX4_keeps, Cond.initialized RX4, Cond.code yX4_keeps cX4_keeps 2 none, Cond.fieldLink RX4 13 "NineDancersModel" "kept" "[I", Cond.fieldLink RX4 7 "NineDancersModel" "all" "[I", Cond.methodLink RX4 123 yX4_newPairs, Cond.instanceMethod yX4_newPairs, Cond.selects RX4 yX4_newPairs yX4_newPairs, Cond.code yX4_newPairs cX4_newPairs 4 (some .int), Cond.methodLink RX4 79 yX4_isNew, Cond.instanceMethod yX4_isNew, Cond.selects RX4 yX4_isNew yX4_isNew, Cond.code yX4_isNew cX4_isNew 3 (some .boolean), Cond.methodLink RX4 50 yX4_isThere, Cond.instanceMethod yX4_isThere, Cond.selects RX4 yX4_isThere yX4_isThere, Cond.code yX4_isThere cX4_isThere 2 (some .boolean), Cond.methodLink RX4 61 yX4_pairAt, Cond.static yX4_pairAt, Cond.code yX4_pairAt cX4_pairAt 2 (some .int), Cond.methodLink RX4 108 yX4_round]
def wsX4_untilAllMet_r2 : List Cond := [Cond.instanceMethod yX4_round, Cond.selects RX4 yX4_round yX4_round, Cond.code yX4_round cX4_round 5 (some .int), Cond.fieldLink RX4 25 "NineDancersModel" "dancing" "[I", Cond.methodLink RX4 67 yX4_dances, Cond.instanceMethod yX4_dances, Cond.selects RX4 yX4_dances yX4_dances, Cond.code yX4_dances cX4_dances 4 (some .boolean), Cond.methodLink RX4 54 yX4_partnerBy, Cond.static yX4_partnerBy, Cond.code yX4_partnerBy cX4_partnerBy 2 (some .int), Cond.methodLink RX4 58 yX4_canDance, Cond.instanceMethod yX4_canDance, Cond.selects RX4 yX4_canDance yX4_canDance, Cond.code yX4_canDance cX4_canDance 2 (some .boolean), Cond.methodLink RX4 71 yX4_danced, Cond.instanceMethod yX4_danced, Cond.selects RX4 yX4_danced yX4_danced, Cond.code yX4_danced cX4_danced 3 none, Cond.methodLink RX4 64 yX4_joyOf, Cond.instanceMethod yX4_joyOf, Cond.selects RX4 yX4_joyOf yX4_joyOf, Cond.code yX4_joyOf cX4_joyOf 3 (some .int), Cond.methodLink RX4 75 yX4_rested]
def wsX4_untilAllMet_r3 : List Cond := [Cond.instanceMethod yX4_rested, Cond.selects RX4 yX4_rested yX4_rested, Cond.code yX4_rested cX4_rested 4 none, Cond.methodLink RX4 140 yX4_comesBack, Cond.instanceMethod yX4_comesBack, Cond.selects RX4 yX4_comesBack yX4_comesBack, Cond.code yX4_comesBack cX4_comesBack 2 none]
def wsX4_untilAllMet : List Cond := .code yX4_untilAllMet cX4_untilAllMet 3 (some .int) :: ((wsX4_untilAllMet_r1 ++ (wsX4_untilAllMet_r2 ++ wsX4_untilAllMet_r3)) ++ wsX40)
def wsX4_charactersOf : List Cond := .code yX4_charactersOf cX4_charactersOf 5 (some .int) :: ([.constantLong RX4 143 (255), .constantLong RX4 145 (33), .constantLong RX4 147 (126), .methodLink RX4 44 yX4_in, .static yX4_in, .initialized RX4, .code yX4_in cX4_in 6 (some .boolean)])
def wsX4_put : List Cond := .code yX4_put cX4_put 5 (some .int) :: ([.constant RX4 91 (-1000002), .fieldLink RX4 126 "NineDancersModel" "textLong" "I", .constant RX4 107 (-1000004), .fieldLink RX4 28 "NineDancersModel" "text" "[I", .constantLong RX4 143 (255), .methodLink RX4 149 yX4_charactersOf, .static yX4_charactersOf, .initialized RX4, .code yX4_charactersOf cX4_charactersOf 5 (some .int), .constantLong RX4 145 (33), .constantLong RX4 147 (126), .methodLink RX4 44 yX4_in, .static yX4_in, .code yX4_in cX4_in 6 (some .boolean)] ++ wsX40)
def wsX4_wipe : List Cond := .code yX4_wipe cX4_wipe 2 (some .int) :: ([.fieldLink RX4 126 "NineDancersModel" "textLong" "I"] ++ wsX40)
def wsX4_isHere : List Cond := .code yX4_isHere cX4_isHere 3 (some .boolean) :: ([.fieldLink RX4 153 "NineDancersModel" "spot" "I", .fieldLink RX4 126 "NineDancersModel" "textLong" "I", .fieldLink RX4 28 "NineDancersModel" "text" "[I", .methodLink RX4 44 yX4_in, .static yX4_in, .initialized RX4, .code yX4_in cX4_in 6 (some .boolean)] ++ wsX40)
def wsX4_takesOne : List Cond := .code yX4_takesOne cX4_takesOne 3 (some .boolean) :: ([.fieldLink RX4 153 "NineDancersModel" "spot" "I", .methodLink RX4 156 yX4_isHere, .instanceMethod yX4_isHere, .selects RX4 yX4_isHere yX4_isHere, .initialized RX4, .code yX4_isHere cX4_isHere 3 (some .boolean), .fieldLink RX4 126 "NineDancersModel" "textLong" "I", .fieldLink RX4 28 "NineDancersModel" "text" "[I", .methodLink RX4 44 yX4_in, .static yX4_in, .code yX4_in cX4_in 6 (some .boolean)] ++ wsX40)
def wsX4_number : List Cond := .code yX4_number cX4_number 2 (some .int) :: ([.fieldLink RX4 28 "NineDancersModel" "text" "[I", .fieldLink RX4 153 "NineDancersModel" "spot" "I", .methodLink RX4 156 yX4_isHere, .instanceMethod yX4_isHere, .selects RX4 yX4_isHere yX4_isHere, .initialized RX4, .code yX4_isHere cX4_isHere 3 (some .boolean), .fieldLink RX4 126 "NineDancersModel" "textLong" "I", .methodLink RX4 44 yX4_in, .static yX4_in, .code yX4_in cX4_in 6 (some .boolean)] ++ wsX40)
def wsX4_readsCall : List Cond := .code yX4_readsCall cX4_readsCall 2 (some .boolean) :: ([.fieldLink RX4 31 "NineDancersModel" "times" "[I", .fieldLink RX4 162 "NineDancersModel" "read" "I", .constantLong RX4 82 (2), .constantLong RX4 86 (9), .fieldLink RX4 34 "NineDancersModel" "numbers" "[I", .methodLink RX4 159 yX4_number, .instanceMethod yX4_number, .selects RX4 yX4_number yX4_number, .initialized RX4, .code yX4_number cX4_number 2 (some .int), .fieldLink RX4 28 "NineDancersModel" "text" "[I", .fieldLink RX4 153 "NineDancersModel" "spot" "I", .methodLink RX4 156 yX4_isHere, .instanceMethod yX4_isHere, .selects RX4 yX4_isHere yX4_isHere, .code yX4_isHere cX4_isHere 3 (some .boolean), .fieldLink RX4 126 "NineDancersModel" "textLong" "I", .methodLink RX4 44 yX4_in, .static yX4_in, .code yX4_in cX4_in 6 (some .boolean), .methodLink RX4 165 yX4_takesOne, .instanceMethod yX4_takesOne, .selects RX4 yX4_takesOne yX4_takesOne, .code yX4_takesOne cX4_takesOne 3 (some .boolean)] ++ wsX40)
def wsX4_fault_r1 : List Cond := [Cond.fieldLink RX4 153 "NineDancersModel" "spot" "I", Cond.fieldLink RX4 162 "NineDancersModel" "read" "I", Cond.fieldLink RX4 126 "NineDancersModel" "textLong" "I", Cond.constant RX4 37 (-1000006), Cond.methodLink RX4 168 yX4_readsCall, Cond.instanceMethod yX4_readsCall, Cond.selects RX4 yX4_readsCall yX4_readsCall, Cond.initialized RX4, Cond.code yX4_readsCall cX4_readsCall 2 (some .boolean), Cond.fieldLink RX4 31 "NineDancersModel" "times" "[I", Cond.constantLong RX4 82 (2), Cond.constantLong RX4 86 (9), Cond.fieldLink RX4 34 "NineDancersModel" "numbers" "[I", Cond.methodLink RX4 159 yX4_number, Cond.instanceMethod yX4_number, Cond.selects RX4 yX4_number yX4_number, Cond.code yX4_number cX4_number 2 (some .int), Cond.fieldLink RX4 28 "NineDancersModel" "text" "[I", Cond.methodLink RX4 156 yX4_isHere, Cond.instanceMethod yX4_isHere, Cond.selects RX4 yX4_isHere yX4_isHere, Cond.code yX4_isHere cX4_isHere 3 (some .boolean), Cond.methodLink RX4 44 yX4_in, Cond.static yX4_in]
def wsX4_fault_r2 : List Cond := [Cond.code yX4_in cX4_in 6 (some .boolean), Cond.methodLink RX4 165 yX4_takesOne, Cond.instanceMethod yX4_takesOne, Cond.selects RX4 yX4_takesOne yX4_takesOne, Cond.code yX4_takesOne cX4_takesOne 3 (some .boolean)]
def wsX4_fault : List Cond := .code yX4_fault cX4_fault 2 (some .int) :: ((wsX4_fault_r1 ++ wsX4_fault_r2) ++ wsX40)
def wsX4_read_r1 : List Cond := [Cond.constant RX4 37 (-1000006), Cond.constant RX4 175 (-1000003), Cond.fieldLink RX4 162 "NineDancersModel" "read" "I", Cond.fieldLink RX4 31 "NineDancersModel" "times" "[I", Cond.fieldLink RX4 7 "NineDancersModel" "all" "[I", Cond.constant RX4 107 (-1000004), Cond.fieldLink RX4 34 "NineDancersModel" "numbers" "[I", Cond.fieldLink RX4 126 "NineDancersModel" "textLong" "I", Cond.methodLink RX4 172 yX4_fault, Cond.instanceMethod yX4_fault, Cond.selects RX4 yX4_fault yX4_fault, Cond.initialized RX4, Cond.code yX4_fault cX4_fault 2 (some .int), Cond.fieldLink RX4 153 "NineDancersModel" "spot" "I", Cond.methodLink RX4 168 yX4_readsCall, Cond.instanceMethod yX4_readsCall, Cond.selects RX4 yX4_readsCall yX4_readsCall, Cond.code yX4_readsCall cX4_readsCall 2 (some .boolean), Cond.constantLong RX4 82 (2), Cond.constantLong RX4 86 (9), Cond.methodLink RX4 159 yX4_number, Cond.instanceMethod yX4_number, Cond.selects RX4 yX4_number yX4_number, Cond.code yX4_number cX4_number 2 (some .int)]
def wsX4_read_r2 : List Cond := [Cond.fieldLink RX4 28 "NineDancersModel" "text" "[I", Cond.methodLink RX4 156 yX4_isHere, Cond.instanceMethod yX4_isHere, Cond.selects RX4 yX4_isHere yX4_isHere, Cond.code yX4_isHere cX4_isHere 3 (some .boolean), Cond.methodLink RX4 44 yX4_in, Cond.static yX4_in, Cond.code yX4_in cX4_in 6 (some .boolean), Cond.methodLink RX4 165 yX4_takesOne, Cond.instanceMethod yX4_takesOne, Cond.selects RX4 yX4_takesOne yX4_takesOne, Cond.code yX4_takesOne cX4_takesOne 3 (some .boolean), Cond.methodLink RX4 92 yX4_changes, Cond.instanceMethod yX4_changes, Cond.selects RX4 yX4_changes yX4_changes, Cond.code yX4_changes cX4_changes 2 none, Cond.fieldLink RX4 38 "NineDancersModel" "historyLong" "I", Cond.fieldLink RX4 16 "NineDancersModel" "history" "[I", Cond.methodLink RX4 108 yX4_round, Cond.instanceMethod yX4_round, Cond.selects RX4 yX4_round yX4_round, Cond.code yX4_round cX4_round 5 (some .int), Cond.fieldLink RX4 25 "NineDancersModel" "dancing" "[I", Cond.methodLink RX4 67 yX4_dances]
def wsX4_read_r3 : List Cond := [Cond.instanceMethod yX4_dances, Cond.selects RX4 yX4_dances yX4_dances, Cond.code yX4_dances cX4_dances 4 (some .boolean), Cond.methodLink RX4 54 yX4_partnerBy, Cond.static yX4_partnerBy, Cond.code yX4_partnerBy cX4_partnerBy 2 (some .int), Cond.methodLink RX4 58 yX4_canDance, Cond.instanceMethod yX4_canDance, Cond.selects RX4 yX4_canDance yX4_canDance, Cond.code yX4_canDance cX4_canDance 2 (some .boolean), Cond.methodLink RX4 50 yX4_isThere, Cond.instanceMethod yX4_isThere, Cond.selects RX4 yX4_isThere yX4_isThere, Cond.code yX4_isThere cX4_isThere 2 (some .boolean), Cond.methodLink RX4 71 yX4_danced, Cond.instanceMethod yX4_danced, Cond.selects RX4 yX4_danced yX4_danced, Cond.code yX4_danced cX4_danced 3 none, Cond.methodLink RX4 64 yX4_joyOf, Cond.instanceMethod yX4_joyOf, Cond.selects RX4 yX4_joyOf yX4_joyOf, Cond.code yX4_joyOf cX4_joyOf 3 (some .int), Cond.methodLink RX4 61 yX4_pairAt, Cond.static yX4_pairAt]
def wsX4_read_r4 : List Cond := [Cond.code yX4_pairAt cX4_pairAt 2 (some .int), Cond.methodLink RX4 75 yX4_rested, Cond.instanceMethod yX4_rested, Cond.selects RX4 yX4_rested yX4_rested, Cond.code yX4_rested cX4_rested 4 none]
def wsX4_read : List Cond := .code yX4_read cX4_read 5 (some .int) :: ((wsX4_read_r1 ++ (wsX4_read_r2 ++ (wsX4_read_r3 ++ wsX4_read_r4))) ++ wsX40)
def wsX4_undo : List Cond := .code yX4_undo cX4_undo 2 (some .int) :: ([.fieldLink RX4 38 "NineDancersModel" "historyLong" "I", .constant RX4 99 (-1000005), .fieldLink RX4 7 "NineDancersModel" "all" "[I", .fieldLink RX4 16 "NineDancersModel" "history" "[I"] ++ wsX40)
def wsX4_isSlot : List Cond := .code yX4_isSlot cX4_isSlot 1 (some .boolean) :: ([])
def wsX4_save : List Cond := .code yX4_save cX4_save 3 (some .int) :: ([.constant RX4 91 (-1000002), .fieldLink RX4 19 "NineDancersModel" "slots" "[I", .fieldLink RX4 7 "NineDancersModel" "all" "[I", .fieldLink RX4 22 "NineDancersModel" "isSaved" "[I", .methodLink RX4 176 yX4_isSlot, .static yX4_isSlot, .initialized RX4, .code yX4_isSlot cX4_isSlot 1 (some .boolean)] ++ wsX40)
def wsX4_restore : List Cond := .code yX4_restore cX4_restore 3 (some .int) :: ([.constant RX4 91 (-1000002), .fieldLink RX4 22 "NineDancersModel" "isSaved" "[I", .constant RX4 99 (-1000005), .fieldLink RX4 7 "NineDancersModel" "all" "[I", .fieldLink RX4 19 "NineDancersModel" "slots" "[I", .methodLink RX4 176 yX4_isSlot, .static yX4_isSlot, .initialized RX4, .code yX4_isSlot cX4_isSlot 1 (some .boolean), .methodLink RX4 92 yX4_changes, .instanceMethod yX4_changes, .selects RX4 yX4_changes yX4_changes, .code yX4_changes cX4_changes 2 none, .fieldLink RX4 38 "NineDancersModel" "historyLong" "I", .fieldLink RX4 16 "NineDancersModel" "history" "[I"] ++ wsX40)
def wsJ9_min_7cf53 : List Cond := .code yJ9_min_7cf53 cJ9_min_7cf53 2 (some .int) :: ([])
def wsL_law_r1 : List Cond := [Cond.classLink RL 7 RX3, Cond.instantiable RX3 5, Cond.initialized RX3, Cond.classLink RL 10 RX4, Cond.instantiable RX4 13, Cond.initialized RX4, Cond.constantLong RL 74 (4294967295), Cond.methodLink RL 9 yX3_init, Cond.instanceMethod yX3_init, Cond.code yX3_init cX3_init 1 none, Cond.methodLink RX3 3 objectInit, Cond.instanceMethod objectInit, Cond.code objectInit ⟨#[0xb1]⟩ 1 none, Cond.classLink RX3 9 RX2, Cond.instantiable RX2 13, Cond.initialized RX2, Cond.fieldLink RX3 12 "NineDancers" "ring" "LNineDancers$Ring;", Cond.fieldLink RX3 16 "NineDancers" "trial" "LNineDancers$Ring;", Cond.classLink RX3 19 RX1, Cond.instantiable RX1 2, Cond.initialized RX1, Cond.fieldLink RX3 22 "NineDancers" "pad" "LNineDancers$Pad;", Cond.classLink RX3 26 RX0, Cond.instantiable RX0 2]
def wsL_law_r2 : List Cond := [Cond.initialized RX0, Cond.fieldLink RX3 29 "NineDancers" "history" "LNineDancers$History;", Cond.fieldLink RX3 33 "NineDancers" "slots" "[LNineDancers$Ring;", Cond.methodLink RX3 11 yX2_init, Cond.instanceMethod yX2_init, Cond.code yX2_init cX2_init 1 none, Cond.methodLink RX2 3 objectInit, Cond.arrayClass .int, Cond.fieldLink RX2 9 "NineDancers$Ring" "settings" "[I", Cond.fieldLink RX2 15 "NineDancers$Ring" "there" "I", Cond.fieldLink RX2 19 "NineDancers$Ring" "strengths" "[I", Cond.fieldLink RX2 22 "NineDancers$Ring" "joys" "[I", Cond.fieldLink RX2 25 "NineDancers$Ring" "roundsDanced" "[I", Cond.fieldLink RX2 28 "NineDancers$Ring" "roundsRested" "[I", Cond.fieldLink RX2 31 "NineDancers$Ring" "roundsAlone" "[I", Cond.fieldLink RX2 34 "NineDancers$Ring" "likings" "[I", Cond.fieldLink RX2 37 "NineDancers$Ring" "dances" "[I", Cond.fieldLink RX2 40 "NineDancers$Ring" "lastDances" "[I", Cond.fieldLink RX2 43 "NineDancers$Ring" "timesTold" "[I", Cond.fieldLink RX2 46 "NineDancers$Ring" "rounds" "I", Cond.constant RX2 49 (-1000006), Cond.fieldLink RX2 50 "NineDancers$Ring" "lastNumber" "I", Cond.methodLink RX2 53 yJ7_fill_53178, Cond.static yJ7_fill_53178]
def wsL_law_r3 : List Cond := [Cond.initialized RJ7, Cond.code yJ7_fill_53178 cJ7_fill_53178 4 none, Cond.instanceMethod yX1_init, Cond.code yX1_init cX1_init 1 none, Cond.methodLink RX1 3 objectInit, Cond.arrayClass .char, Cond.fieldLink RX1 9 "NineDancers$Pad" "text" "[C", Cond.fieldLink RX1 15 "NineDancers$Pad" "length" "I", Cond.methodLink RX3 28 yX0_init, Cond.instanceMethod yX0_init, Cond.code yX0_init cX0_init 2 none, Cond.methodLink RX0 3 objectInit, Cond.classLink RX0 9 RX2, Cond.fieldLink RX0 11 "NineDancers$History" "states" "[LNineDancers$Ring;", Cond.fieldLink RX0 17 "NineDancers$History" "length" "I", Cond.methodLink RX0 21 yX2_init, Cond.methodLink RL 12 yX4_init, Cond.instanceMethod yX4_init, Cond.code yX4_init cX4_init 2 none, Cond.methodLink RX4 1 objectInit, Cond.fieldLink RX4 7 "NineDancersModel" "all" "[I", Cond.fieldLink RX4 13 "NineDancersModel" "kept" "[I", Cond.fieldLink RX4 16 "NineDancersModel" "history" "[I", Cond.fieldLink RX4 19 "NineDancersModel" "slots" "[I"]
def wsL_law_r4 : List Cond := [Cond.fieldLink RX4 22 "NineDancersModel" "isSaved" "[I", Cond.fieldLink RX4 25 "NineDancersModel" "dancing" "[I", Cond.fieldLink RX4 28 "NineDancersModel" "text" "[I", Cond.fieldLink RX4 31 "NineDancersModel" "times" "[I", Cond.fieldLink RX4 34 "NineDancersModel" "numbers" "[I", Cond.constant RX4 37 (-1000006), Cond.methodLink RL 13 yX3_set, Cond.instanceMethod yX3_set, Cond.selects RX3 yX3_set yX3_set, Cond.code yX3_set cX3_set 5 (some .int), Cond.constant RX3 37 (-1000002), Cond.fieldLink RX3 42 "NineDancers$Ring" "settings" "[I", Cond.methodLink RX3 38 yX0_remember, Cond.instanceMethod yX0_remember, Cond.selects RX0 yX0_remember yX0_remember, Cond.code yX0_remember cX0_remember 2 none, Cond.methodLink RX0 22 yX0_dropOldest, Cond.instanceMethod yX0_dropOldest, Cond.selects RX0 yX0_dropOldest yX0_dropOldest, Cond.code yX0_dropOldest cX0_dropOldest 3 none, Cond.methodLink RX0 25 yX2_copyFrom, Cond.instanceMethod yX2_copyFrom, Cond.selects RX2 yX2_copyFrom yX2_copyFrom, Cond.code yX2_copyFrom cX2_copyFrom 2 none]
def wsL_law_r5 : List Cond := [Cond.methodLink RX2 59 yX2_copyRow, Cond.static yX2_copyRow, Cond.code yX2_copyRow cX2_copyRow 2 none, Cond.methodLink RX2 63 Lib.Math.min.name, Cond.static Lib.Math.min.name, Cond.initialized "java/lang/Math", Cond.code Lib.Math.min.name Lib.Math.min.code 2 (some .int), Cond.methodLink RX2 69 arraycopyName, Cond.native arraycopyName, Cond.static arraycopyName, Cond.initialized "java/lang/System", Cond.methodLink RL 17 yX4_set, Cond.instanceMethod yX4_set, Cond.selects RX4 yX4_set yX4_set, Cond.code yX4_set cX4_set 4 (some .int), Cond.constant RX4 91 (-1000002), Cond.methodLink RX4 88 yX4_isSetting, Cond.static yX4_isSetting, Cond.code yX4_isSetting cX4_isSetting 2 (some .boolean), Cond.constantLong RX4 82 (2), Cond.constantLong RX4 84 (-9), Cond.constantLong RX4 86 (9), Cond.methodLink RX4 44 yX4_in, Cond.static yX4_in]
def wsL_law_r6 : List Cond := [Cond.code yX4_in cX4_in 6 (some .boolean), Cond.methodLink RX4 92 yX4_changes, Cond.instanceMethod yX4_changes, Cond.selects RX4 yX4_changes yX4_changes, Cond.code yX4_changes cX4_changes 2 none, Cond.fieldLink RX4 38 "NineDancersModel" "historyLong" "I", Cond.methodLink RL 18 yX3_like, Cond.instanceMethod yX3_like, Cond.selects RX3 yX3_like yX3_like, Cond.code yX3_like cX3_like 6 (some .int), Cond.constant RX3 50 (-1000001), Cond.fieldLink RX3 55 "NineDancers$Ring" "likings" "[I", Cond.methodLink RX3 46 yX3_isVillager, Cond.static yX3_isVillager, Cond.code yX3_isVillager cX3_isVillager 1 (some .boolean), Cond.methodLink RX3 51 yX3_pairIndex, Cond.static yX3_pairIndex, Cond.code yX3_pairIndex cX3_pairIndex 2 (some .int), Cond.methodLink RL 22 yX4_like, Cond.instanceMethod yX4_like, Cond.selects RX4 yX4_like yX4_like, Cond.code yX4_like cX4_like 5 (some .int), Cond.constant RX4 98 (-1000001), Cond.methodLink RX4 95 yX4_isVillager]
def wsL_law_r7 : List Cond := [Cond.static yX4_isVillager, Cond.code yX4_isVillager cX4_isVillager 1 (some .boolean), Cond.constantLong RX4 42 (8), Cond.methodLink RX4 61 yX4_pairAt, Cond.static yX4_pairAt, Cond.code yX4_pairAt cX4_pairAt 2 (some .int), Cond.methodLink RL 23 yX3_away, Cond.instanceMethod yX3_away, Cond.selects RX3 yX3_away yX3_away, Cond.code yX3_away cX3_away 3 (some .int), Cond.constant RX3 61 (-1000005), Cond.fieldLink RX3 62 "NineDancers$Ring" "there" "I", Cond.methodLink RX3 58 yX2_isThere, Cond.instanceMethod yX2_isThere, Cond.selects RX2 yX2_isThere yX2_isThere, Cond.code yX2_isThere cX2_isThere 2 (some .boolean), Cond.methodLink RX3 66 yJ6_bitCount_0f7a4, Cond.static yJ6_bitCount_0f7a4, Cond.initialized RJ6, Cond.code yJ6_bitCount_0f7a4 cJ6_bitCount_0f7a4 1 (some .int), Cond.constant RJ6 265 (1431655765), Cond.constant RJ6 266 (858993459), Cond.constant RJ6 267 (252645135), Cond.methodLink RL 27 yX4_away]
def wsL_law_r8 : List Cond := [Cond.instanceMethod yX4_away, Cond.selects RX4 yX4_away yX4_away, Cond.code yX4_away cX4_away 3 (some .int), Cond.constant RX4 99 (-1000005), Cond.methodLink RX4 50 yX4_isThere, Cond.instanceMethod yX4_isThere, Cond.selects RX4 yX4_isThere yX4_isThere, Cond.code yX4_isThere cX4_isThere 2 (some .boolean), Cond.methodLink RX4 100 yX4_sum, Cond.instanceMethod yX4_sum, Cond.selects RX4 yX4_sum yX4_sum, Cond.code yX4_sum cX4_sum 4 (some .int), Cond.methodLink RL 28 yX3_call, Cond.instanceMethod yX3_call, Cond.selects RX3 yX3_call yX3_call, Cond.code yX3_call cX3_call 2 (some .int), Cond.fieldLink RX3 75 "NineDancers$Ring" "rounds" "I", Cond.constant RX3 78 (-1000004), Cond.methodLink RX3 72 yX3_isNumber, Cond.static yX3_isNumber, Cond.code yX3_isNumber cX3_isNumber 1 (some .boolean), Cond.methodLink RX3 79 yX2_danceRound, Cond.instanceMethod yX2_danceRound, Cond.selects RX2 yX2_danceRound yX2_danceRound]
def wsL_law_r9 : List Cond := [Cond.code yX2_danceRound cX2_danceRound 5 (some .int), Cond.static yX3_counterpart, Cond.code yX3_counterpart cX3_counterpart 2 (some .int), Cond.methodLink RX3 118 yX3_remainderOf, Cond.static yX3_remainderOf, Cond.code yX3_remainderOf cX3_remainderOf 1 (some .int), Cond.methodLink RX3 173 yJ9_floorMod_7cf53, Cond.static yJ9_floorMod_7cf53, Cond.initialized RJ9, Cond.code yJ9_floorMod_7cf53 cJ9_floorMod_7cf53 3 (some .int), Cond.methodLink RX2 78 yX2_rest, Cond.instanceMethod yX2_rest, Cond.selects RX2 yX2_rest yX2_rest, Cond.code yX2_rest cX2_rest 2 none, Cond.methodLink RX2 97 yX2_isThere, Cond.methodLink RX2 82 yX2_wouldDance, Cond.instanceMethod yX2_wouldDance, Cond.selects RX2 yX2_wouldDance yX2_wouldDance, Cond.code yX2_wouldDance cX2_wouldDance 3 (some .boolean), Cond.methodLink RX2 86 yX2_dance, Cond.instanceMethod yX2_dance, Cond.selects RX2 yX2_dance yX2_dance, Cond.code yX2_dance cX2_dance 5 none, Cond.methodLink RX2 101 yX2_joyOfEach]
def wsL_law_r10 : List Cond := [Cond.instanceMethod yX2_joyOfEach, Cond.selects RX2 yX2_joyOfEach yX2_joyOfEach, Cond.code yX2_joyOfEach cX2_joyOfEach 3 (some .int), Cond.methodLink RX2 104 yX2_takePart, Cond.instanceMethod yX2_takePart, Cond.selects RX2 yX2_takePart yX2_takePart, Cond.code yX2_takePart cX2_takePart 3 none, Cond.methodLink RX2 90 yX2_leaveAlone, Cond.instanceMethod yX2_leaveAlone, Cond.selects RX2 yX2_leaveAlone yX2_leaveAlone, Cond.code yX2_leaveAlone cX2_leaveAlone 2 none, Cond.methodLink RL 32 yX4_call, Cond.instanceMethod yX4_call, Cond.selects RX4 yX4_call yX4_call, Cond.code yX4_call cX4_call 2 (some .int), Cond.constant RX4 107 (-1000004), Cond.methodLink RX4 104 yX4_isNumber, Cond.static yX4_isNumber, Cond.code yX4_isNumber cX4_isNumber 1 (some .boolean), Cond.constantLong RX4 48 (999), Cond.methodLink RX4 108 yX4_round, Cond.instanceMethod yX4_round, Cond.selects RX4 yX4_round yX4_round, Cond.code yX4_round cX4_round 5 (some .int)]
def wsL_law_r11 : List Cond := [Cond.methodLink RX4 67 yX4_dances, Cond.instanceMethod yX4_dances, Cond.selects RX4 yX4_dances yX4_dances, Cond.code yX4_dances cX4_dances 4 (some .boolean), Cond.methodLink RX4 54 yX4_partnerBy, Cond.static yX4_partnerBy, Cond.code yX4_partnerBy cX4_partnerBy 2 (some .int), Cond.methodLink RX4 58 yX4_canDance, Cond.instanceMethod yX4_canDance, Cond.selects RX4 yX4_canDance yX4_canDance, Cond.code yX4_canDance cX4_canDance 2 (some .boolean), Cond.methodLink RX4 71 yX4_danced, Cond.instanceMethod yX4_danced, Cond.selects RX4 yX4_danced yX4_danced, Cond.code yX4_danced cX4_danced 3 none, Cond.methodLink RX4 64 yX4_joyOf, Cond.instanceMethod yX4_joyOf, Cond.selects RX4 yX4_joyOf yX4_joyOf, Cond.code yX4_joyOf cX4_joyOf 3 (some .int), Cond.methodLink RX4 75 yX4_rested, Cond.instanceMethod yX4_rested, Cond.selects RX4 yX4_rested yX4_rested, Cond.code yX4_rested cX4_rested 4 none, Cond.methodLink RL 33 yX3_read]
def wsL_law_r12 : List Cond := [Cond.instanceMethod yX3_read, Cond.selects RX3 yX3_read yX3_read, Cond.code yX3_read cX3_read 2 (some .int), Cond.constant RX3 86 (-1000006), Cond.constant RX3 87 (-1000003), Cond.methodLink RX3 82 yX1_firstFault, Cond.instanceMethod yX1_firstFault, Cond.selects RX1 yX1_firstFault yX1_firstFault, Cond.code yX1_firstFault cX1_firstFault 6 (some .int), Cond.constant RX1 29 (-1000006), Cond.methodLink RX1 21 yX1_isDigit, Cond.static yX1_isDigit, Cond.code yX1_isDigit cX1_isDigit 1 (some .boolean), Cond.methodLink RX1 25 yX1_canTakeDigit, Cond.static yX1_canTakeDigit, Cond.code yX1_canTakeDigit cX1_canTakeDigit 2 (some .boolean), Cond.methodLink RX3 88 yX1_roundsInAll, Cond.instanceMethod yX1_roundsInAll, Cond.selects RX1 yX1_roundsInAll yX1_roundsInAll, Cond.code yX1_roundsInAll cX1_roundsInAll 3 (some .int), Cond.methodLink RX1 30 yX1_startsCall, Cond.instanceMethod yX1_startsCall, Cond.selects RX1 yX1_startsCall yX1_startsCall, Cond.code yX1_startsCall cX1_startsCall 2 (some .boolean)]
def wsL_law_r13 : List Cond := [Cond.methodLink RX1 34 yX1_timesAt, Cond.instanceMethod yX1_timesAt, Cond.selects RX1 yX1_timesAt yX1_timesAt, Cond.code yX1_timesAt cX1_timesAt 2 (some .int), Cond.methodLink RX1 38 yX1_hasTimes, Cond.instanceMethod yX1_hasTimes, Cond.selects RX1 yX1_hasTimes yX1_hasTimes, Cond.code yX1_hasTimes cX1_hasTimes 2 (some .boolean), Cond.methodLink RX3 91 yX3_tellNumbersOfPad, Cond.instanceMethod yX3_tellNumbersOfPad, Cond.selects RX3 yX3_tellNumbersOfPad yX3_tellNumbersOfPad, Cond.code yX3_tellNumbersOfPad cX3_tellNumbersOfPad 3 (some .int), Cond.fieldLink RX3 143 "NineDancers$Pad" "length" "I", Cond.methodLink RX3 184 yX1_startsCall, Cond.methodLink RX3 187 yX1_numberAt, Cond.instanceMethod yX1_numberAt, Cond.selects RX1 yX1_numberAt yX1_numberAt, Cond.code yX1_numberAt cX1_numberAt 5 (some .int), Cond.methodLink RX3 190 yX1_timesAt, Cond.methodLink RX3 193 yX3_tell, Cond.instanceMethod yX3_tell, Cond.selects RX3 yX3_tell yX3_tell, Cond.code yX3_tell cX3_tell 5 (some .int), Cond.methodLink RX3 94 yX1_empty]
def wsL_law_r14 : List Cond := [Cond.instanceMethod yX1_empty, Cond.selects RX1 yX1_empty yX1_empty, Cond.code yX1_empty cX1_empty 2 (some .int), Cond.methodLink RL 37 yX4_read, Cond.instanceMethod yX4_read, Cond.selects RX4 yX4_read yX4_read, Cond.code yX4_read cX4_read 5 (some .int), Cond.constant RX4 175 (-1000003), Cond.fieldLink RX4 162 "NineDancersModel" "read" "I", Cond.fieldLink RX4 126 "NineDancersModel" "textLong" "I", Cond.methodLink RX4 172 yX4_fault, Cond.instanceMethod yX4_fault, Cond.selects RX4 yX4_fault yX4_fault, Cond.code yX4_fault cX4_fault 2 (some .int), Cond.fieldLink RX4 153 "NineDancersModel" "spot" "I", Cond.methodLink RX4 168 yX4_readsCall, Cond.instanceMethod yX4_readsCall, Cond.selects RX4 yX4_readsCall yX4_readsCall, Cond.code yX4_readsCall cX4_readsCall 2 (some .boolean), Cond.methodLink RX4 159 yX4_number, Cond.instanceMethod yX4_number, Cond.selects RX4 yX4_number yX4_number, Cond.code yX4_number cX4_number 2 (some .int), Cond.methodLink RX4 156 yX4_isHere]
def wsL_law_r15 : List Cond := [Cond.instanceMethod yX4_isHere, Cond.selects RX4 yX4_isHere yX4_isHere, Cond.code yX4_isHere cX4_isHere 3 (some .boolean), Cond.methodLink RX4 165 yX4_takesOne, Cond.instanceMethod yX4_takesOne, Cond.selects RX4 yX4_takesOne yX4_takesOne, Cond.code yX4_takesOne cX4_takesOne 3 (some .boolean), Cond.methodLink RL 38 yX3_feed, Cond.instanceMethod yX3_feed, Cond.selects RX3 yX3_feed yX3_feed, Cond.code yX3_feed cX3_feed 4 (some .int), Cond.fieldLink RX3 97 "NineDancers$Ring" "strengths" "[I", Cond.methodLink RL 41 yX4_feed, Cond.instanceMethod yX4_feed, Cond.selects RX4 yX4_feed yX4_feed, Cond.code yX4_feed cX4_feed 4 (some .int), Cond.constantLong RX4 111 (20), Cond.methodLink RL 42 yX3_villager, Cond.instanceMethod yX3_villager, Cond.selects RX3 yX3_villager yX3_villager, Cond.code yX3_villager cX3_villager 3 (some .int), Cond.fieldLink RX3 100 "NineDancers$Ring" "joys" "[I", Cond.fieldLink RX3 103 "NineDancers$Ring" "roundsDanced" "[I", Cond.fieldLink RX3 106 "NineDancers$Ring" "roundsRested" "[I"]
def wsL_law_r16 : List Cond := [Cond.fieldLink RX3 109 "NineDancers$Ring" "roundsAlone" "[I", Cond.methodLink RX3 112 yX2_dancedWith, Cond.instanceMethod yX2_dancedWith, Cond.selects RX2 yX2_dancedWith yX2_dancedWith, Cond.code yX2_dancedWith cX2_dancedWith 4 (some .int), Cond.methodLink RX3 115 yX2_mostFrequentPartner, Cond.instanceMethod yX2_mostFrequentPartner, Cond.selects RX2 yX2_mostFrequentPartner yX2_mostFrequentPartner, Cond.code yX2_mostFrequentPartner cX2_mostFrequentPartner 6 (some .int), Cond.methodLink RL 45 yX4_villager, Cond.instanceMethod yX4_villager, Cond.selects RX4 yX4_villager yX4_villager, Cond.code yX4_villager cX4_villager 3 (some .int), Cond.methodLink RX4 113 yX4_metBy, Cond.instanceMethod yX4_metBy, Cond.selects RX4 yX4_metBy yX4_metBy, Cond.code yX4_metBy cX4_metBy 4 (some .int), Cond.methodLink RX4 116 yX4_mostOften, Cond.instanceMethod yX4_mostOften, Cond.selects RX4 yX4_mostOften yX4_mostOften, Cond.code yX4_mostOften cX4_mostOften 6 (some .int), Cond.methodLink RL 46 yX3_pair, Cond.instanceMethod yX3_pair, Cond.selects RX3 yX3_pair yX3_pair]
def wsL_law_r17 : List Cond := [Cond.code yX3_pair cX3_pair 6 (some .int), Cond.fieldLink RX3 121 "NineDancers$Ring" "dances" "[I", Cond.fieldLink RX3 124 "NineDancers$Ring" "timesTold" "[I", Cond.fieldLink RX3 127 "NineDancers$Ring" "lastDances" "[I", Cond.methodLink RL 49 yX4_pair, Cond.instanceMethod yX4_pair, Cond.selects RX4 yX4_pair yX4_pair, Cond.code yX4_pair cX4_pair 5 (some .int), Cond.methodLink RL 50 yX3_partner, Cond.instanceMethod yX3_partner, Cond.selects RX3 yX3_partner yX3_partner, Cond.code yX3_partner cX3_partner 4 (some .int), Cond.methodLink RX3 130 yX3_counterpart, Cond.methodLink RL 53 yX4_partner, Cond.instanceMethod yX4_partner, Cond.selects RX4 yX4_partner yX4_partner, Cond.code yX4_partner cX4_partner 4 (some .int), Cond.methodLink RL 54 yX3_count, Cond.instanceMethod yX3_count, Cond.selects RX3 yX3_count yX3_count, Cond.code yX3_count cX3_count 2 (some .int), Cond.fieldLink RX3 140 "NineDancers$Ring" "lastNumber" "I", Cond.fieldLink RX3 146 "NineDancers$History" "length" "I", Cond.methodLink RX3 133 yX3_sumOf]
def wsL_law_r18 : List Cond := [Cond.static yX3_sumOf, Cond.code yX3_sumOf cX3_sumOf 6 (some .int), Cond.methodLink RX3 137 yX2_unmetPairs, Cond.instanceMethod yX2_unmetPairs, Cond.selects RX2 yX2_unmetPairs yX2_unmetPairs, Cond.code yX2_unmetPairs cX2_unmetPairs 4 (some .int), Cond.methodLink RX2 110 yX2_isUnmet, Cond.instanceMethod yX2_isUnmet, Cond.selects RX2 yX2_isUnmet yX2_isUnmet, Cond.code yX2_isUnmet cX2_isUnmet 3 (some .boolean), Cond.methodLink RL 57 yX4_count, Cond.instanceMethod yX4_count, Cond.selects RX4 yX4_count yX4_count, Cond.code yX4_count cX4_count 2 (some .int), Cond.constantLong RX4 129 (3), Cond.methodLink RX4 119 yX4_thoseThere, Cond.instanceMethod yX4_thoseThere, Cond.selects RX4 yX4_thoseThere yX4_thoseThere, Cond.code yX4_thoseThere cX4_thoseThere 3 (some .int), Cond.methodLink RX4 123 yX4_newPairs, Cond.instanceMethod yX4_newPairs, Cond.selects RX4 yX4_newPairs yX4_newPairs, Cond.code yX4_newPairs cX4_newPairs 4 (some .int), Cond.methodLink RX4 79 yX4_isNew]
def wsL_law_r19 : List Cond := [Cond.instanceMethod yX4_isNew, Cond.selects RX4 yX4_isNew yX4_isNew, Cond.code yX4_isNew cX4_isNew 3 (some .boolean), Cond.methodLink RL 58 yX3_ifCalled, Cond.instanceMethod yX3_ifCalled, Cond.selects RX3 yX3_ifCalled yX3_ifCalled, Cond.code yX3_ifCalled cX3_ifCalled 3 (some .int), Cond.methodLink RX3 147 yX2_wouldBring, Cond.instanceMethod yX2_wouldBring, Cond.selects RX2 yX2_wouldBring yX2_wouldBring, Cond.code yX2_wouldBring cX2_wouldBring 6 (some .int), Cond.methodLink RX2 121 yX2_pairWouldBring, Cond.instanceMethod yX2_pairWouldBring, Cond.selects RX2 yX2_pairWouldBring yX2_pairWouldBring, Cond.code yX2_pairWouldBring cX2_pairWouldBring 5 (some .int), Cond.methodLink RX2 116 yJ6_bitCount_0f7a4, Cond.methodLink RL 61 yX4_ifCalled, Cond.instanceMethod yX4_ifCalled, Cond.selects RX4 yX4_ifCalled yX4_ifCalled, Cond.code yX4_ifCalled cX4_ifCalled 3 (some .int), Cond.methodLink RX4 131 yX4_joyBy, Cond.instanceMethod yX4_joyBy, Cond.selects RX4 yX4_joyBy yX4_joyBy, Cond.code yX4_joyBy cX4_joyBy 4 (some .int)]
def wsL_law_r20 : List Cond := [Cond.methodLink RX4 134 yX4_villagersBy, Cond.instanceMethod yX4_villagersBy, Cond.selects RX4 yX4_villagersBy yX4_villagersBy, Cond.code yX4_villagersBy cX4_villagersBy 7 (some .int), Cond.methodLink RL 62 yX3_bestCall, Cond.instanceMethod yX3_bestCall, Cond.selects RX3 yX3_bestCall yX3_bestCall, Cond.code yX3_bestCall cX3_bestCall 6 (some .int), Cond.methodLink RL 65 yX4_bestCall, Cond.instanceMethod yX4_bestCall, Cond.selects RX4 yX4_bestCall yX4_bestCall, Cond.code yX4_bestCall cX4_bestCall 4 (some .int), Cond.methodLink RL 66 yX3_fewestRounds, Cond.instanceMethod yX3_fewestRounds, Cond.selects RX3 yX3_fewestRounds yX3_fewestRounds, Cond.code yX3_fewestRounds cX3_fewestRounds 2 (some .int), Cond.methodLink RX3 150 yX2_remaindersWithUnmetPair, Cond.instanceMethod yX2_remaindersWithUnmetPair, Cond.selects RX2 yX2_remaindersWithUnmetPair yX2_remaindersWithUnmetPair, Cond.code yX2_remaindersWithUnmetPair cX2_remaindersWithUnmetPair 3 (some .int), Cond.methodLink RX2 113 yX2_hasUnmetPair, Cond.instanceMethod yX2_hasUnmetPair, Cond.selects RX2 yX2_hasUnmetPair yX2_hasUnmetPair, Cond.code yX2_hasUnmetPair cX2_hasUnmetPair 4 (some .boolean)]
def wsL_law_r21 : List Cond := [Cond.methodLink RX3 153 yX2_roundsByTrying, Cond.instanceMethod yX2_roundsByTrying, Cond.selects RX2 yX2_roundsByTrying yX2_roundsByTrying, Cond.code yX2_roundsByTrying cX2_roundsByTrying 4 (some .int), Cond.methodLink RL 69 yX4_fewestRounds, Cond.instanceMethod yX4_fewestRounds, Cond.selects RX4 yX4_fewestRounds yX4_fewestRounds, Cond.code yX4_fewestRounds cX4_fewestRounds 5 (some .int), Cond.methodLink RL 70 yX3_untilAllMet, Cond.instanceMethod yX3_untilAllMet, Cond.selects RX3 yX3_untilAllMet yX3_untilAllMet, Cond.code yX3_untilAllMet cX3_untilAllMet 4 (some .int), Cond.methodLink RX3 156 yX2_copyFrom, Cond.methodLink RL 73 yX4_untilAllMet, Cond.instanceMethod yX4_untilAllMet, Cond.selects RX4 yX4_untilAllMet yX4_untilAllMet, Cond.code yX4_untilAllMet cX4_untilAllMet 3 (some .int), Cond.methodLink RX4 137 yX4_keeps, Cond.instanceMethod yX4_keeps, Cond.selects RX4 yX4_keeps yX4_keeps, Cond.code yX4_keeps cX4_keeps 2 none, Cond.methodLink RX4 140 yX4_comesBack, Cond.instanceMethod yX4_comesBack, Cond.selects RX4 yX4_comesBack yX4_comesBack]
def wsL_law_r22 : List Cond := [Cond.code yX4_comesBack cX4_comesBack 2 none, Cond.methodLink RL 76 yX3_put, Cond.instanceMethod yX3_put, Cond.selects RX3 yX3_put yX3_put, Cond.code yX3_put cX3_put 4 (some .int), Cond.methodLink RX3 159 yX3_charactersIn, Cond.static yX3_charactersIn, Cond.code yX3_charactersIn cX3_charactersIn 7 (some .int), Cond.constantLong RX3 178 (255), Cond.constantLong RX3 180 (33), Cond.constantLong RX3 182 (126), Cond.methodLink RX3 163 yX1_append, Cond.instanceMethod yX1_append, Cond.selects RX1 yX1_append yX1_append, Cond.code yX1_append cX1_append 5 none, Cond.constantLong RX1 19 (255), Cond.methodLink RL 80 yX4_put, Cond.instanceMethod yX4_put, Cond.selects RX4 yX4_put yX4_put, Cond.code yX4_put cX4_put 5 (some .int), Cond.constantLong RX4 143 (255), Cond.methodLink RX4 149 yX4_charactersOf, Cond.static yX4_charactersOf, Cond.code yX4_charactersOf cX4_charactersOf 5 (some .int)]
def wsL_law_r23 : List Cond := [Cond.constantLong RX4 145 (33), Cond.constantLong RX4 147 (126), Cond.methodLink RL 81 yX3_wipe, Cond.instanceMethod yX3_wipe, Cond.selects RX3 yX3_wipe yX3_wipe, Cond.code yX3_wipe cX3_wipe 1 (some .int), Cond.methodLink RL 84 yX4_wipe, Cond.instanceMethod yX4_wipe, Cond.selects RX4 yX4_wipe yX4_wipe, Cond.code yX4_wipe cX4_wipe 2 (some .int), Cond.methodLink RL 85 yX3_fault, Cond.instanceMethod yX3_fault, Cond.selects RX3 yX3_fault yX3_fault, Cond.code yX3_fault cX3_fault 1 (some .int), Cond.methodLink RL 88 yX4_fault, Cond.methodLink RL 89 yX3_undo, Cond.instanceMethod yX3_undo, Cond.selects RX3 yX3_undo yX3_undo, Cond.code yX3_undo cX3_undo 1 (some .int), Cond.methodLink RX3 167 yX0_takeBackInto, Cond.instanceMethod yX0_takeBackInto, Cond.selects RX0 yX0_takeBackInto yX0_takeBackInto, Cond.code yX0_takeBackInto cX0_takeBackInto 2 none, Cond.methodLink RL 92 yX4_undo]
def wsL_law_r24 : List Cond := [Cond.instanceMethod yX4_undo, Cond.selects RX4 yX4_undo yX4_undo, Cond.code yX4_undo cX4_undo 2 (some .int), Cond.methodLink RL 93 yX3_save, Cond.instanceMethod yX3_save, Cond.selects RX3 yX3_save yX3_save, Cond.code yX3_save cX3_save 3 (some .int), Cond.methodLink RX3 170 yX3_isSlot, Cond.static yX3_isSlot, Cond.code yX3_isSlot cX3_isSlot 1 (some .boolean), Cond.methodLink RL 96 yX4_save, Cond.instanceMethod yX4_save, Cond.selects RX4 yX4_save yX4_save, Cond.code yX4_save cX4_save 3 (some .int), Cond.methodLink RX4 176 yX4_isSlot, Cond.static yX4_isSlot, Cond.code yX4_isSlot cX4_isSlot 1 (some .boolean), Cond.methodLink RL 97 yX3_restore, Cond.instanceMethod yX3_restore, Cond.selects RX3 yX3_restore yX3_restore, Cond.code yX3_restore cX3_restore 3 (some .int), Cond.methodLink RL 100 yX4_restore, Cond.instanceMethod yX4_restore, Cond.selects RX4 yX4_restore yX4_restore]
def wsL_law_r25 : List Cond := [Cond.code yX4_restore cX4_restore 3 (some .int)]
def wsL_law : List Cond := (wsL_law_r1 ++ (wsL_law_r2 ++ (wsL_law_r3 ++ (wsL_law_r4 ++ (wsL_law_r5 ++ (wsL_law_r6 ++ (wsL_law_r7 ++ (wsL_law_r8 ++ (wsL_law_r9 ++ (wsL_law_r10 ++ (wsL_law_r11 ++ (wsL_law_r12 ++ (wsL_law_r13 ++ (wsL_law_r14 ++ (wsL_law_r15 ++ (wsL_law_r16 ++ (wsL_law_r17 ++ (wsL_law_r18 ++ (wsL_law_r19 ++ (wsL_law_r20 ++ (wsL_law_r21 ++ (wsL_law_r22 ++ (wsL_law_r23 ++ (wsL_law_r24 ++ wsL_law_r25)))))))))))))))))))))))) ++ wsX30 ++ wsX40 ++ wsX20 ++ wsX10 ++ wsX00 ++ ([] : List Cond)
theorem inlX0 : ∀ w ∈ wsX00, w ∈ wsL_law := fun _ h => List.mem_append_left _ (List.mem_append_right _ h)
theorem inlX1 : ∀ w ∈ wsX10, w ∈ wsL_law := fun _ h => List.mem_append_left _ (List.mem_append_left _ (List.mem_append_right _ h))
theorem inlX2 : ∀ w ∈ wsX20, w ∈ wsL_law := fun _ h => List.mem_append_left _ (List.mem_append_left _ (List.mem_append_left _ (List.mem_append_right _ h)))
theorem inlX3 : ∀ w ∈ wsX30, w ∈ wsL_law := fun _ h => List.mem_append_left _ (List.mem_append_left _ (List.mem_append_left _ (List.mem_append_left _ (List.mem_append_left _ (List.mem_append_right _ h)))))
theorem inlX4 : ∀ w ∈ wsX40, w ∈ wsL_law := fun _ h => List.mem_append_left _ (List.mem_append_left _ (List.mem_append_left _ (List.mem_append_left _ (List.mem_append_right _ h))))
theorem inJ6 : ∀ w ∈ wsJ60, w ∈ lw_tbl := by decide +kernel
theorem inJ9 : ∀ w ∈ wsJ90, w ∈ lw_tbl := by decide +kernel
theorem inJ10 : ∀ w ∈ wsJ100, w ∈ lw_tbl := by decide +kernel
theorem inJ7 : ∀ w ∈ wsJ70, w ∈ lw_tbl := by decide +kernel
set_option maxRecDepth 20000 in
theorem ggX0_init_X2_init : GoodIn wsX0_init wsX2_init := goodIn_r _ [11, 12, 2, 3, 13, 14, 15, 16, 17, 18, 19, 20, 21, 22, 23, 24, 25, 26, 27, 28, 29, 30, 31, 34, 35, 36, 37, 38, 39, 40, 41, 42, 43, 44, 45, 46] (by decide +kernel) (by decide +kernel)
set_option maxRecDepth 20000 in
theorem gX0_init_X2_init : GoodIn wsX0_init (wsX2_init) := ggX0_init_X2_init
theorem dX0_init_0 : decode cX0_init 0 = .ok (.aload_n 0, 1) := by decide +kernel
theorem dX0_init_1 : decode cX0_init 1 = .ok (.invokespecial 3, 3) := by decide +kernel
theorem dX0_init_4 : decode cX0_init 4 = .ok (.aload_n 0, 1) := by decide +kernel
theorem dX0_init_5 : decode cX0_init 5 = .ok (.bipush 6, 2) := by decide +kernel
theorem dX0_init_7 : decode cX0_init 7 = .ok (.anewarray 9, 3) := by decide +kernel
theorem dX0_init_10 : decode cX0_init 10 = .ok (.putfield 11, 3) := by decide +kernel
theorem dX0_init_13 : decode cX0_init 13 = .ok (.aload_n 0, 1) := by decide +kernel
theorem dX0_init_14 : decode cX0_init 14 = .ok (.iconst 0, 1) := by decide +kernel
theorem dX0_init_15 : decode cX0_init 15 = .ok (.putfield 17, 3) := by decide +kernel
theorem dX0_init_18 : decode cX0_init 18 = .ok (.iconst 0, 1) := by decide +kernel
theorem dX0_init_19 : decode cX0_init 19 = .ok (.istore_n 1, 1) := by decide +kernel
theorem dX0_init_20 : decode cX0_init 20 = .ok (.iload_n 1, 1) := by decide +kernel
theorem dX0_init_21 : decode cX0_init 21 = .ok (.bipush 6, 2) := by decide +kernel
theorem dX0_init_23 : decode cX0_init 23 = .ok (.if_icmp .ge 22, 3) := by decide +kernel
theorem dX0_init_26 : decode cX0_init 26 = .ok (.aload_n 0, 1) := by decide +kernel
theorem dX0_init_27 : decode cX0_init 27 = .ok (.getfield 11, 3) := by decide +kernel
theorem dX0_init_30 : decode cX0_init 30 = .ok (.iload_n 1, 1) := by decide +kernel
theorem dX0_init_31 : decode cX0_init 31 = .ok (.new 9, 3) := by decide +kernel
theorem dX0_init_34 : decode cX0_init 34 = .ok (.dup, 1) := by decide +kernel
theorem dX0_init_35 : decode cX0_init 35 = .ok (.invokespecial 21, 3) := by decide +kernel
theorem dX0_init_38 : decode cX0_init 38 = .ok (.aastore, 1) := by decide +kernel
theorem dX0_init_39 : decode cX0_init 39 = .ok (.iinc 1 1, 3) := by decide +kernel
theorem dX0_init_42 : decode cX0_init 42 = .ok (.goto (-22), 3) := by decide +kernel
theorem dX0_init_45 : decode cX0_init 45 = .ok (.return_, 1) := by decide +kernel
set_option maxRecDepth 20000 in
theorem ggX0_remember_X0_dropOldest : GoodIn wsX0_remember wsX0_dropOldest := goodIn_r _ [7, 2, 1, 37, 38] (by decide +kernel) (by decide +kernel)
set_option maxRecDepth 20000 in
theorem gX0_remember_X0_dropOldest : GoodIn wsX0_remember (wsV RX0 22 RX0 yX0_dropOldest wsX0_dropOldest) := goodIn_app (goodIn_of _ (by decide +kernel)) ggX0_remember_X0_dropOldest
set_option maxRecDepth 20000 in
theorem ggX0_remember_X2_copyFrom : GoodIn wsX0_remember wsX2_copyFrom := goodIn_r _ [12, 13, 14, 15, 16, 17, 18, 19, 20, 21, 22, 23, 24, 25, 26, 27, 11, 28, 29, 30, 31, 32, 33, 34, 35, 36, 39, 40, 41, 42, 43, 44, 45, 46, 47, 48, 49, 50, 51] (by decide +kernel) (by decide +kernel)
set_option maxRecDepth 20000 in
theorem gX0_remember_X2_copyFrom : GoodIn wsX0_remember (wsV RX0 25 RX2 yX2_copyFrom wsX2_copyFrom) := goodIn_app (goodIn_of _ (by decide +kernel)) ggX0_remember_X2_copyFrom
theorem dX0_remember_0 : decode cX0_remember 0 = .ok (.aload_n 0, 1) := by decide +kernel
theorem dX0_remember_1 : decode cX0_remember 1 = .ok (.getfield 17, 3) := by decide +kernel
theorem dX0_remember_4 : decode cX0_remember 4 = .ok (.bipush 6, 2) := by decide +kernel
theorem dX0_remember_6 : decode cX0_remember 6 = .ok (.if_icmp .ne 7, 3) := by decide +kernel
theorem dX0_remember_9 : decode cX0_remember 9 = .ok (.aload_n 0, 1) := by decide +kernel
theorem dX0_remember_10 : decode cX0_remember 10 = .ok (.invokevirtual 22, 3) := by decide +kernel
theorem dX0_remember_13 : decode cX0_remember 13 = .ok (.aload_n 0, 1) := by decide +kernel
theorem dX0_remember_14 : decode cX0_remember 14 = .ok (.getfield 11, 3) := by decide +kernel
theorem dX0_remember_17 : decode cX0_remember 17 = .ok (.aload_n 0, 1) := by decide +kernel
theorem dX0_remember_18 : decode cX0_remember 18 = .ok (.getfield 17, 3) := by decide +kernel
theorem dX0_remember_21 : decode cX0_remember 21 = .ok (.aaload, 1) := by decide +kernel
theorem dX0_remember_22 : decode cX0_remember 22 = .ok (.aload_n 1, 1) := by decide +kernel
theorem dX0_remember_23 : decode cX0_remember 23 = .ok (.invokevirtual 25, 3) := by decide +kernel
theorem dX0_remember_26 : decode cX0_remember 26 = .ok (.aload_n 0, 1) := by decide +kernel
theorem dX0_remember_27 : decode cX0_remember 27 = .ok (.dup, 1) := by decide +kernel
theorem dX0_remember_28 : decode cX0_remember 28 = .ok (.getfield 17, 3) := by decide +kernel
theorem dX0_remember_31 : decode cX0_remember 31 = .ok (.iconst 1, 1) := by decide +kernel
theorem dX0_remember_32 : decode cX0_remember 32 = .ok (.iadd, 1) := by decide +kernel
theorem dX0_remember_33 : decode cX0_remember 33 = .ok (.putfield 17, 3) := by decide +kernel
theorem dX0_remember_36 : decode cX0_remember 36 = .ok (.return_, 1) := by decide +kernel
theorem dX0_dropOldest_0 : decode cX0_dropOldest 0 = .ok (.aload_n 0, 1) := by decide +kernel
theorem dX0_dropOldest_1 : decode cX0_dropOldest 1 = .ok (.getfield 11, 3) := by decide +kernel
theorem dX0_dropOldest_4 : decode cX0_dropOldest 4 = .ok (.iconst 0, 1) := by decide +kernel
theorem dX0_dropOldest_5 : decode cX0_dropOldest 5 = .ok (.aaload, 1) := by decide +kernel
theorem dX0_dropOldest_6 : decode cX0_dropOldest 6 = .ok (.astore_n 1, 1) := by decide +kernel
theorem dX0_dropOldest_7 : decode cX0_dropOldest 7 = .ok (.iconst 1, 1) := by decide +kernel
theorem dX0_dropOldest_8 : decode cX0_dropOldest 8 = .ok (.istore_n 2, 1) := by decide +kernel
theorem dX0_dropOldest_9 : decode cX0_dropOldest 9 = .ok (.iload_n 2, 1) := by decide +kernel
theorem dX0_dropOldest_10 : decode cX0_dropOldest 10 = .ok (.bipush 6, 2) := by decide +kernel
theorem dX0_dropOldest_12 : decode cX0_dropOldest 12 = .ok (.if_icmp .ge 23, 3) := by decide +kernel
theorem dX0_dropOldest_15 : decode cX0_dropOldest 15 = .ok (.aload_n 0, 1) := by decide +kernel
theorem dX0_dropOldest_16 : decode cX0_dropOldest 16 = .ok (.getfield 11, 3) := by decide +kernel
theorem dX0_dropOldest_19 : decode cX0_dropOldest 19 = .ok (.iload_n 2, 1) := by decide +kernel
theorem dX0_dropOldest_20 : decode cX0_dropOldest 20 = .ok (.iconst 1, 1) := by decide +kernel
theorem dX0_dropOldest_21 : decode cX0_dropOldest 21 = .ok (.isub, 1) := by decide +kernel
theorem dX0_dropOldest_22 : decode cX0_dropOldest 22 = .ok (.aload_n 0, 1) := by decide +kernel
theorem dX0_dropOldest_23 : decode cX0_dropOldest 23 = .ok (.getfield 11, 3) := by decide +kernel
theorem dX0_dropOldest_26 : decode cX0_dropOldest 26 = .ok (.iload_n 2, 1) := by decide +kernel
theorem dX0_dropOldest_27 : decode cX0_dropOldest 27 = .ok (.aaload, 1) := by decide +kernel
theorem dX0_dropOldest_28 : decode cX0_dropOldest 28 = .ok (.aastore, 1) := by decide +kernel
theorem dX0_dropOldest_29 : decode cX0_dropOldest 29 = .ok (.iinc 2 1, 3) := by decide +kernel
theorem dX0_dropOldest_32 : decode cX0_dropOldest 32 = .ok (.goto (-23), 3) := by decide +kernel
theorem dX0_dropOldest_35 : decode cX0_dropOldest 35 = .ok (.aload_n 0, 1) := by decide +kernel
theorem dX0_dropOldest_36 : decode cX0_dropOldest 36 = .ok (.getfield 11, 3) := by decide +kernel
theorem dX0_dropOldest_39 : decode cX0_dropOldest 39 = .ok (.iconst 5, 1) := by decide +kernel
theorem dX0_dropOldest_40 : decode cX0_dropOldest 40 = .ok (.aload_n 1, 1) := by decide +kernel
theorem dX0_dropOldest_41 : decode cX0_dropOldest 41 = .ok (.aastore, 1) := by decide +kernel
theorem dX0_dropOldest_42 : decode cX0_dropOldest 42 = .ok (.aload_n 0, 1) := by decide +kernel
theorem dX0_dropOldest_43 : decode cX0_dropOldest 43 = .ok (.dup, 1) := by decide +kernel
theorem dX0_dropOldest_44 : decode cX0_dropOldest 44 = .ok (.getfield 17, 3) := by decide +kernel
theorem dX0_dropOldest_47 : decode cX0_dropOldest 47 = .ok (.iconst 1, 1) := by decide +kernel
theorem dX0_dropOldest_48 : decode cX0_dropOldest 48 = .ok (.isub, 1) := by decide +kernel
theorem dX0_dropOldest_49 : decode cX0_dropOldest 49 = .ok (.putfield 17, 3) := by decide +kernel
theorem dX0_dropOldest_52 : decode cX0_dropOldest 52 = .ok (.return_, 1) := by decide +kernel
set_option maxRecDepth 20000 in
theorem ggX0_takeBackInto_X2_copyFrom : GoodIn wsX0_takeBackInto wsX2_copyFrom := goodIn_r _ [7, 8, 9, 10, 11, 12, 13, 14, 15, 16, 17, 18, 19, 20, 21, 22, 6, 23, 24, 25, 26, 27, 28, 29, 30, 31, 34, 35, 36, 37, 38, 39, 40, 41, 42, 43, 44, 45, 46] (by decide +kernel) (by decide +kernel)
set_option maxRecDepth 20000 in
theorem gX0_takeBackInto_X2_copyFrom : GoodIn wsX0_takeBackInto (wsV RX0 25 RX2 yX2_copyFrom wsX2_copyFrom) := goodIn_app (goodIn_of _ (by decide +kernel)) ggX0_takeBackInto_X2_copyFrom
theorem dX0_takeBackInto_0 : decode cX0_takeBackInto 0 = .ok (.aload_n 0, 1) := by decide +kernel
theorem dX0_takeBackInto_1 : decode cX0_takeBackInto 1 = .ok (.getfield 17, 3) := by decide +kernel
theorem dX0_takeBackInto_4 : decode cX0_takeBackInto 4 = .ok (.ifCond .le 26, 3) := by decide +kernel
theorem dX0_takeBackInto_7 : decode cX0_takeBackInto 7 = .ok (.aload_n 0, 1) := by decide +kernel
theorem dX0_takeBackInto_8 : decode cX0_takeBackInto 8 = .ok (.dup, 1) := by decide +kernel
theorem dX0_takeBackInto_9 : decode cX0_takeBackInto 9 = .ok (.getfield 17, 3) := by decide +kernel
theorem dX0_takeBackInto_12 : decode cX0_takeBackInto 12 = .ok (.iconst 1, 1) := by decide +kernel
theorem dX0_takeBackInto_13 : decode cX0_takeBackInto 13 = .ok (.isub, 1) := by decide +kernel
theorem dX0_takeBackInto_14 : decode cX0_takeBackInto 14 = .ok (.putfield 17, 3) := by decide +kernel
theorem dX0_takeBackInto_17 : decode cX0_takeBackInto 17 = .ok (.aload_n 1, 1) := by decide +kernel
theorem dX0_takeBackInto_18 : decode cX0_takeBackInto 18 = .ok (.aload_n 0, 1) := by decide +kernel
theorem dX0_takeBackInto_19 : decode cX0_takeBackInto 19 = .ok (.getfield 11, 3) := by decide +kernel
theorem dX0_takeBackInto_22 : decode cX0_takeBackInto 22 = .ok (.aload_n 0, 1) := by decide +kernel
theorem dX0_takeBackInto_23 : decode cX0_takeBackInto 23 = .ok (.getfield 17, 3) := by decide +kernel
theorem dX0_takeBackInto_26 : decode cX0_takeBackInto 26 = .ok (.aaload, 1) := by decide +kernel
theorem dX0_takeBackInto_27 : decode cX0_takeBackInto 27 = .ok (.invokevirtual 25, 3) := by decide +kernel
theorem dX0_takeBackInto_30 : decode cX0_takeBackInto 30 = .ok (.return_, 1) := by decide +kernel
theorem dX1_init_0 : decode cX1_init 0 = .ok (.aload_n 0, 1) := by decide +kernel
theorem dX1_init_1 : decode cX1_init 1 = .ok (.invokespecial 3, 3) := by decide +kernel
theorem dX1_init_4 : decode cX1_init 4 = .ok (.aload_n 0, 1) := by decide +kernel
theorem dX1_init_5 : decode cX1_init 5 = .ok (.bipush 60, 2) := by decide +kernel
theorem dX1_init_7 : decode cX1_init 7 = .ok (.newarray .char, 2) := by decide +kernel
theorem dX1_init_9 : decode cX1_init 9 = .ok (.putfield 9, 3) := by decide +kernel
theorem dX1_init_12 : decode cX1_init 12 = .ok (.aload_n 0, 1) := by decide +kernel
theorem dX1_init_13 : decode cX1_init 13 = .ok (.iconst 0, 1) := by decide +kernel
theorem dX1_init_14 : decode cX1_init 14 = .ok (.putfield 15, 3) := by decide +kernel
theorem dX1_init_17 : decode cX1_init 17 = .ok (.return_, 1) := by decide +kernel
theorem dX1_append_0 : decode cX1_append 0 = .ok (.aload_n 0, 1) := by decide +kernel
theorem dX1_append_1 : decode cX1_append 1 = .ok (.getfield 15, 3) := by decide +kernel
theorem dX1_append_4 : decode cX1_append 4 = .ok (.iload_n 3, 1) := by decide +kernel
theorem dX1_append_5 : decode cX1_append 5 = .ok (.iadd, 1) := by decide +kernel
theorem dX1_append_6 : decode cX1_append 6 = .ok (.iconst 1, 1) := by decide +kernel
theorem dX1_append_7 : decode cX1_append 7 = .ok (.isub, 1) := by decide +kernel
theorem dX1_append_8 : decode cX1_append 8 = .ok (.istore 4, 2) := by decide +kernel
theorem dX1_append_10 : decode cX1_append 10 = .ok (.iload 4, 2) := by decide +kernel
theorem dX1_append_12 : decode cX1_append 12 = .ok (.aload_n 0, 1) := by decide +kernel
theorem dX1_append_13 : decode cX1_append 13 = .ok (.getfield 15, 3) := by decide +kernel
theorem dX1_append_16 : decode cX1_append 16 = .ok (.if_icmp .lt 38, 3) := by decide +kernel
theorem dX1_append_19 : decode cX1_append 19 = .ok (.aload_n 0, 1) := by decide +kernel
theorem dX1_append_20 : decode cX1_append 20 = .ok (.getfield 9, 3) := by decide +kernel
theorem dX1_append_23 : decode cX1_append 23 = .ok (.iload 4, 2) := by decide +kernel
theorem dX1_append_25 : decode cX1_append 25 = .ok (.lload_n 1, 1) := by decide +kernel
theorem dX1_append_26 : decode cX1_append 26 = .ok (.bipush 8, 2) := by decide +kernel
theorem dX1_append_28 : decode cX1_append 28 = .ok (.aload_n 0, 1) := by decide +kernel
theorem dX1_append_29 : decode cX1_append 29 = .ok (.getfield 15, 3) := by decide +kernel
theorem dX1_append_32 : decode cX1_append 32 = .ok (.iload_n 3, 1) := by decide +kernel
theorem dX1_append_33 : decode cX1_append 33 = .ok (.iadd, 1) := by decide +kernel
theorem dX1_append_34 : decode cX1_append 34 = .ok (.iconst 1, 1) := by decide +kernel
theorem dX1_append_35 : decode cX1_append 35 = .ok (.isub, 1) := by decide +kernel
theorem dX1_append_36 : decode cX1_append 36 = .ok (.iload 4, 2) := by decide +kernel
theorem dX1_append_38 : decode cX1_append 38 = .ok (.isub, 1) := by decide +kernel
theorem dX1_append_39 : decode cX1_append 39 = .ok (.imul, 1) := by decide +kernel
theorem dX1_append_40 : decode cX1_append 40 = .ok (.lushr, 1) := by decide +kernel
theorem dX1_append_41 : decode cX1_append 41 = .ok (.ldc2_w 19, 3) := by decide +kernel
theorem dX1_append_44 : decode cX1_append 44 = .ok (.land, 1) := by decide +kernel
theorem dX1_append_45 : decode cX1_append 45 = .ok (.l2i, 1) := by decide +kernel
theorem dX1_append_46 : decode cX1_append 46 = .ok (.i2c, 1) := by decide +kernel
theorem dX1_append_47 : decode cX1_append 47 = .ok (.castore, 1) := by decide +kernel
theorem dX1_append_48 : decode cX1_append 48 = .ok (.iinc 4 (-1), 3) := by decide +kernel
theorem dX1_append_51 : decode cX1_append 51 = .ok (.goto (-41), 3) := by decide +kernel
theorem dX1_append_54 : decode cX1_append 54 = .ok (.aload_n 0, 1) := by decide +kernel
theorem dX1_append_55 : decode cX1_append 55 = .ok (.dup, 1) := by decide +kernel
theorem dX1_append_56 : decode cX1_append 56 = .ok (.getfield 15, 3) := by decide +kernel
theorem dX1_append_59 : decode cX1_append 59 = .ok (.iload_n 3, 1) := by decide +kernel
theorem dX1_append_60 : decode cX1_append 60 = .ok (.iadd, 1) := by decide +kernel
theorem dX1_append_61 : decode cX1_append 61 = .ok (.putfield 15, 3) := by decide +kernel
theorem dX1_append_64 : decode cX1_append 64 = .ok (.return_, 1) := by decide +kernel
theorem dX1_empty_0 : decode cX1_empty 0 = .ok (.aload_n 0, 1) := by decide +kernel
theorem dX1_empty_1 : decode cX1_empty 1 = .ok (.getfield 15, 3) := by decide +kernel
theorem dX1_empty_4 : decode cX1_empty 4 = .ok (.istore_n 1, 1) := by decide +kernel
theorem dX1_empty_5 : decode cX1_empty 5 = .ok (.aload_n 0, 1) := by decide +kernel
theorem dX1_empty_6 : decode cX1_empty 6 = .ok (.iconst 0, 1) := by decide +kernel
theorem dX1_empty_7 : decode cX1_empty 7 = .ok (.putfield 15, 3) := by decide +kernel
theorem dX1_empty_10 : decode cX1_empty 10 = .ok (.iload_n 1, 1) := by decide +kernel
theorem dX1_empty_11 : decode cX1_empty 11 = .ok (.ireturn, 1) := by decide +kernel
set_option maxRecDepth 20000 in
theorem ggX1_firstFault_X1_isDigit : GoodIn wsX1_firstFault wsX1_isDigit := goodIn_r _ [7] (by decide +kernel) (by decide +kernel)
set_option maxRecDepth 20000 in
theorem gX1_firstFault_X1_isDigit : GoodIn wsX1_firstFault (va_wsS RX1 21 yX1_isDigit wsX1_isDigit) := goodIn_app (goodIn_of _ (by decide +kernel)) ggX1_firstFault_X1_isDigit
set_option maxRecDepth 20000 in
theorem ggX1_firstFault_X1_canTakeDigit : GoodIn wsX1_firstFault wsX1_canTakeDigit := goodIn_r _ [10] (by decide +kernel) (by decide +kernel)
set_option maxRecDepth 20000 in
theorem gX1_firstFault_X1_canTakeDigit : GoodIn wsX1_firstFault (va_wsS RX1 25 yX1_canTakeDigit wsX1_canTakeDigit) := goodIn_app (goodIn_of _ (by decide +kernel)) ggX1_firstFault_X1_canTakeDigit
theorem dX1_firstFault_0 : decode cX1_firstFault 0 = .ok (.iconst 0, 1) := by decide +kernel
theorem dX1_firstFault_1 : decode cX1_firstFault 1 = .ok (.istore_n 1, 1) := by decide +kernel
theorem dX1_firstFault_2 : decode cX1_firstFault 2 = .ok (.iconst 0, 1) := by decide +kernel
theorem dX1_firstFault_3 : decode cX1_firstFault 3 = .ok (.istore_n 2, 1) := by decide +kernel
theorem dX1_firstFault_4 : decode cX1_firstFault 4 = .ok (.iconst 0, 1) := by decide +kernel
theorem dX1_firstFault_5 : decode cX1_firstFault 5 = .ok (.istore_n 3, 1) := by decide +kernel
theorem dX1_firstFault_6 : decode cX1_firstFault 6 = .ok (.iconst 0, 1) := by decide +kernel
theorem dX1_firstFault_7 : decode cX1_firstFault 7 = .ok (.istore 4, 2) := by decide +kernel
theorem dX1_firstFault_9 : decode cX1_firstFault 9 = .ok (.iload 4, 2) := by decide +kernel
theorem dX1_firstFault_11 : decode cX1_firstFault 11 = .ok (.aload_n 0, 1) := by decide +kernel
theorem dX1_firstFault_12 : decode cX1_firstFault 12 = .ok (.getfield 15, 3) := by decide +kernel
theorem dX1_firstFault_15 : decode cX1_firstFault 15 = .ok (.if_icmp .ge 104, 3) := by decide +kernel
theorem dX1_firstFault_18 : decode cX1_firstFault 18 = .ok (.aload_n 0, 1) := by decide +kernel
theorem dX1_firstFault_19 : decode cX1_firstFault 19 = .ok (.getfield 9, 3) := by decide +kernel
theorem dX1_firstFault_22 : decode cX1_firstFault 22 = .ok (.iload 4, 2) := by decide +kernel
theorem dX1_firstFault_24 : decode cX1_firstFault 24 = .ok (.caload, 1) := by decide +kernel
theorem dX1_firstFault_25 : decode cX1_firstFault 25 = .ok (.istore 5, 2) := by decide +kernel
theorem dX1_firstFault_27 : decode cX1_firstFault 27 = .ok (.iload 5, 2) := by decide +kernel
theorem dX1_firstFault_29 : decode cX1_firstFault 29 = .ok (.invokestatic 21, 3) := by decide +kernel
theorem dX1_firstFault_32 : decode cX1_firstFault 32 = .ok (.ifCond .eq 28, 3) := by decide +kernel
theorem dX1_firstFault_35 : decode cX1_firstFault 35 = .ok (.iload_n 1, 1) := by decide +kernel
theorem dX1_firstFault_36 : decode cX1_firstFault 36 = .ok (.iload_n 2, 1) := by decide +kernel
theorem dX1_firstFault_37 : decode cX1_firstFault 37 = .ok (.invokestatic 25, 3) := by decide +kernel
theorem dX1_firstFault_40 : decode cX1_firstFault 40 = .ok (.ifCond .eq 20, 3) := by decide +kernel
theorem dX1_firstFault_43 : decode cX1_firstFault 43 = .ok (.bipush 10, 2) := by decide +kernel
theorem dX1_firstFault_45 : decode cX1_firstFault 45 = .ok (.iload_n 1, 1) := by decide +kernel
theorem dX1_firstFault_46 : decode cX1_firstFault 46 = .ok (.imul, 1) := by decide +kernel
theorem dX1_firstFault_47 : decode cX1_firstFault 47 = .ok (.iload 5, 2) := by decide +kernel
theorem dX1_firstFault_49 : decode cX1_firstFault 49 = .ok (.bipush 48, 2) := by decide +kernel
theorem dX1_firstFault_51 : decode cX1_firstFault 51 = .ok (.isub, 1) := by decide +kernel
theorem dX1_firstFault_52 : decode cX1_firstFault 52 = .ok (.iadd, 1) := by decide +kernel
theorem dX1_firstFault_53 : decode cX1_firstFault 53 = .ok (.istore_n 1, 1) := by decide +kernel
theorem dX1_firstFault_54 : decode cX1_firstFault 54 = .ok (.iinc 2 1, 3) := by decide +kernel
theorem dX1_firstFault_57 : decode cX1_firstFault 57 = .ok (.goto 56, 3) := by decide +kernel
theorem dX1_firstFault_60 : decode cX1_firstFault 60 = .ok (.iload 5, 2) := by decide +kernel
theorem dX1_firstFault_62 : decode cX1_firstFault 62 = .ok (.bipush 42, 2) := by decide +kernel
theorem dX1_firstFault_64 : decode cX1_firstFault 64 = .ok (.if_icmp .ne 26, 3) := by decide +kernel
theorem dX1_firstFault_67 : decode cX1_firstFault 67 = .ok (.iload_n 3, 1) := by decide +kernel
theorem dX1_firstFault_68 : decode cX1_firstFault 68 = .ok (.ifCond .ne 22, 3) := by decide +kernel
theorem dX1_firstFault_71 : decode cX1_firstFault 71 = .ok (.iload_n 2, 1) := by decide +kernel
theorem dX1_firstFault_72 : decode cX1_firstFault 72 = .ok (.iconst 1, 1) := by decide +kernel
theorem dX1_firstFault_73 : decode cX1_firstFault 73 = .ok (.if_icmp .ne 17, 3) := by decide +kernel
theorem dX1_firstFault_76 : decode cX1_firstFault 76 = .ok (.iload_n 1, 1) := by decide +kernel
theorem dX1_firstFault_77 : decode cX1_firstFault 77 = .ok (.iconst 2, 1) := by decide +kernel
theorem dX1_firstFault_78 : decode cX1_firstFault 78 = .ok (.if_icmp .lt 12, 3) := by decide +kernel
theorem dX1_firstFault_81 : decode cX1_firstFault 81 = .ok (.iconst 0, 1) := by decide +kernel
theorem dX1_firstFault_82 : decode cX1_firstFault 82 = .ok (.istore_n 1, 1) := by decide +kernel
theorem dX1_firstFault_83 : decode cX1_firstFault 83 = .ok (.iconst 0, 1) := by decide +kernel
theorem dX1_firstFault_84 : decode cX1_firstFault 84 = .ok (.istore_n 2, 1) := by decide +kernel
theorem dX1_firstFault_85 : decode cX1_firstFault 85 = .ok (.iconst 1, 1) := by decide +kernel
theorem dX1_firstFault_86 : decode cX1_firstFault 86 = .ok (.istore_n 3, 1) := by decide +kernel
theorem dX1_firstFault_87 : decode cX1_firstFault 87 = .ok (.goto 26, 3) := by decide +kernel
theorem dX1_firstFault_90 : decode cX1_firstFault 90 = .ok (.iload 5, 2) := by decide +kernel
theorem dX1_firstFault_92 : decode cX1_firstFault 92 = .ok (.bipush 44, 2) := by decide +kernel
theorem dX1_firstFault_94 : decode cX1_firstFault 94 = .ok (.if_icmp .ne 16, 3) := by decide +kernel
theorem dX1_firstFault_97 : decode cX1_firstFault 97 = .ok (.iload_n 2, 1) := by decide +kernel
theorem dX1_firstFault_98 : decode cX1_firstFault 98 = .ok (.ifCond .le 12, 3) := by decide +kernel
theorem dX1_firstFault_101 : decode cX1_firstFault 101 = .ok (.iconst 0, 1) := by decide +kernel
theorem dX1_firstFault_102 : decode cX1_firstFault 102 = .ok (.istore_n 1, 1) := by decide +kernel
theorem dX1_firstFault_103 : decode cX1_firstFault 103 = .ok (.iconst 0, 1) := by decide +kernel
theorem dX1_firstFault_104 : decode cX1_firstFault 104 = .ok (.istore_n 2, 1) := by decide +kernel
theorem dX1_firstFault_105 : decode cX1_firstFault 105 = .ok (.iconst 0, 1) := by decide +kernel
theorem dX1_firstFault_106 : decode cX1_firstFault 106 = .ok (.istore_n 3, 1) := by decide +kernel
theorem dX1_firstFault_107 : decode cX1_firstFault 107 = .ok (.goto 6, 3) := by decide +kernel
theorem dX1_firstFault_110 : decode cX1_firstFault 110 = .ok (.iload 4, 2) := by decide +kernel
theorem dX1_firstFault_112 : decode cX1_firstFault 112 = .ok (.ireturn, 1) := by decide +kernel
theorem dX1_firstFault_113 : decode cX1_firstFault 113 = .ok (.iinc 4 1, 3) := by decide +kernel
theorem dX1_firstFault_116 : decode cX1_firstFault 116 = .ok (.goto (-107), 3) := by decide +kernel
theorem dX1_firstFault_119 : decode cX1_firstFault 119 = .ok (.iload_n 2, 1) := by decide +kernel
theorem dX1_firstFault_120 : decode cX1_firstFault 120 = .ok (.ifCond .le 8, 3) := by decide +kernel
theorem dX1_firstFault_123 : decode cX1_firstFault 123 = .ok (.ldc 29, 2) := by decide +kernel
theorem dX1_firstFault_125 : decode cX1_firstFault 125 = .ok (.goto 7, 3) := by decide +kernel
theorem dX1_firstFault_128 : decode cX1_firstFault 128 = .ok (.aload_n 0, 1) := by decide +kernel
theorem dX1_firstFault_129 : decode cX1_firstFault 129 = .ok (.getfield 15, 3) := by decide +kernel
theorem dX1_firstFault_132 : decode cX1_firstFault 132 = .ok (.ireturn, 1) := by decide +kernel
theorem dX1_isDigit_0 : decode cX1_isDigit 0 = .ok (.iload_n 0, 1) := by decide +kernel
theorem dX1_isDigit_1 : decode cX1_isDigit 1 = .ok (.bipush 48, 2) := by decide +kernel
theorem dX1_isDigit_3 : decode cX1_isDigit 3 = .ok (.if_icmp .lt 13, 3) := by decide +kernel
theorem dX1_isDigit_6 : decode cX1_isDigit 6 = .ok (.iload_n 0, 1) := by decide +kernel
theorem dX1_isDigit_7 : decode cX1_isDigit 7 = .ok (.bipush 57, 2) := by decide +kernel
theorem dX1_isDigit_9 : decode cX1_isDigit 9 = .ok (.if_icmp .gt 7, 3) := by decide +kernel
theorem dX1_isDigit_12 : decode cX1_isDigit 12 = .ok (.iconst 1, 1) := by decide +kernel
theorem dX1_isDigit_13 : decode cX1_isDigit 13 = .ok (.goto 4, 3) := by decide +kernel
theorem dX1_isDigit_16 : decode cX1_isDigit 16 = .ok (.iconst 0, 1) := by decide +kernel
theorem dX1_isDigit_17 : decode cX1_isDigit 17 = .ok (.ireturn, 1) := by decide +kernel
theorem dX1_canTakeDigit_0 : decode cX1_canTakeDigit 0 = .ok (.iload_n 1, 1) := by decide +kernel
theorem dX1_canTakeDigit_1 : decode cX1_canTakeDigit 1 = .ok (.ifCond .eq 12, 3) := by decide +kernel
theorem dX1_canTakeDigit_4 : decode cX1_canTakeDigit 4 = .ok (.iload_n 0, 1) := by decide +kernel
theorem dX1_canTakeDigit_5 : decode cX1_canTakeDigit 5 = .ok (.ifCond .le 12, 3) := by decide +kernel
theorem dX1_canTakeDigit_8 : decode cX1_canTakeDigit 8 = .ok (.iload_n 1, 1) := by decide +kernel
theorem dX1_canTakeDigit_9 : decode cX1_canTakeDigit 9 = .ok (.iconst 3, 1) := by decide +kernel
theorem dX1_canTakeDigit_10 : decode cX1_canTakeDigit 10 = .ok (.if_icmp .ge 7, 3) := by decide +kernel
theorem dX1_canTakeDigit_13 : decode cX1_canTakeDigit 13 = .ok (.iconst 1, 1) := by decide +kernel
theorem dX1_canTakeDigit_14 : decode cX1_canTakeDigit 14 = .ok (.goto 4, 3) := by decide +kernel
theorem dX1_canTakeDigit_17 : decode cX1_canTakeDigit 17 = .ok (.iconst 0, 1) := by decide +kernel
theorem dX1_canTakeDigit_18 : decode cX1_canTakeDigit 18 = .ok (.ireturn, 1) := by decide +kernel
set_option maxRecDepth 20000 in
theorem ggX1_roundsInAll_X1_startsCall : GoodIn wsX1_roundsInAll wsX1_startsCall := goodIn_r _ [6, 7, 16, 17] (by decide +kernel) (by decide +kernel)
set_option maxRecDepth 20000 in
theorem gX1_roundsInAll_X1_startsCall : GoodIn wsX1_roundsInAll (wsV RX1 30 RX1 yX1_startsCall wsX1_startsCall) := goodIn_app (goodIn_of _ (by decide +kernel)) ggX1_roundsInAll_X1_startsCall
set_option maxRecDepth 20000 in
theorem ggX1_roundsInAll_X1_timesAt : GoodIn wsX1_roundsInAll wsX1_timesAt := goodIn_r _ [11, 7, 12, 13, 14, 5, 15, 1, 16, 17] (by decide +kernel) (by decide +kernel)
set_option maxRecDepth 20000 in
theorem gX1_roundsInAll_X1_timesAt : GoodIn wsX1_roundsInAll (wsV RX1 34 RX1 yX1_timesAt wsX1_timesAt) := goodIn_app (goodIn_of _ (by decide +kernel)) ggX1_roundsInAll_X1_timesAt
theorem dX1_roundsInAll_0 : decode cX1_roundsInAll 0 = .ok (.iconst 0, 1) := by decide +kernel
theorem dX1_roundsInAll_1 : decode cX1_roundsInAll 1 = .ok (.istore_n 1, 1) := by decide +kernel
theorem dX1_roundsInAll_2 : decode cX1_roundsInAll 2 = .ok (.iconst 0, 1) := by decide +kernel
theorem dX1_roundsInAll_3 : decode cX1_roundsInAll 3 = .ok (.istore_n 2, 1) := by decide +kernel
theorem dX1_roundsInAll_4 : decode cX1_roundsInAll 4 = .ok (.iload_n 2, 1) := by decide +kernel
theorem dX1_roundsInAll_5 : decode cX1_roundsInAll 5 = .ok (.aload_n 0, 1) := by decide +kernel
theorem dX1_roundsInAll_6 : decode cX1_roundsInAll 6 = .ok (.getfield 15, 3) := by decide +kernel
theorem dX1_roundsInAll_9 : decode cX1_roundsInAll 9 = .ok (.if_icmp .ge 25, 3) := by decide +kernel
theorem dX1_roundsInAll_12 : decode cX1_roundsInAll 12 = .ok (.aload_n 0, 1) := by decide +kernel
theorem dX1_roundsInAll_13 : decode cX1_roundsInAll 13 = .ok (.iload_n 2, 1) := by decide +kernel
theorem dX1_roundsInAll_14 : decode cX1_roundsInAll 14 = .ok (.invokevirtual 30, 3) := by decide +kernel
theorem dX1_roundsInAll_17 : decode cX1_roundsInAll 17 = .ok (.ifCond .eq 11, 3) := by decide +kernel
theorem dX1_roundsInAll_20 : decode cX1_roundsInAll 20 = .ok (.iload_n 1, 1) := by decide +kernel
theorem dX1_roundsInAll_21 : decode cX1_roundsInAll 21 = .ok (.aload_n 0, 1) := by decide +kernel
theorem dX1_roundsInAll_22 : decode cX1_roundsInAll 22 = .ok (.iload_n 2, 1) := by decide +kernel
theorem dX1_roundsInAll_23 : decode cX1_roundsInAll 23 = .ok (.invokevirtual 34, 3) := by decide +kernel
theorem dX1_roundsInAll_26 : decode cX1_roundsInAll 26 = .ok (.iadd, 1) := by decide +kernel
theorem dX1_roundsInAll_27 : decode cX1_roundsInAll 27 = .ok (.istore_n 1, 1) := by decide +kernel
theorem dX1_roundsInAll_28 : decode cX1_roundsInAll 28 = .ok (.iinc 2 1, 3) := by decide +kernel
theorem dX1_roundsInAll_31 : decode cX1_roundsInAll 31 = .ok (.goto (-27), 3) := by decide +kernel
theorem dX1_roundsInAll_34 : decode cX1_roundsInAll 34 = .ok (.iload_n 1, 1) := by decide +kernel
theorem dX1_roundsInAll_35 : decode cX1_roundsInAll 35 = .ok (.ireturn, 1) := by decide +kernel
theorem dX1_startsCall_0 : decode cX1_startsCall 0 = .ok (.iload_n 1, 1) := by decide +kernel
theorem dX1_startsCall_1 : decode cX1_startsCall 1 = .ok (.ifCond .eq 16, 3) := by decide +kernel
theorem dX1_startsCall_4 : decode cX1_startsCall 4 = .ok (.aload_n 0, 1) := by decide +kernel
theorem dX1_startsCall_5 : decode cX1_startsCall 5 = .ok (.getfield 9, 3) := by decide +kernel
theorem dX1_startsCall_8 : decode cX1_startsCall 8 = .ok (.iload_n 1, 1) := by decide +kernel
theorem dX1_startsCall_9 : decode cX1_startsCall 9 = .ok (.iconst 1, 1) := by decide +kernel
theorem dX1_startsCall_10 : decode cX1_startsCall 10 = .ok (.isub, 1) := by decide +kernel
theorem dX1_startsCall_11 : decode cX1_startsCall 11 = .ok (.caload, 1) := by decide +kernel
theorem dX1_startsCall_12 : decode cX1_startsCall 12 = .ok (.bipush 44, 2) := by decide +kernel
theorem dX1_startsCall_14 : decode cX1_startsCall 14 = .ok (.if_icmp .ne 7, 3) := by decide +kernel
theorem dX1_startsCall_17 : decode cX1_startsCall 17 = .ok (.iconst 1, 1) := by decide +kernel
theorem dX1_startsCall_18 : decode cX1_startsCall 18 = .ok (.goto 4, 3) := by decide +kernel
theorem dX1_startsCall_21 : decode cX1_startsCall 21 = .ok (.iconst 0, 1) := by decide +kernel
theorem dX1_startsCall_22 : decode cX1_startsCall 22 = .ok (.ireturn, 1) := by decide +kernel
theorem dX1_hasTimes_0 : decode cX1_hasTimes 0 = .ok (.iload_n 1, 1) := by decide +kernel
theorem dX1_hasTimes_1 : decode cX1_hasTimes 1 = .ok (.iconst 1, 1) := by decide +kernel
theorem dX1_hasTimes_2 : decode cX1_hasTimes 2 = .ok (.iadd, 1) := by decide +kernel
theorem dX1_hasTimes_3 : decode cX1_hasTimes 3 = .ok (.aload_n 0, 1) := by decide +kernel
theorem dX1_hasTimes_4 : decode cX1_hasTimes 4 = .ok (.getfield 15, 3) := by decide +kernel
theorem dX1_hasTimes_7 : decode cX1_hasTimes 7 = .ok (.if_icmp .ge 20, 3) := by decide +kernel
theorem dX1_hasTimes_10 : decode cX1_hasTimes 10 = .ok (.aload_n 0, 1) := by decide +kernel
theorem dX1_hasTimes_11 : decode cX1_hasTimes 11 = .ok (.getfield 9, 3) := by decide +kernel
theorem dX1_hasTimes_14 : decode cX1_hasTimes 14 = .ok (.iload_n 1, 1) := by decide +kernel
theorem dX1_hasTimes_15 : decode cX1_hasTimes 15 = .ok (.iconst 1, 1) := by decide +kernel
theorem dX1_hasTimes_16 : decode cX1_hasTimes 16 = .ok (.iadd, 1) := by decide +kernel
theorem dX1_hasTimes_17 : decode cX1_hasTimes 17 = .ok (.caload, 1) := by decide +kernel
theorem dX1_hasTimes_18 : decode cX1_hasTimes 18 = .ok (.bipush 42, 2) := by decide +kernel
theorem dX1_hasTimes_20 : decode cX1_hasTimes 20 = .ok (.if_icmp .ne 7, 3) := by decide +kernel
theorem dX1_hasTimes_23 : decode cX1_hasTimes 23 = .ok (.iconst 1, 1) := by decide +kernel
theorem dX1_hasTimes_24 : decode cX1_hasTimes 24 = .ok (.goto 4, 3) := by decide +kernel
theorem dX1_hasTimes_27 : decode cX1_hasTimes 27 = .ok (.iconst 0, 1) := by decide +kernel
theorem dX1_hasTimes_28 : decode cX1_hasTimes 28 = .ok (.ireturn, 1) := by decide +kernel
set_option maxRecDepth 20000 in
theorem ggX1_timesAt_X1_hasTimes : GoodIn wsX1_timesAt wsX1_hasTimes := goodIn_r _ [6, 7, 1, 8, 9] (by decide +kernel) (by decide +kernel)
set_option maxRecDepth 20000 in
theorem gX1_timesAt_X1_hasTimes : GoodIn wsX1_timesAt (wsV RX1 38 RX1 yX1_hasTimes wsX1_hasTimes) := goodIn_app (goodIn_of _ (by decide +kernel)) ggX1_timesAt_X1_hasTimes
theorem dX1_timesAt_0 : decode cX1_timesAt 0 = .ok (.aload_n 0, 1) := by decide +kernel
theorem dX1_timesAt_1 : decode cX1_timesAt 1 = .ok (.iload_n 1, 1) := by decide +kernel
theorem dX1_timesAt_2 : decode cX1_timesAt 2 = .ok (.invokevirtual 38, 3) := by decide +kernel
theorem dX1_timesAt_5 : decode cX1_timesAt 5 = .ok (.ifCond .eq 15, 3) := by decide +kernel
theorem dX1_timesAt_8 : decode cX1_timesAt 8 = .ok (.aload_n 0, 1) := by decide +kernel
theorem dX1_timesAt_9 : decode cX1_timesAt 9 = .ok (.getfield 9, 3) := by decide +kernel
theorem dX1_timesAt_12 : decode cX1_timesAt 12 = .ok (.iload_n 1, 1) := by decide +kernel
theorem dX1_timesAt_13 : decode cX1_timesAt 13 = .ok (.caload, 1) := by decide +kernel
theorem dX1_timesAt_14 : decode cX1_timesAt 14 = .ok (.bipush 48, 2) := by decide +kernel
theorem dX1_timesAt_16 : decode cX1_timesAt 16 = .ok (.isub, 1) := by decide +kernel
theorem dX1_timesAt_17 : decode cX1_timesAt 17 = .ok (.goto 4, 3) := by decide +kernel
theorem dX1_timesAt_20 : decode cX1_timesAt 20 = .ok (.iconst 1, 1) := by decide +kernel
theorem dX1_timesAt_21 : decode cX1_timesAt 21 = .ok (.ireturn, 1) := by decide +kernel
set_option maxRecDepth 20000 in
theorem ggX1_numberAt_X1_hasTimes : GoodIn wsX1_numberAt wsX1_hasTimes := goodIn_r _ [7, 1, 2, 11, 12] (by decide +kernel) (by decide +kernel)
set_option maxRecDepth 20000 in
theorem gX1_numberAt_X1_hasTimes : GoodIn wsX1_numberAt (wsV RX1 38 RX1 yX1_hasTimes wsX1_hasTimes) := goodIn_app (goodIn_of _ (by decide +kernel)) ggX1_numberAt_X1_hasTimes
set_option maxRecDepth 20000 in
theorem ggX1_numberAt_X1_isDigit : GoodIn wsX1_numberAt wsX1_isDigit := goodIn_r _ [10] (by decide +kernel) (by decide +kernel)
set_option maxRecDepth 20000 in
theorem gX1_numberAt_X1_isDigit : GoodIn wsX1_numberAt (va_wsS RX1 21 yX1_isDigit wsX1_isDigit) := goodIn_app (goodIn_of _ (by decide +kernel)) ggX1_numberAt_X1_isDigit
theorem dX1_numberAt_0 : decode cX1_numberAt 0 = .ok (.iconst 0, 1) := by decide +kernel
theorem dX1_numberAt_1 : decode cX1_numberAt 1 = .ok (.istore_n 2, 1) := by decide +kernel
theorem dX1_numberAt_2 : decode cX1_numberAt 2 = .ok (.aload_n 0, 1) := by decide +kernel
theorem dX1_numberAt_3 : decode cX1_numberAt 3 = .ok (.iload_n 1, 1) := by decide +kernel
theorem dX1_numberAt_4 : decode cX1_numberAt 4 = .ok (.invokevirtual 38, 3) := by decide +kernel
theorem dX1_numberAt_7 : decode cX1_numberAt 7 = .ok (.ifCond .eq 9, 3) := by decide +kernel
theorem dX1_numberAt_10 : decode cX1_numberAt 10 = .ok (.iload_n 1, 1) := by decide +kernel
theorem dX1_numberAt_11 : decode cX1_numberAt 11 = .ok (.iconst 2, 1) := by decide +kernel
theorem dX1_numberAt_12 : decode cX1_numberAt 12 = .ok (.iadd, 1) := by decide +kernel
theorem dX1_numberAt_13 : decode cX1_numberAt 13 = .ok (.goto 4, 3) := by decide +kernel
theorem dX1_numberAt_16 : decode cX1_numberAt 16 = .ok (.iload_n 1, 1) := by decide +kernel
theorem dX1_numberAt_17 : decode cX1_numberAt 17 = .ok (.istore_n 3, 1) := by decide +kernel
theorem dX1_numberAt_18 : decode cX1_numberAt 18 = .ok (.iload_n 3, 1) := by decide +kernel
theorem dX1_numberAt_19 : decode cX1_numberAt 19 = .ok (.istore 4, 2) := by decide +kernel
theorem dX1_numberAt_21 : decode cX1_numberAt 21 = .ok (.iload 4, 2) := by decide +kernel
theorem dX1_numberAt_23 : decode cX1_numberAt 23 = .ok (.aload_n 0, 1) := by decide +kernel
theorem dX1_numberAt_24 : decode cX1_numberAt 24 = .ok (.getfield 15, 3) := by decide +kernel
theorem dX1_numberAt_27 : decode cX1_numberAt 27 = .ok (.if_icmp .ge 38, 3) := by decide +kernel
theorem dX1_numberAt_30 : decode cX1_numberAt 30 = .ok (.aload_n 0, 1) := by decide +kernel
theorem dX1_numberAt_31 : decode cX1_numberAt 31 = .ok (.getfield 9, 3) := by decide +kernel
theorem dX1_numberAt_34 : decode cX1_numberAt 34 = .ok (.iload 4, 2) := by decide +kernel
theorem dX1_numberAt_36 : decode cX1_numberAt 36 = .ok (.caload, 1) := by decide +kernel
theorem dX1_numberAt_37 : decode cX1_numberAt 37 = .ok (.invokestatic 21, 3) := by decide +kernel
theorem dX1_numberAt_40 : decode cX1_numberAt 40 = .ok (.ifCond .eq 25, 3) := by decide +kernel
theorem dX1_numberAt_43 : decode cX1_numberAt 43 = .ok (.bipush 10, 2) := by decide +kernel
theorem dX1_numberAt_45 : decode cX1_numberAt 45 = .ok (.iload_n 2, 1) := by decide +kernel
theorem dX1_numberAt_46 : decode cX1_numberAt 46 = .ok (.imul, 1) := by decide +kernel
theorem dX1_numberAt_47 : decode cX1_numberAt 47 = .ok (.aload_n 0, 1) := by decide +kernel
theorem dX1_numberAt_48 : decode cX1_numberAt 48 = .ok (.getfield 9, 3) := by decide +kernel
theorem dX1_numberAt_51 : decode cX1_numberAt 51 = .ok (.iload 4, 2) := by decide +kernel
theorem dX1_numberAt_53 : decode cX1_numberAt 53 = .ok (.caload, 1) := by decide +kernel
theorem dX1_numberAt_54 : decode cX1_numberAt 54 = .ok (.bipush 48, 2) := by decide +kernel
theorem dX1_numberAt_56 : decode cX1_numberAt 56 = .ok (.isub, 1) := by decide +kernel
theorem dX1_numberAt_57 : decode cX1_numberAt 57 = .ok (.iadd, 1) := by decide +kernel
theorem dX1_numberAt_58 : decode cX1_numberAt 58 = .ok (.istore_n 2, 1) := by decide +kernel
theorem dX1_numberAt_59 : decode cX1_numberAt 59 = .ok (.iinc 4 1, 3) := by decide +kernel
theorem dX1_numberAt_62 : decode cX1_numberAt 62 = .ok (.goto (-41), 3) := by decide +kernel
theorem dX1_numberAt_65 : decode cX1_numberAt 65 = .ok (.iload_n 2, 1) := by decide +kernel
theorem dX1_numberAt_66 : decode cX1_numberAt 66 = .ok (.ireturn, 1) := by decide +kernel
set_option maxRecDepth 20000 in
theorem ggX2_init_J7_fill_53178 : GoodIn wsX2_init wsJ7_fill_53178 := goodIn_r _ [22] (by decide +kernel) (by decide +kernel)
set_option maxRecDepth 20000 in
theorem gX2_init_J7_fill_53178 : GoodIn wsX2_init (va_wsS RX2 53 yJ7_fill_53178 wsJ7_fill_53178) := goodIn_app (goodIn_of _ (by decide +kernel)) ggX2_init_J7_fill_53178
theorem dX2_init_0 : decode cX2_init 0 = .ok (.aload_n 0, 1) := by decide +kernel
theorem dX2_init_1 : decode cX2_init 1 = .ok (.invokespecial 3, 3) := by decide +kernel
theorem dX2_init_4 : decode cX2_init 4 = .ok (.aload_n 0, 1) := by decide +kernel
theorem dX2_init_5 : decode cX2_init 5 = .ok (.iconst 3, 1) := by decide +kernel
theorem dX2_init_6 : decode cX2_init 6 = .ok (.newarray .int, 2) := by decide +kernel
theorem dX2_init_8 : decode cX2_init 8 = .ok (.putfield 9, 3) := by decide +kernel
theorem dX2_init_11 : decode cX2_init 11 = .ok (.aload_n 0, 1) := by decide +kernel
theorem dX2_init_12 : decode cX2_init 12 = .ok (.sipush 511, 3) := by decide +kernel
theorem dX2_init_15 : decode cX2_init 15 = .ok (.putfield 15, 3) := by decide +kernel
theorem dX2_init_18 : decode cX2_init 18 = .ok (.aload_n 0, 1) := by decide +kernel
theorem dX2_init_19 : decode cX2_init 19 = .ok (.bipush 9, 2) := by decide +kernel
theorem dX2_init_21 : decode cX2_init 21 = .ok (.newarray .int, 2) := by decide +kernel
theorem dX2_init_23 : decode cX2_init 23 = .ok (.putfield 19, 3) := by decide +kernel
theorem dX2_init_26 : decode cX2_init 26 = .ok (.aload_n 0, 1) := by decide +kernel
theorem dX2_init_27 : decode cX2_init 27 = .ok (.bipush 9, 2) := by decide +kernel
theorem dX2_init_29 : decode cX2_init 29 = .ok (.newarray .int, 2) := by decide +kernel
theorem dX2_init_31 : decode cX2_init 31 = .ok (.putfield 22, 3) := by decide +kernel
theorem dX2_init_34 : decode cX2_init 34 = .ok (.aload_n 0, 1) := by decide +kernel
theorem dX2_init_35 : decode cX2_init 35 = .ok (.bipush 9, 2) := by decide +kernel
theorem dX2_init_37 : decode cX2_init 37 = .ok (.newarray .int, 2) := by decide +kernel
theorem dX2_init_39 : decode cX2_init 39 = .ok (.putfield 25, 3) := by decide +kernel
theorem dX2_init_42 : decode cX2_init 42 = .ok (.aload_n 0, 1) := by decide +kernel
theorem dX2_init_43 : decode cX2_init 43 = .ok (.bipush 9, 2) := by decide +kernel
theorem dX2_init_45 : decode cX2_init 45 = .ok (.newarray .int, 2) := by decide +kernel
theorem dX2_init_47 : decode cX2_init 47 = .ok (.putfield 28, 3) := by decide +kernel
theorem dX2_init_50 : decode cX2_init 50 = .ok (.aload_n 0, 1) := by decide +kernel
theorem dX2_init_51 : decode cX2_init 51 = .ok (.bipush 9, 2) := by decide +kernel
theorem dX2_init_53 : decode cX2_init 53 = .ok (.newarray .int, 2) := by decide +kernel
theorem dX2_init_55 : decode cX2_init 55 = .ok (.putfield 31, 3) := by decide +kernel
theorem dX2_init_58 : decode cX2_init 58 = .ok (.aload_n 0, 1) := by decide +kernel
theorem dX2_init_59 : decode cX2_init 59 = .ok (.bipush 81, 2) := by decide +kernel
theorem dX2_init_61 : decode cX2_init 61 = .ok (.newarray .int, 2) := by decide +kernel
theorem dX2_init_63 : decode cX2_init 63 = .ok (.putfield 34, 3) := by decide +kernel
theorem dX2_init_66 : decode cX2_init 66 = .ok (.aload_n 0, 1) := by decide +kernel
theorem dX2_init_67 : decode cX2_init 67 = .ok (.bipush 81, 2) := by decide +kernel
theorem dX2_init_69 : decode cX2_init 69 = .ok (.newarray .int, 2) := by decide +kernel
theorem dX2_init_71 : decode cX2_init 71 = .ok (.putfield 37, 3) := by decide +kernel
theorem dX2_init_74 : decode cX2_init 74 = .ok (.aload_n 0, 1) := by decide +kernel
theorem dX2_init_75 : decode cX2_init 75 = .ok (.bipush 81, 2) := by decide +kernel
theorem dX2_init_77 : decode cX2_init 77 = .ok (.newarray .int, 2) := by decide +kernel
theorem dX2_init_79 : decode cX2_init 79 = .ok (.putfield 40, 3) := by decide +kernel
theorem dX2_init_82 : decode cX2_init 82 = .ok (.aload_n 0, 1) := by decide +kernel
theorem dX2_init_83 : decode cX2_init 83 = .ok (.bipush 9, 2) := by decide +kernel
theorem dX2_init_85 : decode cX2_init 85 = .ok (.newarray .int, 2) := by decide +kernel
theorem dX2_init_87 : decode cX2_init 87 = .ok (.putfield 43, 3) := by decide +kernel
theorem dX2_init_90 : decode cX2_init 90 = .ok (.aload_n 0, 1) := by decide +kernel
theorem dX2_init_91 : decode cX2_init 91 = .ok (.iconst 0, 1) := by decide +kernel
theorem dX2_init_92 : decode cX2_init 92 = .ok (.putfield 46, 3) := by decide +kernel
theorem dX2_init_95 : decode cX2_init 95 = .ok (.aload_n 0, 1) := by decide +kernel
theorem dX2_init_96 : decode cX2_init 96 = .ok (.ldc 49, 2) := by decide +kernel
theorem dX2_init_98 : decode cX2_init 98 = .ok (.putfield 50, 3) := by decide +kernel
theorem dX2_init_101 : decode cX2_init 101 = .ok (.aload_n 0, 1) := by decide +kernel
theorem dX2_init_102 : decode cX2_init 102 = .ok (.getfield 9, 3) := by decide +kernel
theorem dX2_init_105 : decode cX2_init 105 = .ok (.iconst 0, 1) := by decide +kernel
theorem dX2_init_106 : decode cX2_init 106 = .ok (.iconst 2, 1) := by decide +kernel
theorem dX2_init_107 : decode cX2_init 107 = .ok (.iastore, 1) := by decide +kernel
theorem dX2_init_108 : decode cX2_init 108 = .ok (.aload_n 0, 1) := by decide +kernel
theorem dX2_init_109 : decode cX2_init 109 = .ok (.getfield 9, 3) := by decide +kernel
theorem dX2_init_112 : decode cX2_init 112 = .ok (.iconst 1, 1) := by decide +kernel
theorem dX2_init_113 : decode cX2_init 113 = .ok (.iconst 3, 1) := by decide +kernel
theorem dX2_init_114 : decode cX2_init 114 = .ok (.iastore, 1) := by decide +kernel
theorem dX2_init_115 : decode cX2_init 115 = .ok (.aload_n 0, 1) := by decide +kernel
theorem dX2_init_116 : decode cX2_init 116 = .ok (.getfield 9, 3) := by decide +kernel
theorem dX2_init_119 : decode cX2_init 119 = .ok (.iconst 2, 1) := by decide +kernel
theorem dX2_init_120 : decode cX2_init 120 = .ok (.iconst 2, 1) := by decide +kernel
theorem dX2_init_121 : decode cX2_init 121 = .ok (.iastore, 1) := by decide +kernel
theorem dX2_init_122 : decode cX2_init 122 = .ok (.aload_n 0, 1) := by decide +kernel
theorem dX2_init_123 : decode cX2_init 123 = .ok (.getfield 19, 3) := by decide +kernel
theorem dX2_init_126 : decode cX2_init 126 = .ok (.bipush 10, 2) := by decide +kernel
theorem dX2_init_128 : decode cX2_init 128 = .ok (.invokestatic 53, 3) := by decide +kernel
theorem dX2_init_131 : decode cX2_init 131 = .ok (.aload_n 0, 1) := by decide +kernel
theorem dX2_init_132 : decode cX2_init 132 = .ok (.getfield 40, 3) := by decide +kernel
theorem dX2_init_135 : decode cX2_init 135 = .ok (.ldc 49, 2) := by decide +kernel
theorem dX2_init_137 : decode cX2_init 137 = .ok (.invokestatic 53, 3) := by decide +kernel
theorem dX2_init_140 : decode cX2_init 140 = .ok (.return_, 1) := by decide +kernel
set_option maxRecDepth 20000 in
theorem ggX2_copyFrom_X2_copyRow : GoodIn wsX2_copyFrom wsX2_copyRow := goodIn_r _ [17, 18, 19, 20, 21, 22, 23, 24, 25] (by decide +kernel) (by decide +kernel)
set_option maxRecDepth 20000 in
theorem gX2_copyFrom_X2_copyRow : GoodIn wsX2_copyFrom (va_wsS RX2 59 yX2_copyRow wsX2_copyRow) := goodIn_app (goodIn_of _ (by decide +kernel)) ggX2_copyFrom_X2_copyRow
theorem dX2_copyFrom_0 : decode cX2_copyFrom 0 = .ok (.aload_n 1, 1) := by decide +kernel
theorem dX2_copyFrom_1 : decode cX2_copyFrom 1 = .ok (.getfield 9, 3) := by decide +kernel
theorem dX2_copyFrom_4 : decode cX2_copyFrom 4 = .ok (.aload_n 0, 1) := by decide +kernel
theorem dX2_copyFrom_5 : decode cX2_copyFrom 5 = .ok (.getfield 9, 3) := by decide +kernel
theorem dX2_copyFrom_8 : decode cX2_copyFrom 8 = .ok (.invokestatic 59, 3) := by decide +kernel
theorem dX2_copyFrom_11 : decode cX2_copyFrom 11 = .ok (.aload_n 0, 1) := by decide +kernel
theorem dX2_copyFrom_12 : decode cX2_copyFrom 12 = .ok (.aload_n 1, 1) := by decide +kernel
theorem dX2_copyFrom_13 : decode cX2_copyFrom 13 = .ok (.getfield 15, 3) := by decide +kernel
theorem dX2_copyFrom_16 : decode cX2_copyFrom 16 = .ok (.putfield 15, 3) := by decide +kernel
theorem dX2_copyFrom_19 : decode cX2_copyFrom 19 = .ok (.aload_n 1, 1) := by decide +kernel
theorem dX2_copyFrom_20 : decode cX2_copyFrom 20 = .ok (.getfield 19, 3) := by decide +kernel
theorem dX2_copyFrom_23 : decode cX2_copyFrom 23 = .ok (.aload_n 0, 1) := by decide +kernel
theorem dX2_copyFrom_24 : decode cX2_copyFrom 24 = .ok (.getfield 19, 3) := by decide +kernel
theorem dX2_copyFrom_27 : decode cX2_copyFrom 27 = .ok (.invokestatic 59, 3) := by decide +kernel
theorem dX2_copyFrom_30 : decode cX2_copyFrom 30 = .ok (.aload_n 1, 1) := by decide +kernel
theorem dX2_copyFrom_31 : decode cX2_copyFrom 31 = .ok (.getfield 22, 3) := by decide +kernel
theorem dX2_copyFrom_34 : decode cX2_copyFrom 34 = .ok (.aload_n 0, 1) := by decide +kernel
theorem dX2_copyFrom_35 : decode cX2_copyFrom 35 = .ok (.getfield 22, 3) := by decide +kernel
theorem dX2_copyFrom_38 : decode cX2_copyFrom 38 = .ok (.invokestatic 59, 3) := by decide +kernel
theorem dX2_copyFrom_41 : decode cX2_copyFrom 41 = .ok (.aload_n 1, 1) := by decide +kernel
theorem dX2_copyFrom_42 : decode cX2_copyFrom 42 = .ok (.getfield 25, 3) := by decide +kernel
theorem dX2_copyFrom_45 : decode cX2_copyFrom 45 = .ok (.aload_n 0, 1) := by decide +kernel
theorem dX2_copyFrom_46 : decode cX2_copyFrom 46 = .ok (.getfield 25, 3) := by decide +kernel
theorem dX2_copyFrom_49 : decode cX2_copyFrom 49 = .ok (.invokestatic 59, 3) := by decide +kernel
theorem dX2_copyFrom_52 : decode cX2_copyFrom 52 = .ok (.aload_n 1, 1) := by decide +kernel
theorem dX2_copyFrom_53 : decode cX2_copyFrom 53 = .ok (.getfield 28, 3) := by decide +kernel
theorem dX2_copyFrom_56 : decode cX2_copyFrom 56 = .ok (.aload_n 0, 1) := by decide +kernel
theorem dX2_copyFrom_57 : decode cX2_copyFrom 57 = .ok (.getfield 28, 3) := by decide +kernel
theorem dX2_copyFrom_60 : decode cX2_copyFrom 60 = .ok (.invokestatic 59, 3) := by decide +kernel
theorem dX2_copyFrom_63 : decode cX2_copyFrom 63 = .ok (.aload_n 1, 1) := by decide +kernel
theorem dX2_copyFrom_64 : decode cX2_copyFrom 64 = .ok (.getfield 31, 3) := by decide +kernel
theorem dX2_copyFrom_67 : decode cX2_copyFrom 67 = .ok (.aload_n 0, 1) := by decide +kernel
theorem dX2_copyFrom_68 : decode cX2_copyFrom 68 = .ok (.getfield 31, 3) := by decide +kernel
theorem dX2_copyFrom_71 : decode cX2_copyFrom 71 = .ok (.invokestatic 59, 3) := by decide +kernel
theorem dX2_copyFrom_74 : decode cX2_copyFrom 74 = .ok (.aload_n 1, 1) := by decide +kernel
theorem dX2_copyFrom_75 : decode cX2_copyFrom 75 = .ok (.getfield 34, 3) := by decide +kernel
theorem dX2_copyFrom_78 : decode cX2_copyFrom 78 = .ok (.aload_n 0, 1) := by decide +kernel
theorem dX2_copyFrom_79 : decode cX2_copyFrom 79 = .ok (.getfield 34, 3) := by decide +kernel
theorem dX2_copyFrom_82 : decode cX2_copyFrom 82 = .ok (.invokestatic 59, 3) := by decide +kernel
theorem dX2_copyFrom_85 : decode cX2_copyFrom 85 = .ok (.aload_n 1, 1) := by decide +kernel
theorem dX2_copyFrom_86 : decode cX2_copyFrom 86 = .ok (.getfield 37, 3) := by decide +kernel
theorem dX2_copyFrom_89 : decode cX2_copyFrom 89 = .ok (.aload_n 0, 1) := by decide +kernel
theorem dX2_copyFrom_90 : decode cX2_copyFrom 90 = .ok (.getfield 37, 3) := by decide +kernel
theorem dX2_copyFrom_93 : decode cX2_copyFrom 93 = .ok (.invokestatic 59, 3) := by decide +kernel
theorem dX2_copyFrom_96 : decode cX2_copyFrom 96 = .ok (.aload_n 1, 1) := by decide +kernel
theorem dX2_copyFrom_97 : decode cX2_copyFrom 97 = .ok (.getfield 40, 3) := by decide +kernel
theorem dX2_copyFrom_100 : decode cX2_copyFrom 100 = .ok (.aload_n 0, 1) := by decide +kernel
theorem dX2_copyFrom_101 : decode cX2_copyFrom 101 = .ok (.getfield 40, 3) := by decide +kernel
theorem dX2_copyFrom_104 : decode cX2_copyFrom 104 = .ok (.invokestatic 59, 3) := by decide +kernel
theorem dX2_copyFrom_107 : decode cX2_copyFrom 107 = .ok (.aload_n 1, 1) := by decide +kernel
theorem dX2_copyFrom_108 : decode cX2_copyFrom 108 = .ok (.getfield 43, 3) := by decide +kernel
theorem dX2_copyFrom_111 : decode cX2_copyFrom 111 = .ok (.aload_n 0, 1) := by decide +kernel
theorem dX2_copyFrom_112 : decode cX2_copyFrom 112 = .ok (.getfield 43, 3) := by decide +kernel
theorem dX2_copyFrom_115 : decode cX2_copyFrom 115 = .ok (.invokestatic 59, 3) := by decide +kernel
theorem dX2_copyFrom_118 : decode cX2_copyFrom 118 = .ok (.aload_n 0, 1) := by decide +kernel
theorem dX2_copyFrom_119 : decode cX2_copyFrom 119 = .ok (.aload_n 1, 1) := by decide +kernel
theorem dX2_copyFrom_120 : decode cX2_copyFrom 120 = .ok (.getfield 46, 3) := by decide +kernel
theorem dX2_copyFrom_123 : decode cX2_copyFrom 123 = .ok (.putfield 46, 3) := by decide +kernel
theorem dX2_copyFrom_126 : decode cX2_copyFrom 126 = .ok (.aload_n 0, 1) := by decide +kernel
theorem dX2_copyFrom_127 : decode cX2_copyFrom 127 = .ok (.aload_n 1, 1) := by decide +kernel
theorem dX2_copyFrom_128 : decode cX2_copyFrom 128 = .ok (.getfield 50, 3) := by decide +kernel
theorem dX2_copyFrom_131 : decode cX2_copyFrom 131 = .ok (.putfield 50, 3) := by decide +kernel
theorem dX2_copyFrom_134 : decode cX2_copyFrom 134 = .ok (.return_, 1) := by decide +kernel
theorem dX2_copyRow_0 : decode cX2_copyRow 0 = .ok (.aload_n 0, 1) := by decide +kernel
theorem dX2_copyRow_1 : decode cX2_copyRow 1 = .ok (.iconst 0, 1) := by decide +kernel
theorem dX2_copyRow_2 : decode cX2_copyRow 2 = .ok (.aload_n 1, 1) := by decide +kernel
theorem dX2_copyRow_3 : decode cX2_copyRow 3 = .ok (.iconst 0, 1) := by decide +kernel
theorem dX2_copyRow_4 : decode cX2_copyRow 4 = .ok (.aload_n 0, 1) := by decide +kernel
theorem dX2_copyRow_5 : decode cX2_copyRow 5 = .ok (.arraylength, 1) := by decide +kernel
theorem dX2_copyRow_6 : decode cX2_copyRow 6 = .ok (.aload_n 1, 1) := by decide +kernel
theorem dX2_copyRow_7 : decode cX2_copyRow 7 = .ok (.arraylength, 1) := by decide +kernel
theorem dX2_copyRow_8 : decode cX2_copyRow 8 = .ok (.invokestatic 63, 3) := by decide +kernel
theorem dX2_copyRow_11 : decode cX2_copyRow 11 = .ok (.invokestatic 69, 3) := by decide +kernel
theorem dX2_copyRow_14 : decode cX2_copyRow 14 = .ok (.return_, 1) := by decide +kernel
theorem dX2_isThere_0 : decode cX2_isThere 0 = .ok (.aload_n 0, 1) := by decide +kernel
theorem dX2_isThere_1 : decode cX2_isThere 1 = .ok (.getfield 15, 3) := by decide +kernel
theorem dX2_isThere_4 : decode cX2_isThere 4 = .ok (.iconst 1, 1) := by decide +kernel
theorem dX2_isThere_5 : decode cX2_isThere 5 = .ok (.iload_n 1, 1) := by decide +kernel
theorem dX2_isThere_6 : decode cX2_isThere 6 = .ok (.ishl, 1) := by decide +kernel
theorem dX2_isThere_7 : decode cX2_isThere 7 = .ok (.iand, 1) := by decide +kernel
theorem dX2_isThere_8 : decode cX2_isThere 8 = .ok (.ifCond .eq 7, 3) := by decide +kernel
theorem dX2_isThere_11 : decode cX2_isThere 11 = .ok (.iconst 1, 1) := by decide +kernel
theorem dX2_isThere_12 : decode cX2_isThere 12 = .ok (.goto 4, 3) := by decide +kernel
theorem dX2_isThere_15 : decode cX2_isThere 15 = .ok (.iconst 0, 1) := by decide +kernel
theorem dX2_isThere_16 : decode cX2_isThere 16 = .ok (.ireturn, 1) := by decide +kernel
set_option maxRecDepth 20000 in
theorem ggX2_danceRound_X3_counterpart : GoodIn wsX2_danceRound wsX3_counterpart := goodIn_r _ [6, 7, 8, 5, 9, 10, 11, 12, 13] (by decide +kernel) (by decide +kernel)
set_option maxRecDepth 20000 in
theorem gX2_danceRound_X3_counterpart_n75 : GoodIn wsX2_danceRound (wsX3_counterpart) := ggX2_danceRound_X3_counterpart
set_option maxRecDepth 20000 in
theorem ggX2_danceRound_X2_rest : GoodIn wsX2_danceRound wsX2_rest := goodIn_r _ [18, 19, 20, 21, 22, 23, 24, 25, 26, 27, 28, 17, 29, 30, 59, 60, 61, 62, 63, 64, 65, 66, 67, 68, 69, 70, 71] (by decide +kernel) (by decide +kernel)
set_option maxRecDepth 20000 in
theorem gX2_danceRound_X2_rest : GoodIn wsX2_danceRound (wsV RX2 78 RX2 yX2_rest wsX2_rest) := goodIn_app (goodIn_of _ (by decide +kernel)) ggX2_danceRound_X2_rest
set_option maxRecDepth 20000 in
theorem ggX2_danceRound_X2_wouldDance : GoodIn wsX2_danceRound wsX2_wouldDance := goodIn_r _ [34, 20, 21, 26, 27, 28, 17, 29, 30, 59, 60, 61, 62, 63, 64, 65, 66, 67, 68, 69, 70, 71] (by decide +kernel) (by decide +kernel)
set_option maxRecDepth 20000 in
theorem gX2_danceRound_X2_wouldDance : GoodIn wsX2_danceRound (wsV RX2 82 RX2 yX2_wouldDance wsX2_wouldDance) := goodIn_app (goodIn_of _ (by decide +kernel)) ggX2_danceRound_X2_wouldDance
set_option maxRecDepth 20000 in
theorem ggX2_danceRound_X2_dance : GoodIn wsX2_danceRound wsX2_dance := goodIn_r _ [38, 39, 40, 3, 41, 42, 43, 17, 44, 21, 45, 46, 5, 47, 48, 49, 50, 51, 52, 20, 53, 59, 60, 61, 62, 63, 64, 65, 66, 67, 68, 69, 70, 71] (by decide +kernel) (by decide +kernel)
set_option maxRecDepth 20000 in
theorem gX2_danceRound_X2_dance : GoodIn wsX2_danceRound (wsV RX2 86 RX2 yX2_dance wsX2_dance) := goodIn_app (goodIn_of _ (by decide +kernel)) ggX2_danceRound_X2_dance
set_option maxRecDepth 20000 in
theorem ggX2_danceRound_X2_leaveAlone : GoodIn wsX2_danceRound wsX2_leaveAlone := goodIn_r _ [57, 58, 26, 27, 28, 17, 29, 30, 14, 15, 16, 18, 19, 20, 21, 22, 23, 24, 25, 59, 60, 61, 62, 63, 64, 65, 66, 67, 68, 69, 70, 71] (by decide +kernel) (by decide +kernel)
set_option maxRecDepth 20000 in
theorem gX2_danceRound_X2_leaveAlone : GoodIn wsX2_danceRound (wsV RX2 90 RX2 yX2_leaveAlone wsX2_leaveAlone) := goodIn_app (goodIn_of _ (by decide +kernel)) ggX2_danceRound_X2_leaveAlone
set_option maxRecDepth 20000 in
theorem ggX2_danceRound_X3_remainderOf : GoodIn wsX2_danceRound wsX3_remainderOf := goodIn_r _ [9, 10, 11, 12, 13] (by decide +kernel) (by decide +kernel)
set_option maxRecDepth 20000 in
theorem gX2_danceRound_X3_remainderOf_n93 : GoodIn wsX2_danceRound (wsX3_remainderOf) := ggX2_danceRound_X3_remainderOf
theorem dX2_danceRound_0 : decode cX2_danceRound 0 = .ok (.iconst 0, 1) := by decide +kernel
theorem dX2_danceRound_1 : decode cX2_danceRound 1 = .ok (.istore_n 2, 1) := by decide +kernel
theorem dX2_danceRound_2 : decode cX2_danceRound 2 = .ok (.iconst 0, 1) := by decide +kernel
theorem dX2_danceRound_3 : decode cX2_danceRound 3 = .ok (.istore_n 3, 1) := by decide +kernel
theorem dX2_danceRound_4 : decode cX2_danceRound 4 = .ok (.iload_n 3, 1) := by decide +kernel
theorem dX2_danceRound_5 : decode cX2_danceRound 5 = .ok (.bipush 9, 2) := by decide +kernel
theorem dX2_danceRound_7 : decode cX2_danceRound 7 = .ok (.if_icmp .ge 76, 3) := by decide +kernel
theorem dX2_danceRound_10 : decode cX2_danceRound 10 = .ok (.iload_n 3, 1) := by decide +kernel
theorem dX2_danceRound_11 : decode cX2_danceRound 11 = .ok (.iload_n 1, 1) := by decide +kernel
theorem dX2_danceRound_12 : decode cX2_danceRound 12 = .ok (.invokestatic 75, 3) := by decide +kernel
theorem dX2_danceRound_15 : decode cX2_danceRound 15 = .ok (.istore 4, 2) := by decide +kernel
theorem dX2_danceRound_17 : decode cX2_danceRound 17 = .ok (.iload_n 3, 1) := by decide +kernel
theorem dX2_danceRound_18 : decode cX2_danceRound 18 = .ok (.iload 4, 2) := by decide +kernel
theorem dX2_danceRound_20 : decode cX2_danceRound 20 = .ok (.if_icmp .ne 11, 3) := by decide +kernel
theorem dX2_danceRound_23 : decode cX2_danceRound 23 = .ok (.aload_n 0, 1) := by decide +kernel
theorem dX2_danceRound_24 : decode cX2_danceRound 24 = .ok (.iload_n 3, 1) := by decide +kernel
theorem dX2_danceRound_25 : decode cX2_danceRound 25 = .ok (.invokevirtual 78, 3) := by decide +kernel
theorem dX2_danceRound_28 : decode cX2_danceRound 28 = .ok (.goto 49, 3) := by decide +kernel
theorem dX2_danceRound_31 : decode cX2_danceRound 31 = .ok (.iload_n 3, 1) := by decide +kernel
theorem dX2_danceRound_32 : decode cX2_danceRound 32 = .ok (.iload 4, 2) := by decide +kernel
theorem dX2_danceRound_34 : decode cX2_danceRound 34 = .ok (.if_icmp .ge 26, 3) := by decide +kernel
theorem dX2_danceRound_37 : decode cX2_danceRound 37 = .ok (.aload_n 0, 1) := by decide +kernel
theorem dX2_danceRound_38 : decode cX2_danceRound 38 = .ok (.iload_n 3, 1) := by decide +kernel
theorem dX2_danceRound_39 : decode cX2_danceRound 39 = .ok (.iload 4, 2) := by decide +kernel
theorem dX2_danceRound_41 : decode cX2_danceRound 41 = .ok (.invokevirtual 82, 3) := by decide +kernel
theorem dX2_danceRound_44 : decode cX2_danceRound 44 = .ok (.ifCond .eq 16, 3) := by decide +kernel
theorem dX2_danceRound_47 : decode cX2_danceRound 47 = .ok (.aload_n 0, 1) := by decide +kernel
theorem dX2_danceRound_48 : decode cX2_danceRound 48 = .ok (.iload_n 3, 1) := by decide +kernel
theorem dX2_danceRound_49 : decode cX2_danceRound 49 = .ok (.iload 4, 2) := by decide +kernel
theorem dX2_danceRound_51 : decode cX2_danceRound 51 = .ok (.invokevirtual 86, 3) := by decide +kernel
theorem dX2_danceRound_54 : decode cX2_danceRound 54 = .ok (.iinc 2 1, 3) := by decide +kernel
theorem dX2_danceRound_57 : decode cX2_danceRound 57 = .ok (.goto 20, 3) := by decide +kernel
theorem dX2_danceRound_60 : decode cX2_danceRound 60 = .ok (.iload_n 3, 1) := by decide +kernel
theorem dX2_danceRound_61 : decode cX2_danceRound 61 = .ok (.iload 4, 2) := by decide +kernel
theorem dX2_danceRound_63 : decode cX2_danceRound 63 = .ok (.if_icmp .ge 14, 3) := by decide +kernel
theorem dX2_danceRound_66 : decode cX2_danceRound 66 = .ok (.aload_n 0, 1) := by decide +kernel
theorem dX2_danceRound_67 : decode cX2_danceRound 67 = .ok (.iload_n 3, 1) := by decide +kernel
theorem dX2_danceRound_68 : decode cX2_danceRound 68 = .ok (.invokevirtual 90, 3) := by decide +kernel
theorem dX2_danceRound_71 : decode cX2_danceRound 71 = .ok (.aload_n 0, 1) := by decide +kernel
theorem dX2_danceRound_72 : decode cX2_danceRound 72 = .ok (.iload 4, 2) := by decide +kernel
theorem dX2_danceRound_74 : decode cX2_danceRound 74 = .ok (.invokevirtual 90, 3) := by decide +kernel
theorem dX2_danceRound_77 : decode cX2_danceRound 77 = .ok (.iinc 3 1, 3) := by decide +kernel
theorem dX2_danceRound_80 : decode cX2_danceRound 80 = .ok (.goto (-76), 3) := by decide +kernel
theorem dX2_danceRound_83 : decode cX2_danceRound 83 = .ok (.aload_n 0, 1) := by decide +kernel
theorem dX2_danceRound_84 : decode cX2_danceRound 84 = .ok (.getfield 43, 3) := by decide +kernel
theorem dX2_danceRound_87 : decode cX2_danceRound 87 = .ok (.iload_n 1, 1) := by decide +kernel
theorem dX2_danceRound_88 : decode cX2_danceRound 88 = .ok (.invokestatic 93, 3) := by decide +kernel
theorem dX2_danceRound_91 : decode cX2_danceRound 91 = .ok (.dup2, 1) := by decide +kernel
theorem dX2_danceRound_92 : decode cX2_danceRound 92 = .ok (.iaload, 1) := by decide +kernel
theorem dX2_danceRound_93 : decode cX2_danceRound 93 = .ok (.iconst 1, 1) := by decide +kernel
theorem dX2_danceRound_94 : decode cX2_danceRound 94 = .ok (.iadd, 1) := by decide +kernel
theorem dX2_danceRound_95 : decode cX2_danceRound 95 = .ok (.iastore, 1) := by decide +kernel
theorem dX2_danceRound_96 : decode cX2_danceRound 96 = .ok (.aload_n 0, 1) := by decide +kernel
theorem dX2_danceRound_97 : decode cX2_danceRound 97 = .ok (.iload_n 1, 1) := by decide +kernel
theorem dX2_danceRound_98 : decode cX2_danceRound 98 = .ok (.putfield 50, 3) := by decide +kernel
theorem dX2_danceRound_101 : decode cX2_danceRound 101 = .ok (.aload_n 0, 1) := by decide +kernel
theorem dX2_danceRound_102 : decode cX2_danceRound 102 = .ok (.dup, 1) := by decide +kernel
theorem dX2_danceRound_103 : decode cX2_danceRound 103 = .ok (.getfield 46, 3) := by decide +kernel
theorem dX2_danceRound_106 : decode cX2_danceRound 106 = .ok (.iconst 1, 1) := by decide +kernel
theorem dX2_danceRound_107 : decode cX2_danceRound 107 = .ok (.iadd, 1) := by decide +kernel
theorem dX2_danceRound_108 : decode cX2_danceRound 108 = .ok (.putfield 46, 3) := by decide +kernel
theorem dX2_danceRound_111 : decode cX2_danceRound 111 = .ok (.iload_n 2, 1) := by decide +kernel
theorem dX2_danceRound_112 : decode cX2_danceRound 112 = .ok (.ireturn, 1) := by decide +kernel
set_option maxRecDepth 20000 in
theorem ggX2_wouldDance_X2_isThere : GoodIn wsX2_wouldDance wsX2_isThere := goodIn_r _ [7, 8, 9, 10, 11, 12, 13, 14, 15, 16, 17, 18, 19, 20, 21] (by decide +kernel) (by decide +kernel)
set_option maxRecDepth 20000 in
theorem gX2_wouldDance_X2_isThere : GoodIn wsX2_wouldDance (wsV RX2 97 RX2 yX2_isThere wsX2_isThere) := goodIn_app (goodIn_of _ (by decide +kernel)) ggX2_wouldDance_X2_isThere
theorem dX2_wouldDance_0 : decode cX2_wouldDance 0 = .ok (.aload_n 0, 1) := by decide +kernel
theorem dX2_wouldDance_1 : decode cX2_wouldDance 1 = .ok (.iload_n 1, 1) := by decide +kernel
theorem dX2_wouldDance_2 : decode cX2_wouldDance 2 = .ok (.invokevirtual 97, 3) := by decide +kernel
theorem dX2_wouldDance_5 : decode cX2_wouldDance 5 = .ok (.ifCond .eq 45, 3) := by decide +kernel
theorem dX2_wouldDance_8 : decode cX2_wouldDance 8 = .ok (.aload_n 0, 1) := by decide +kernel
theorem dX2_wouldDance_9 : decode cX2_wouldDance 9 = .ok (.iload_n 2, 1) := by decide +kernel
theorem dX2_wouldDance_10 : decode cX2_wouldDance 10 = .ok (.invokevirtual 97, 3) := by decide +kernel
theorem dX2_wouldDance_13 : decode cX2_wouldDance 13 = .ok (.ifCond .eq 37, 3) := by decide +kernel
theorem dX2_wouldDance_16 : decode cX2_wouldDance 16 = .ok (.aload_n 0, 1) := by decide +kernel
theorem dX2_wouldDance_17 : decode cX2_wouldDance 17 = .ok (.getfield 19, 3) := by decide +kernel
theorem dX2_wouldDance_20 : decode cX2_wouldDance 20 = .ok (.iload_n 1, 1) := by decide +kernel
theorem dX2_wouldDance_21 : decode cX2_wouldDance 21 = .ok (.iaload, 1) := by decide +kernel
theorem dX2_wouldDance_22 : decode cX2_wouldDance 22 = .ok (.aload_n 0, 1) := by decide +kernel
theorem dX2_wouldDance_23 : decode cX2_wouldDance 23 = .ok (.getfield 9, 3) := by decide +kernel
theorem dX2_wouldDance_26 : decode cX2_wouldDance 26 = .ok (.iconst 0, 1) := by decide +kernel
theorem dX2_wouldDance_27 : decode cX2_wouldDance 27 = .ok (.iaload, 1) := by decide +kernel
theorem dX2_wouldDance_28 : decode cX2_wouldDance 28 = .ok (.if_icmp .lt 22, 3) := by decide +kernel
theorem dX2_wouldDance_31 : decode cX2_wouldDance 31 = .ok (.aload_n 0, 1) := by decide +kernel
theorem dX2_wouldDance_32 : decode cX2_wouldDance 32 = .ok (.getfield 19, 3) := by decide +kernel
theorem dX2_wouldDance_35 : decode cX2_wouldDance 35 = .ok (.iload_n 2, 1) := by decide +kernel
theorem dX2_wouldDance_36 : decode cX2_wouldDance 36 = .ok (.iaload, 1) := by decide +kernel
theorem dX2_wouldDance_37 : decode cX2_wouldDance 37 = .ok (.aload_n 0, 1) := by decide +kernel
theorem dX2_wouldDance_38 : decode cX2_wouldDance 38 = .ok (.getfield 9, 3) := by decide +kernel
theorem dX2_wouldDance_41 : decode cX2_wouldDance 41 = .ok (.iconst 0, 1) := by decide +kernel
theorem dX2_wouldDance_42 : decode cX2_wouldDance 42 = .ok (.iaload, 1) := by decide +kernel
theorem dX2_wouldDance_43 : decode cX2_wouldDance 43 = .ok (.if_icmp .lt 7, 3) := by decide +kernel
theorem dX2_wouldDance_46 : decode cX2_wouldDance 46 = .ok (.iconst 1, 1) := by decide +kernel
theorem dX2_wouldDance_47 : decode cX2_wouldDance 47 = .ok (.goto 4, 3) := by decide +kernel
theorem dX2_wouldDance_50 : decode cX2_wouldDance 50 = .ok (.iconst 0, 1) := by decide +kernel
theorem dX2_wouldDance_51 : decode cX2_wouldDance 51 = .ok (.ireturn, 1) := by decide +kernel
set_option maxRecDepth 20000 in
theorem ggX2_dance_X2_joyOfEach : GoodIn wsX2_dance wsX2_joyOfEach := goodIn_r _ [8, 9, 10, 11, 12, 13, 21, 22, 23, 24, 25, 26, 27, 28, 29, 30, 31, 32, 33] (by decide +kernel) (by decide +kernel)
set_option maxRecDepth 20000 in
theorem gX2_dance_X2_joyOfEach : GoodIn wsX2_dance (wsV RX2 101 RX2 yX2_joyOfEach wsX2_joyOfEach) := goodIn_app (goodIn_of _ (by decide +kernel)) ggX2_dance_X2_joyOfEach
set_option maxRecDepth 20000 in
theorem ggX2_dance_X2_takePart : GoodIn wsX2_dance wsX2_takePart := goodIn_r _ [17, 18, 19, 9, 20, 21, 22, 23, 24, 25, 26, 27, 28, 29, 30, 31, 32, 33] (by decide +kernel) (by decide +kernel)
set_option maxRecDepth 20000 in
theorem gX2_dance_X2_takePart : GoodIn wsX2_dance (wsV RX2 104 RX2 yX2_takePart wsX2_takePart) := goodIn_app (goodIn_of _ (by decide +kernel)) ggX2_dance_X2_takePart
set_option maxRecDepth 20000 in
theorem ggX2_dance_X3_pairIndex : GoodIn wsX2_dance wsX3_pairIndex := goodIn_r _ [13] (by decide +kernel) (by decide +kernel)
set_option maxRecDepth 20000 in
theorem gX2_dance_X3_pairIndex_n107 : GoodIn wsX2_dance (wsX3_pairIndex) := ggX2_dance_X3_pairIndex
theorem dX2_dance_0 : decode cX2_dance 0 = .ok (.aload_n 0, 1) := by decide +kernel
theorem dX2_dance_1 : decode cX2_dance 1 = .ok (.iload_n 1, 1) := by decide +kernel
theorem dX2_dance_2 : decode cX2_dance 2 = .ok (.iload_n 2, 1) := by decide +kernel
theorem dX2_dance_3 : decode cX2_dance 3 = .ok (.invokevirtual 101, 3) := by decide +kernel
theorem dX2_dance_6 : decode cX2_dance 6 = .ok (.istore_n 3, 1) := by decide +kernel
theorem dX2_dance_7 : decode cX2_dance 7 = .ok (.aload_n 0, 1) := by decide +kernel
theorem dX2_dance_8 : decode cX2_dance 8 = .ok (.iload_n 1, 1) := by decide +kernel
theorem dX2_dance_9 : decode cX2_dance 9 = .ok (.iload_n 3, 1) := by decide +kernel
theorem dX2_dance_10 : decode cX2_dance 10 = .ok (.invokevirtual 104, 3) := by decide +kernel
theorem dX2_dance_13 : decode cX2_dance 13 = .ok (.aload_n 0, 1) := by decide +kernel
theorem dX2_dance_14 : decode cX2_dance 14 = .ok (.iload_n 2, 1) := by decide +kernel
theorem dX2_dance_15 : decode cX2_dance 15 = .ok (.iload_n 3, 1) := by decide +kernel
theorem dX2_dance_16 : decode cX2_dance 16 = .ok (.invokevirtual 104, 3) := by decide +kernel
theorem dX2_dance_19 : decode cX2_dance 19 = .ok (.iload_n 1, 1) := by decide +kernel
theorem dX2_dance_20 : decode cX2_dance 20 = .ok (.iload_n 2, 1) := by decide +kernel
theorem dX2_dance_21 : decode cX2_dance 21 = .ok (.invokestatic 107, 3) := by decide +kernel
theorem dX2_dance_24 : decode cX2_dance 24 = .ok (.istore 4, 2) := by decide +kernel
theorem dX2_dance_26 : decode cX2_dance 26 = .ok (.aload_n 0, 1) := by decide +kernel
theorem dX2_dance_27 : decode cX2_dance 27 = .ok (.getfield 37, 3) := by decide +kernel
theorem dX2_dance_30 : decode cX2_dance 30 = .ok (.iload 4, 2) := by decide +kernel
theorem dX2_dance_32 : decode cX2_dance 32 = .ok (.dup2, 1) := by decide +kernel
theorem dX2_dance_33 : decode cX2_dance 33 = .ok (.iaload, 1) := by decide +kernel
theorem dX2_dance_34 : decode cX2_dance 34 = .ok (.iconst 1, 1) := by decide +kernel
theorem dX2_dance_35 : decode cX2_dance 35 = .ok (.iadd, 1) := by decide +kernel
theorem dX2_dance_36 : decode cX2_dance 36 = .ok (.iastore, 1) := by decide +kernel
theorem dX2_dance_37 : decode cX2_dance 37 = .ok (.aload_n 0, 1) := by decide +kernel
theorem dX2_dance_38 : decode cX2_dance 38 = .ok (.getfield 40, 3) := by decide +kernel
theorem dX2_dance_41 : decode cX2_dance 41 = .ok (.iload 4, 2) := by decide +kernel
theorem dX2_dance_43 : decode cX2_dance 43 = .ok (.aload_n 0, 1) := by decide +kernel
theorem dX2_dance_44 : decode cX2_dance 44 = .ok (.getfield 46, 3) := by decide +kernel
theorem dX2_dance_47 : decode cX2_dance 47 = .ok (.iastore, 1) := by decide +kernel
theorem dX2_dance_48 : decode cX2_dance 48 = .ok (.return_, 1) := by decide +kernel
set_option maxRecDepth 20000 in
theorem ggX2_joyOfEach_X3_pairIndex : GoodIn wsX2_joyOfEach wsX3_pairIndex := goodIn_r _ [5] (by decide +kernel) (by decide +kernel)
set_option maxRecDepth 20000 in
theorem gX2_joyOfEach_X3_pairIndex_n107 : GoodIn wsX2_joyOfEach (wsX3_pairIndex) := ggX2_joyOfEach_X3_pairIndex
theorem dX2_joyOfEach_0 : decode cX2_joyOfEach 0 = .ok (.aload_n 0, 1) := by decide +kernel
theorem dX2_joyOfEach_1 : decode cX2_joyOfEach 1 = .ok (.getfield 9, 3) := by decide +kernel
theorem dX2_joyOfEach_4 : decode cX2_joyOfEach 4 = .ok (.iconst 2, 1) := by decide +kernel
theorem dX2_joyOfEach_5 : decode cX2_joyOfEach 5 = .ok (.iaload, 1) := by decide +kernel
theorem dX2_joyOfEach_6 : decode cX2_joyOfEach 6 = .ok (.aload_n 0, 1) := by decide +kernel
theorem dX2_joyOfEach_7 : decode cX2_joyOfEach 7 = .ok (.getfield 34, 3) := by decide +kernel
theorem dX2_joyOfEach_10 : decode cX2_joyOfEach 10 = .ok (.iload_n 1, 1) := by decide +kernel
theorem dX2_joyOfEach_11 : decode cX2_joyOfEach 11 = .ok (.iload_n 2, 1) := by decide +kernel
theorem dX2_joyOfEach_12 : decode cX2_joyOfEach 12 = .ok (.invokestatic 107, 3) := by decide +kernel
theorem dX2_joyOfEach_15 : decode cX2_joyOfEach 15 = .ok (.iaload, 1) := by decide +kernel
theorem dX2_joyOfEach_16 : decode cX2_joyOfEach 16 = .ok (.iadd, 1) := by decide +kernel
theorem dX2_joyOfEach_17 : decode cX2_joyOfEach 17 = .ok (.ireturn, 1) := by decide +kernel
theorem dX2_takePart_0 : decode cX2_takePart 0 = .ok (.aload_n 0, 1) := by decide +kernel
theorem dX2_takePart_1 : decode cX2_takePart 1 = .ok (.getfield 22, 3) := by decide +kernel
theorem dX2_takePart_4 : decode cX2_takePart 4 = .ok (.iload_n 1, 1) := by decide +kernel
theorem dX2_takePart_5 : decode cX2_takePart 5 = .ok (.dup2, 1) := by decide +kernel
theorem dX2_takePart_6 : decode cX2_takePart 6 = .ok (.iaload, 1) := by decide +kernel
theorem dX2_takePart_7 : decode cX2_takePart 7 = .ok (.iload_n 2, 1) := by decide +kernel
theorem dX2_takePart_8 : decode cX2_takePart 8 = .ok (.iadd, 1) := by decide +kernel
theorem dX2_takePart_9 : decode cX2_takePart 9 = .ok (.iastore, 1) := by decide +kernel
theorem dX2_takePart_10 : decode cX2_takePart 10 = .ok (.aload_n 0, 1) := by decide +kernel
theorem dX2_takePart_11 : decode cX2_takePart 11 = .ok (.getfield 19, 3) := by decide +kernel
theorem dX2_takePart_14 : decode cX2_takePart 14 = .ok (.iload_n 1, 1) := by decide +kernel
theorem dX2_takePart_15 : decode cX2_takePart 15 = .ok (.dup2, 1) := by decide +kernel
theorem dX2_takePart_16 : decode cX2_takePart 16 = .ok (.iaload, 1) := by decide +kernel
theorem dX2_takePart_17 : decode cX2_takePart 17 = .ok (.aload_n 0, 1) := by decide +kernel
theorem dX2_takePart_18 : decode cX2_takePart 18 = .ok (.getfield 9, 3) := by decide +kernel
theorem dX2_takePart_21 : decode cX2_takePart 21 = .ok (.iconst 0, 1) := by decide +kernel
theorem dX2_takePart_22 : decode cX2_takePart 22 = .ok (.iaload, 1) := by decide +kernel
theorem dX2_takePart_23 : decode cX2_takePart 23 = .ok (.isub, 1) := by decide +kernel
theorem dX2_takePart_24 : decode cX2_takePart 24 = .ok (.iastore, 1) := by decide +kernel
theorem dX2_takePart_25 : decode cX2_takePart 25 = .ok (.aload_n 0, 1) := by decide +kernel
theorem dX2_takePart_26 : decode cX2_takePart 26 = .ok (.getfield 25, 3) := by decide +kernel
theorem dX2_takePart_29 : decode cX2_takePart 29 = .ok (.iload_n 1, 1) := by decide +kernel
theorem dX2_takePart_30 : decode cX2_takePart 30 = .ok (.dup2, 1) := by decide +kernel
theorem dX2_takePart_31 : decode cX2_takePart 31 = .ok (.iaload, 1) := by decide +kernel
theorem dX2_takePart_32 : decode cX2_takePart 32 = .ok (.iconst 1, 1) := by decide +kernel
theorem dX2_takePart_33 : decode cX2_takePart 33 = .ok (.iadd, 1) := by decide +kernel
theorem dX2_takePart_34 : decode cX2_takePart 34 = .ok (.iastore, 1) := by decide +kernel
theorem dX2_takePart_35 : decode cX2_takePart 35 = .ok (.return_, 1) := by decide +kernel
set_option maxRecDepth 20000 in
theorem ggX2_leaveAlone_X2_isThere : GoodIn wsX2_leaveAlone wsX2_isThere := goodIn_r _ [6, 7, 19, 20, 21, 22, 23, 24, 25, 26, 27, 28, 29, 30, 31] (by decide +kernel) (by decide +kernel)
set_option maxRecDepth 20000 in
theorem gX2_leaveAlone_X2_isThere : GoodIn wsX2_leaveAlone (wsV RX2 97 RX2 yX2_isThere wsX2_isThere) := goodIn_app (goodIn_of _ (by decide +kernel)) ggX2_leaveAlone_X2_isThere
set_option maxRecDepth 20000 in
theorem ggX2_leaveAlone_X2_rest : GoodIn wsX2_leaveAlone wsX2_rest := goodIn_r _ [11, 12, 13, 14, 15, 16, 17, 18, 2, 3, 4, 5, 6, 7, 19, 20, 21, 22, 23, 24, 25, 26, 27, 28, 29, 30, 31] (by decide +kernel) (by decide +kernel)
set_option maxRecDepth 20000 in
theorem gX2_leaveAlone_X2_rest : GoodIn wsX2_leaveAlone (wsV RX2 78 RX2 yX2_rest wsX2_rest) := goodIn_app (goodIn_of _ (by decide +kernel)) ggX2_leaveAlone_X2_rest
theorem dX2_leaveAlone_0 : decode cX2_leaveAlone 0 = .ok (.aload_n 0, 1) := by decide +kernel
theorem dX2_leaveAlone_1 : decode cX2_leaveAlone 1 = .ok (.iload_n 1, 1) := by decide +kernel
theorem dX2_leaveAlone_2 : decode cX2_leaveAlone 2 = .ok (.invokevirtual 97, 3) := by decide +kernel
theorem dX2_leaveAlone_5 : decode cX2_leaveAlone 5 = .ok (.ifCond .eq 18, 3) := by decide +kernel
theorem dX2_leaveAlone_8 : decode cX2_leaveAlone 8 = .ok (.aload_n 0, 1) := by decide +kernel
theorem dX2_leaveAlone_9 : decode cX2_leaveAlone 9 = .ok (.getfield 31, 3) := by decide +kernel
theorem dX2_leaveAlone_12 : decode cX2_leaveAlone 12 = .ok (.iload_n 1, 1) := by decide +kernel
theorem dX2_leaveAlone_13 : decode cX2_leaveAlone 13 = .ok (.dup2, 1) := by decide +kernel
theorem dX2_leaveAlone_14 : decode cX2_leaveAlone 14 = .ok (.iaload, 1) := by decide +kernel
theorem dX2_leaveAlone_15 : decode cX2_leaveAlone 15 = .ok (.iconst 1, 1) := by decide +kernel
theorem dX2_leaveAlone_16 : decode cX2_leaveAlone 16 = .ok (.iadd, 1) := by decide +kernel
theorem dX2_leaveAlone_17 : decode cX2_leaveAlone 17 = .ok (.iastore, 1) := by decide +kernel
theorem dX2_leaveAlone_18 : decode cX2_leaveAlone 18 = .ok (.aload_n 0, 1) := by decide +kernel
theorem dX2_leaveAlone_19 : decode cX2_leaveAlone 19 = .ok (.iload_n 1, 1) := by decide +kernel
theorem dX2_leaveAlone_20 : decode cX2_leaveAlone 20 = .ok (.invokevirtual 78, 3) := by decide +kernel
theorem dX2_leaveAlone_23 : decode cX2_leaveAlone 23 = .ok (.return_, 1) := by decide +kernel
set_option maxRecDepth 20000 in
theorem ggX2_rest_X2_isThere : GoodIn wsX2_rest wsX2_isThere := goodIn_r _ [12, 13, 14, 15, 16, 17, 18, 19, 20, 21, 22, 23, 24, 25, 26] (by decide +kernel) (by decide +kernel)
set_option maxRecDepth 20000 in
theorem gX2_rest_X2_isThere : GoodIn wsX2_rest (wsV RX2 97 RX2 yX2_isThere wsX2_isThere) := goodIn_app (goodIn_of _ (by decide +kernel)) ggX2_rest_X2_isThere
theorem dX2_rest_0 : decode cX2_rest 0 = .ok (.aload_n 0, 1) := by decide +kernel
theorem dX2_rest_1 : decode cX2_rest 1 = .ok (.iload_n 1, 1) := by decide +kernel
theorem dX2_rest_2 : decode cX2_rest 2 = .ok (.invokevirtual 97, 3) := by decide +kernel
theorem dX2_rest_5 : decode cX2_rest 5 = .ok (.ifCond .eq 37, 3) := by decide +kernel
theorem dX2_rest_8 : decode cX2_rest 8 = .ok (.aload_n 0, 1) := by decide +kernel
theorem dX2_rest_9 : decode cX2_rest 9 = .ok (.getfield 28, 3) := by decide +kernel
theorem dX2_rest_12 : decode cX2_rest 12 = .ok (.iload_n 1, 1) := by decide +kernel
theorem dX2_rest_13 : decode cX2_rest 13 = .ok (.dup2, 1) := by decide +kernel
theorem dX2_rest_14 : decode cX2_rest 14 = .ok (.iaload, 1) := by decide +kernel
theorem dX2_rest_15 : decode cX2_rest 15 = .ok (.iconst 1, 1) := by decide +kernel
theorem dX2_rest_16 : decode cX2_rest 16 = .ok (.iadd, 1) := by decide +kernel
theorem dX2_rest_17 : decode cX2_rest 17 = .ok (.iastore, 1) := by decide +kernel
theorem dX2_rest_18 : decode cX2_rest 18 = .ok (.aload_n 0, 1) := by decide +kernel
theorem dX2_rest_19 : decode cX2_rest 19 = .ok (.getfield 19, 3) := by decide +kernel
theorem dX2_rest_22 : decode cX2_rest 22 = .ok (.iload_n 1, 1) := by decide +kernel
theorem dX2_rest_23 : decode cX2_rest 23 = .ok (.aload_n 0, 1) := by decide +kernel
theorem dX2_rest_24 : decode cX2_rest 24 = .ok (.getfield 19, 3) := by decide +kernel
theorem dX2_rest_27 : decode cX2_rest 27 = .ok (.iload_n 1, 1) := by decide +kernel
theorem dX2_rest_28 : decode cX2_rest 28 = .ok (.iaload, 1) := by decide +kernel
theorem dX2_rest_29 : decode cX2_rest 29 = .ok (.aload_n 0, 1) := by decide +kernel
theorem dX2_rest_30 : decode cX2_rest 30 = .ok (.getfield 9, 3) := by decide +kernel
theorem dX2_rest_33 : decode cX2_rest 33 = .ok (.iconst 1, 1) := by decide +kernel
theorem dX2_rest_34 : decode cX2_rest 34 = .ok (.iaload, 1) := by decide +kernel
theorem dX2_rest_35 : decode cX2_rest 35 = .ok (.iadd, 1) := by decide +kernel
theorem dX2_rest_36 : decode cX2_rest 36 = .ok (.bipush 20, 2) := by decide +kernel
theorem dX2_rest_38 : decode cX2_rest 38 = .ok (.invokestatic 63, 3) := by decide +kernel
theorem dX2_rest_41 : decode cX2_rest 41 = .ok (.iastore, 1) := by decide +kernel
theorem dX2_rest_42 : decode cX2_rest 42 = .ok (.return_, 1) := by decide +kernel
set_option maxRecDepth 20000 in
theorem ggX2_dancedWith_X3_pairIndex : GoodIn wsX2_dancedWith wsX3_pairIndex := goodIn_r _ [4] (by decide +kernel) (by decide +kernel)
set_option maxRecDepth 20000 in
theorem gX2_dancedWith_X3_pairIndex_n107 : GoodIn wsX2_dancedWith (wsX3_pairIndex) := ggX2_dancedWith_X3_pairIndex
theorem dX2_dancedWith_0 : decode cX2_dancedWith 0 = .ok (.iconst 0, 1) := by decide +kernel
theorem dX2_dancedWith_1 : decode cX2_dancedWith 1 = .ok (.istore_n 2, 1) := by decide +kernel
theorem dX2_dancedWith_2 : decode cX2_dancedWith 2 = .ok (.iconst 0, 1) := by decide +kernel
theorem dX2_dancedWith_3 : decode cX2_dancedWith 3 = .ok (.istore_n 3, 1) := by decide +kernel
theorem dX2_dancedWith_4 : decode cX2_dancedWith 4 = .ok (.iload_n 3, 1) := by decide +kernel
theorem dX2_dancedWith_5 : decode cX2_dancedWith 5 = .ok (.bipush 9, 2) := by decide +kernel
theorem dX2_dancedWith_7 : decode cX2_dancedWith 7 = .ok (.if_icmp .ge 28, 3) := by decide +kernel
theorem dX2_dancedWith_10 : decode cX2_dancedWith 10 = .ok (.aload_n 0, 1) := by decide +kernel
theorem dX2_dancedWith_11 : decode cX2_dancedWith 11 = .ok (.getfield 37, 3) := by decide +kernel
theorem dX2_dancedWith_14 : decode cX2_dancedWith 14 = .ok (.iload_n 1, 1) := by decide +kernel
theorem dX2_dancedWith_15 : decode cX2_dancedWith 15 = .ok (.iload_n 3, 1) := by decide +kernel
theorem dX2_dancedWith_16 : decode cX2_dancedWith 16 = .ok (.invokestatic 107, 3) := by decide +kernel
theorem dX2_dancedWith_19 : decode cX2_dancedWith 19 = .ok (.iaload, 1) := by decide +kernel
theorem dX2_dancedWith_20 : decode cX2_dancedWith 20 = .ok (.ifCond .le 9, 3) := by decide +kernel
theorem dX2_dancedWith_23 : decode cX2_dancedWith 23 = .ok (.iload_n 2, 1) := by decide +kernel
theorem dX2_dancedWith_24 : decode cX2_dancedWith 24 = .ok (.iconst 1, 1) := by decide +kernel
theorem dX2_dancedWith_25 : decode cX2_dancedWith 25 = .ok (.iload_n 3, 1) := by decide +kernel
theorem dX2_dancedWith_26 : decode cX2_dancedWith 26 = .ok (.ishl, 1) := by decide +kernel
theorem dX2_dancedWith_27 : decode cX2_dancedWith 27 = .ok (.ior, 1) := by decide +kernel
theorem dX2_dancedWith_28 : decode cX2_dancedWith 28 = .ok (.istore_n 2, 1) := by decide +kernel
theorem dX2_dancedWith_29 : decode cX2_dancedWith 29 = .ok (.iinc 3 1, 3) := by decide +kernel
theorem dX2_dancedWith_32 : decode cX2_dancedWith 32 = .ok (.goto (-28), 3) := by decide +kernel
theorem dX2_dancedWith_35 : decode cX2_dancedWith 35 = .ok (.iload_n 2, 1) := by decide +kernel
theorem dX2_dancedWith_36 : decode cX2_dancedWith 36 = .ok (.ireturn, 1) := by decide +kernel
set_option maxRecDepth 20000 in
theorem ggX2_mostFrequentPartner_X3_pairIndex : GoodIn wsX2_mostFrequentPartner wsX3_pairIndex := goodIn_r _ [5] (by decide +kernel) (by decide +kernel)
set_option maxRecDepth 20000 in
theorem gX2_mostFrequentPartner_X3_pairIndex_n107 : GoodIn wsX2_mostFrequentPartner (wsX3_pairIndex) := ggX2_mostFrequentPartner_X3_pairIndex
theorem dX2_mostFrequentPartner_0 : decode cX2_mostFrequentPartner 0 = .ok (.ldc 49, 2) := by decide +kernel
theorem dX2_mostFrequentPartner_2 : decode cX2_mostFrequentPartner 2 = .ok (.istore_n 2, 1) := by decide +kernel
theorem dX2_mostFrequentPartner_3 : decode cX2_mostFrequentPartner 3 = .ok (.iconst 0, 1) := by decide +kernel
theorem dX2_mostFrequentPartner_4 : decode cX2_mostFrequentPartner 4 = .ok (.istore_n 3, 1) := by decide +kernel
theorem dX2_mostFrequentPartner_5 : decode cX2_mostFrequentPartner 5 = .ok (.iconst 0, 1) := by decide +kernel
theorem dX2_mostFrequentPartner_6 : decode cX2_mostFrequentPartner 6 = .ok (.istore 4, 2) := by decide +kernel
theorem dX2_mostFrequentPartner_8 : decode cX2_mostFrequentPartner 8 = .ok (.iload 4, 2) := by decide +kernel
theorem dX2_mostFrequentPartner_10 : decode cX2_mostFrequentPartner 10 = .ok (.bipush 9, 2) := by decide +kernel
theorem dX2_mostFrequentPartner_12 : decode cX2_mostFrequentPartner 12 = .ok (.if_icmp .ge 34, 3) := by decide +kernel
theorem dX2_mostFrequentPartner_15 : decode cX2_mostFrequentPartner 15 = .ok (.aload_n 0, 1) := by decide +kernel
theorem dX2_mostFrequentPartner_16 : decode cX2_mostFrequentPartner 16 = .ok (.getfield 37, 3) := by decide +kernel
theorem dX2_mostFrequentPartner_19 : decode cX2_mostFrequentPartner 19 = .ok (.iload_n 1, 1) := by decide +kernel
theorem dX2_mostFrequentPartner_20 : decode cX2_mostFrequentPartner 20 = .ok (.iload 4, 2) := by decide +kernel
theorem dX2_mostFrequentPartner_22 : decode cX2_mostFrequentPartner 22 = .ok (.invokestatic 107, 3) := by decide +kernel
theorem dX2_mostFrequentPartner_25 : decode cX2_mostFrequentPartner 25 = .ok (.iaload, 1) := by decide +kernel
theorem dX2_mostFrequentPartner_26 : decode cX2_mostFrequentPartner 26 = .ok (.istore 5, 2) := by decide +kernel
theorem dX2_mostFrequentPartner_28 : decode cX2_mostFrequentPartner 28 = .ok (.iload 5, 2) := by decide +kernel
theorem dX2_mostFrequentPartner_30 : decode cX2_mostFrequentPartner 30 = .ok (.iload_n 3, 1) := by decide +kernel
theorem dX2_mostFrequentPartner_31 : decode cX2_mostFrequentPartner 31 = .ok (.if_icmp .le 9, 3) := by decide +kernel
theorem dX2_mostFrequentPartner_34 : decode cX2_mostFrequentPartner 34 = .ok (.iload 4, 2) := by decide +kernel
theorem dX2_mostFrequentPartner_36 : decode cX2_mostFrequentPartner 36 = .ok (.istore_n 2, 1) := by decide +kernel
theorem dX2_mostFrequentPartner_37 : decode cX2_mostFrequentPartner 37 = .ok (.iload 5, 2) := by decide +kernel
theorem dX2_mostFrequentPartner_39 : decode cX2_mostFrequentPartner 39 = .ok (.istore_n 3, 1) := by decide +kernel
theorem dX2_mostFrequentPartner_40 : decode cX2_mostFrequentPartner 40 = .ok (.iinc 4 1, 3) := by decide +kernel
theorem dX2_mostFrequentPartner_43 : decode cX2_mostFrequentPartner 43 = .ok (.goto (-35), 3) := by decide +kernel
theorem dX2_mostFrequentPartner_46 : decode cX2_mostFrequentPartner 46 = .ok (.iload_n 2, 1) := by decide +kernel
theorem dX2_mostFrequentPartner_47 : decode cX2_mostFrequentPartner 47 = .ok (.ireturn, 1) := by decide +kernel
set_option maxRecDepth 20000 in
theorem ggX2_isUnmet_X2_isThere : GoodIn wsX2_isUnmet wsX2_isThere := goodIn_r _ [6, 7, 11, 12, 13, 14, 15, 16, 17, 18, 19, 20, 21, 22, 23] (by decide +kernel) (by decide +kernel)
set_option maxRecDepth 20000 in
theorem gX2_isUnmet_X2_isThere : GoodIn wsX2_isUnmet (wsV RX2 97 RX2 yX2_isThere wsX2_isThere) := goodIn_app (goodIn_of _ (by decide +kernel)) ggX2_isUnmet_X2_isThere
set_option maxRecDepth 20000 in
theorem ggX2_isUnmet_X3_pairIndex : GoodIn wsX2_isUnmet wsX3_pairIndex := goodIn_r _ [10] (by decide +kernel) (by decide +kernel)
set_option maxRecDepth 20000 in
theorem gX2_isUnmet_X3_pairIndex_n107 : GoodIn wsX2_isUnmet (wsX3_pairIndex) := ggX2_isUnmet_X3_pairIndex
theorem dX2_isUnmet_0 : decode cX2_isUnmet 0 = .ok (.aload_n 0, 1) := by decide +kernel
theorem dX2_isUnmet_1 : decode cX2_isUnmet 1 = .ok (.iload_n 1, 1) := by decide +kernel
theorem dX2_isUnmet_2 : decode cX2_isUnmet 2 = .ok (.invokevirtual 97, 3) := by decide +kernel
theorem dX2_isUnmet_5 : decode cX2_isUnmet 5 = .ok (.ifCond .eq 28, 3) := by decide +kernel
theorem dX2_isUnmet_8 : decode cX2_isUnmet 8 = .ok (.aload_n 0, 1) := by decide +kernel
theorem dX2_isUnmet_9 : decode cX2_isUnmet 9 = .ok (.iload_n 2, 1) := by decide +kernel
theorem dX2_isUnmet_10 : decode cX2_isUnmet 10 = .ok (.invokevirtual 97, 3) := by decide +kernel
theorem dX2_isUnmet_13 : decode cX2_isUnmet 13 = .ok (.ifCond .eq 20, 3) := by decide +kernel
theorem dX2_isUnmet_16 : decode cX2_isUnmet 16 = .ok (.aload_n 0, 1) := by decide +kernel
theorem dX2_isUnmet_17 : decode cX2_isUnmet 17 = .ok (.getfield 37, 3) := by decide +kernel
theorem dX2_isUnmet_20 : decode cX2_isUnmet 20 = .ok (.iload_n 1, 1) := by decide +kernel
theorem dX2_isUnmet_21 : decode cX2_isUnmet 21 = .ok (.iload_n 2, 1) := by decide +kernel
theorem dX2_isUnmet_22 : decode cX2_isUnmet 22 = .ok (.invokestatic 107, 3) := by decide +kernel
theorem dX2_isUnmet_25 : decode cX2_isUnmet 25 = .ok (.iaload, 1) := by decide +kernel
theorem dX2_isUnmet_26 : decode cX2_isUnmet 26 = .ok (.ifCond .ne 7, 3) := by decide +kernel
theorem dX2_isUnmet_29 : decode cX2_isUnmet 29 = .ok (.iconst 1, 1) := by decide +kernel
theorem dX2_isUnmet_30 : decode cX2_isUnmet 30 = .ok (.goto 4, 3) := by decide +kernel
theorem dX2_isUnmet_33 : decode cX2_isUnmet 33 = .ok (.iconst 0, 1) := by decide +kernel
theorem dX2_isUnmet_34 : decode cX2_isUnmet 34 = .ok (.ireturn, 1) := by decide +kernel
set_option maxRecDepth 20000 in
theorem ggX2_unmetPairs_X2_isUnmet : GoodIn wsX2_unmetPairs wsX2_isUnmet := goodIn_r _ [5, 6, 7, 8, 9, 4, 10, 11, 12, 13, 14, 15, 16, 17, 18, 19, 20, 21, 22, 23, 24, 25, 26, 27] (by decide +kernel) (by decide +kernel)
set_option maxRecDepth 20000 in
theorem gX2_unmetPairs_X2_isUnmet : GoodIn wsX2_unmetPairs (wsV RX2 110 RX2 yX2_isUnmet wsX2_isUnmet) := goodIn_app (goodIn_of _ (by decide +kernel)) ggX2_unmetPairs_X2_isUnmet
theorem dX2_unmetPairs_0 : decode cX2_unmetPairs 0 = .ok (.iconst 0, 1) := by decide +kernel
theorem dX2_unmetPairs_1 : decode cX2_unmetPairs 1 = .ok (.istore_n 1, 1) := by decide +kernel
theorem dX2_unmetPairs_2 : decode cX2_unmetPairs 2 = .ok (.iconst 0, 1) := by decide +kernel
theorem dX2_unmetPairs_3 : decode cX2_unmetPairs 3 = .ok (.istore_n 2, 1) := by decide +kernel
theorem dX2_unmetPairs_4 : decode cX2_unmetPairs 4 = .ok (.iload_n 2, 1) := by decide +kernel
theorem dX2_unmetPairs_5 : decode cX2_unmetPairs 5 = .ok (.bipush 9, 2) := by decide +kernel
theorem dX2_unmetPairs_7 : decode cX2_unmetPairs 7 = .ok (.if_icmp .ge 37, 3) := by decide +kernel
theorem dX2_unmetPairs_10 : decode cX2_unmetPairs 10 = .ok (.iload_n 2, 1) := by decide +kernel
theorem dX2_unmetPairs_11 : decode cX2_unmetPairs 11 = .ok (.iconst 1, 1) := by decide +kernel
theorem dX2_unmetPairs_12 : decode cX2_unmetPairs 12 = .ok (.iadd, 1) := by decide +kernel
theorem dX2_unmetPairs_13 : decode cX2_unmetPairs 13 = .ok (.istore_n 3, 1) := by decide +kernel
theorem dX2_unmetPairs_14 : decode cX2_unmetPairs 14 = .ok (.iload_n 3, 1) := by decide +kernel
theorem dX2_unmetPairs_15 : decode cX2_unmetPairs 15 = .ok (.bipush 9, 2) := by decide +kernel
theorem dX2_unmetPairs_17 : decode cX2_unmetPairs 17 = .ok (.if_icmp .ge 21, 3) := by decide +kernel
theorem dX2_unmetPairs_20 : decode cX2_unmetPairs 20 = .ok (.aload_n 0, 1) := by decide +kernel
theorem dX2_unmetPairs_21 : decode cX2_unmetPairs 21 = .ok (.iload_n 2, 1) := by decide +kernel
theorem dX2_unmetPairs_22 : decode cX2_unmetPairs 22 = .ok (.iload_n 3, 1) := by decide +kernel
theorem dX2_unmetPairs_23 : decode cX2_unmetPairs 23 = .ok (.invokevirtual 110, 3) := by decide +kernel
theorem dX2_unmetPairs_26 : decode cX2_unmetPairs 26 = .ok (.ifCond .eq 6, 3) := by decide +kernel
theorem dX2_unmetPairs_29 : decode cX2_unmetPairs 29 = .ok (.iinc 1 1, 3) := by decide +kernel
theorem dX2_unmetPairs_32 : decode cX2_unmetPairs 32 = .ok (.iinc 3 1, 3) := by decide +kernel
theorem dX2_unmetPairs_35 : decode cX2_unmetPairs 35 = .ok (.goto (-21), 3) := by decide +kernel
theorem dX2_unmetPairs_38 : decode cX2_unmetPairs 38 = .ok (.iinc 2 1, 3) := by decide +kernel
theorem dX2_unmetPairs_41 : decode cX2_unmetPairs 41 = .ok (.goto (-37), 3) := by decide +kernel
theorem dX2_unmetPairs_44 : decode cX2_unmetPairs 44 = .ok (.iload_n 1, 1) := by decide +kernel
theorem dX2_unmetPairs_45 : decode cX2_unmetPairs 45 = .ok (.ireturn, 1) := by decide +kernel
set_option maxRecDepth 20000 in
theorem ggX2_remaindersWithUnmetPair_X2_hasUnmetPair : GoodIn wsX2_remaindersWithUnmetPair wsX2_hasUnmetPair := goodIn_r _ [5, 6, 7, 8, 9, 10, 11, 12, 13, 14, 15, 16, 17, 18, 4, 19, 20, 21, 22, 23, 24, 25, 26, 27, 28, 29, 30, 31, 32, 33, 34, 35, 36, 37, 38, 39, 40] (by decide +kernel) (by decide +kernel)
set_option maxRecDepth 20000 in
theorem gX2_remaindersWithUnmetPair_X2_hasUnmetPair : GoodIn wsX2_remaindersWithUnmetPair (wsV RX2 113 RX2 yX2_hasUnmetPair wsX2_hasUnmetPair) := goodIn_app (goodIn_of _ (by decide +kernel)) ggX2_remaindersWithUnmetPair_X2_hasUnmetPair
theorem dX2_remaindersWithUnmetPair_0 : decode cX2_remaindersWithUnmetPair 0 = .ok (.iconst 0, 1) := by decide +kernel
theorem dX2_remaindersWithUnmetPair_1 : decode cX2_remaindersWithUnmetPair 1 = .ok (.istore_n 1, 1) := by decide +kernel
theorem dX2_remaindersWithUnmetPair_2 : decode cX2_remaindersWithUnmetPair 2 = .ok (.iconst 0, 1) := by decide +kernel
theorem dX2_remaindersWithUnmetPair_3 : decode cX2_remaindersWithUnmetPair 3 = .ok (.istore_n 2, 1) := by decide +kernel
theorem dX2_remaindersWithUnmetPair_4 : decode cX2_remaindersWithUnmetPair 4 = .ok (.iload_n 2, 1) := by decide +kernel
theorem dX2_remaindersWithUnmetPair_5 : decode cX2_remaindersWithUnmetPair 5 = .ok (.bipush 9, 2) := by decide +kernel
theorem dX2_remaindersWithUnmetPair_7 : decode cX2_remaindersWithUnmetPair 7 = .ok (.if_icmp .ge 20, 3) := by decide +kernel
theorem dX2_remaindersWithUnmetPair_10 : decode cX2_remaindersWithUnmetPair 10 = .ok (.aload_n 0, 1) := by decide +kernel
theorem dX2_remaindersWithUnmetPair_11 : decode cX2_remaindersWithUnmetPair 11 = .ok (.iload_n 2, 1) := by decide +kernel
theorem dX2_remaindersWithUnmetPair_12 : decode cX2_remaindersWithUnmetPair 12 = .ok (.invokevirtual 113, 3) := by decide +kernel
theorem dX2_remaindersWithUnmetPair_15 : decode cX2_remaindersWithUnmetPair 15 = .ok (.ifCond .eq 6, 3) := by decide +kernel
theorem dX2_remaindersWithUnmetPair_18 : decode cX2_remaindersWithUnmetPair 18 = .ok (.iinc 1 1, 3) := by decide +kernel
theorem dX2_remaindersWithUnmetPair_21 : decode cX2_remaindersWithUnmetPair 21 = .ok (.iinc 2 1, 3) := by decide +kernel
theorem dX2_remaindersWithUnmetPair_24 : decode cX2_remaindersWithUnmetPair 24 = .ok (.goto (-20), 3) := by decide +kernel
theorem dX2_remaindersWithUnmetPair_27 : decode cX2_remaindersWithUnmetPair 27 = .ok (.iload_n 1, 1) := by decide +kernel
theorem dX2_remaindersWithUnmetPair_28 : decode cX2_remaindersWithUnmetPair 28 = .ok (.ireturn, 1) := by decide +kernel
set_option maxRecDepth 20000 in
theorem ggX2_hasUnmetPair_X3_counterpart : GoodIn wsX2_hasUnmetPair wsX3_counterpart := goodIn_r _ [3, 4, 5, 2, 6, 7, 8, 9, 10] (by decide +kernel) (by decide +kernel)
set_option maxRecDepth 20000 in
theorem gX2_hasUnmetPair_X3_counterpart_n75 : GoodIn wsX2_hasUnmetPair (wsX3_counterpart) := ggX2_hasUnmetPair_X3_counterpart
set_option maxRecDepth 20000 in
theorem ggX2_hasUnmetPair_X2_isUnmet : GoodIn wsX2_hasUnmetPair wsX2_isUnmet := goodIn_r _ [15, 16, 17, 18, 19, 14, 20, 21, 22, 2, 23, 24, 25, 26, 27, 28, 29, 30, 31, 32, 33, 34, 35, 36] (by decide +kernel) (by decide +kernel)
set_option maxRecDepth 20000 in
theorem gX2_hasUnmetPair_X2_isUnmet : GoodIn wsX2_hasUnmetPair (wsV RX2 110 RX2 yX2_isUnmet wsX2_isUnmet) := goodIn_app (goodIn_of _ (by decide +kernel)) ggX2_hasUnmetPair_X2_isUnmet
theorem dX2_hasUnmetPair_0 : decode cX2_hasUnmetPair 0 = .ok (.iconst 0, 1) := by decide +kernel
theorem dX2_hasUnmetPair_1 : decode cX2_hasUnmetPair 1 = .ok (.istore_n 2, 1) := by decide +kernel
theorem dX2_hasUnmetPair_2 : decode cX2_hasUnmetPair 2 = .ok (.iload_n 2, 1) := by decide +kernel
theorem dX2_hasUnmetPair_3 : decode cX2_hasUnmetPair 3 = .ok (.bipush 9, 2) := by decide +kernel
theorem dX2_hasUnmetPair_5 : decode cX2_hasUnmetPair 5 = .ok (.if_icmp .ge 31, 3) := by decide +kernel
theorem dX2_hasUnmetPair_8 : decode cX2_hasUnmetPair 8 = .ok (.iload_n 2, 1) := by decide +kernel
theorem dX2_hasUnmetPair_9 : decode cX2_hasUnmetPair 9 = .ok (.iload_n 1, 1) := by decide +kernel
theorem dX2_hasUnmetPair_10 : decode cX2_hasUnmetPair 10 = .ok (.invokestatic 75, 3) := by decide +kernel
theorem dX2_hasUnmetPair_13 : decode cX2_hasUnmetPair 13 = .ok (.istore_n 3, 1) := by decide +kernel
theorem dX2_hasUnmetPair_14 : decode cX2_hasUnmetPair 14 = .ok (.iload_n 2, 1) := by decide +kernel
theorem dX2_hasUnmetPair_15 : decode cX2_hasUnmetPair 15 = .ok (.iload_n 3, 1) := by decide +kernel
theorem dX2_hasUnmetPair_16 : decode cX2_hasUnmetPair 16 = .ok (.if_icmp .ge 14, 3) := by decide +kernel
theorem dX2_hasUnmetPair_19 : decode cX2_hasUnmetPair 19 = .ok (.aload_n 0, 1) := by decide +kernel
theorem dX2_hasUnmetPair_20 : decode cX2_hasUnmetPair 20 = .ok (.iload_n 2, 1) := by decide +kernel
theorem dX2_hasUnmetPair_21 : decode cX2_hasUnmetPair 21 = .ok (.iload_n 3, 1) := by decide +kernel
theorem dX2_hasUnmetPair_22 : decode cX2_hasUnmetPair 22 = .ok (.invokevirtual 110, 3) := by decide +kernel
theorem dX2_hasUnmetPair_25 : decode cX2_hasUnmetPair 25 = .ok (.ifCond .eq 5, 3) := by decide +kernel
theorem dX2_hasUnmetPair_28 : decode cX2_hasUnmetPair 28 = .ok (.iconst 1, 1) := by decide +kernel
theorem dX2_hasUnmetPair_29 : decode cX2_hasUnmetPair 29 = .ok (.ireturn, 1) := by decide +kernel
theorem dX2_hasUnmetPair_30 : decode cX2_hasUnmetPair 30 = .ok (.iinc 2 1, 3) := by decide +kernel
theorem dX2_hasUnmetPair_33 : decode cX2_hasUnmetPair 33 = .ok (.goto (-31), 3) := by decide +kernel
theorem dX2_hasUnmetPair_36 : decode cX2_hasUnmetPair 36 = .ok (.iconst 0, 1) := by decide +kernel
theorem dX2_hasUnmetPair_37 : decode cX2_hasUnmetPair 37 = .ok (.ireturn, 1) := by decide +kernel
set_option maxRecDepth 20000 in
theorem ggX2_roundsByTrying_X2_isUnmet : GoodIn wsX2_roundsByTrying wsX2_isUnmet := goodIn_r _ [5, 6, 7, 8, 9, 4, 10, 11, 12, 13, 14, 28, 29, 30, 31, 32, 33, 34, 35, 36, 37, 38, 39, 40] (by decide +kernel) (by decide +kernel)
set_option maxRecDepth 20000 in
theorem gX2_roundsByTrying_X2_isUnmet : GoodIn wsX2_roundsByTrying (wsV RX2 110 RX2 yX2_isUnmet wsX2_isUnmet) := goodIn_app (goodIn_of _ (by decide +kernel)) ggX2_roundsByTrying_X2_isUnmet
set_option maxRecDepth 20000 in
theorem ggX2_roundsByTrying_X3_remainderOf : GoodIn wsX2_roundsByTrying wsX3_remainderOf := goodIn_r _ [16, 17, 18, 19, 20] (by decide +kernel) (by decide +kernel)
set_option maxRecDepth 20000 in
theorem gX2_roundsByTrying_X3_remainderOf_n93 : GoodIn wsX2_roundsByTrying (wsX3_remainderOf) := ggX2_roundsByTrying_X3_remainderOf
set_option maxRecDepth 20000 in
theorem ggX2_roundsByTrying_J6_bitCount_0f7a4 : GoodIn wsX2_roundsByTrying wsJ6_bitCount_0f7a4 := goodIn_r _ [24, 25, 26, 27] (by decide +kernel) (by decide +kernel)
set_option maxRecDepth 20000 in
theorem gX2_roundsByTrying_J6_bitCount_0f7a4 : GoodIn wsX2_roundsByTrying (va_wsS RX2 116 yJ6_bitCount_0f7a4 wsJ6_bitCount_0f7a4) := goodIn_app (goodIn_of _ (by decide +kernel)) ggX2_roundsByTrying_J6_bitCount_0f7a4
theorem dX2_roundsByTrying_0 : decode cX2_roundsByTrying 0 = .ok (.iconst 0, 1) := by decide +kernel
theorem dX2_roundsByTrying_1 : decode cX2_roundsByTrying 1 = .ok (.istore_n 1, 1) := by decide +kernel
theorem dX2_roundsByTrying_2 : decode cX2_roundsByTrying 2 = .ok (.iconst 0, 1) := by decide +kernel
theorem dX2_roundsByTrying_3 : decode cX2_roundsByTrying 3 = .ok (.istore_n 2, 1) := by decide +kernel
theorem dX2_roundsByTrying_4 : decode cX2_roundsByTrying 4 = .ok (.iload_n 2, 1) := by decide +kernel
theorem dX2_roundsByTrying_5 : decode cX2_roundsByTrying 5 = .ok (.bipush 9, 2) := by decide +kernel
theorem dX2_roundsByTrying_7 : decode cX2_roundsByTrying 7 = .ok (.if_icmp .ge 45, 3) := by decide +kernel
theorem dX2_roundsByTrying_10 : decode cX2_roundsByTrying 10 = .ok (.iload_n 2, 1) := by decide +kernel
theorem dX2_roundsByTrying_11 : decode cX2_roundsByTrying 11 = .ok (.iconst 1, 1) := by decide +kernel
theorem dX2_roundsByTrying_12 : decode cX2_roundsByTrying 12 = .ok (.iadd, 1) := by decide +kernel
theorem dX2_roundsByTrying_13 : decode cX2_roundsByTrying 13 = .ok (.istore_n 3, 1) := by decide +kernel
theorem dX2_roundsByTrying_14 : decode cX2_roundsByTrying 14 = .ok (.iload_n 3, 1) := by decide +kernel
theorem dX2_roundsByTrying_15 : decode cX2_roundsByTrying 15 = .ok (.bipush 9, 2) := by decide +kernel
theorem dX2_roundsByTrying_17 : decode cX2_roundsByTrying 17 = .ok (.if_icmp .ge 29, 3) := by decide +kernel
theorem dX2_roundsByTrying_20 : decode cX2_roundsByTrying 20 = .ok (.aload_n 0, 1) := by decide +kernel
theorem dX2_roundsByTrying_21 : decode cX2_roundsByTrying 21 = .ok (.iload_n 2, 1) := by decide +kernel
theorem dX2_roundsByTrying_22 : decode cX2_roundsByTrying 22 = .ok (.iload_n 3, 1) := by decide +kernel
theorem dX2_roundsByTrying_23 : decode cX2_roundsByTrying 23 = .ok (.invokevirtual 110, 3) := by decide +kernel
theorem dX2_roundsByTrying_26 : decode cX2_roundsByTrying 26 = .ok (.ifCond .eq 14, 3) := by decide +kernel
theorem dX2_roundsByTrying_29 : decode cX2_roundsByTrying 29 = .ok (.iload_n 1, 1) := by decide +kernel
theorem dX2_roundsByTrying_30 : decode cX2_roundsByTrying 30 = .ok (.iconst 1, 1) := by decide +kernel
theorem dX2_roundsByTrying_31 : decode cX2_roundsByTrying 31 = .ok (.iload_n 2, 1) := by decide +kernel
theorem dX2_roundsByTrying_32 : decode cX2_roundsByTrying 32 = .ok (.iload_n 3, 1) := by decide +kernel
theorem dX2_roundsByTrying_33 : decode cX2_roundsByTrying 33 = .ok (.iadd, 1) := by decide +kernel
theorem dX2_roundsByTrying_34 : decode cX2_roundsByTrying 34 = .ok (.invokestatic 93, 3) := by decide +kernel
theorem dX2_roundsByTrying_37 : decode cX2_roundsByTrying 37 = .ok (.ishl, 1) := by decide +kernel
theorem dX2_roundsByTrying_38 : decode cX2_roundsByTrying 38 = .ok (.ior, 1) := by decide +kernel
theorem dX2_roundsByTrying_39 : decode cX2_roundsByTrying 39 = .ok (.istore_n 1, 1) := by decide +kernel
theorem dX2_roundsByTrying_40 : decode cX2_roundsByTrying 40 = .ok (.iinc 3 1, 3) := by decide +kernel
theorem dX2_roundsByTrying_43 : decode cX2_roundsByTrying 43 = .ok (.goto (-29), 3) := by decide +kernel
theorem dX2_roundsByTrying_46 : decode cX2_roundsByTrying 46 = .ok (.iinc 2 1, 3) := by decide +kernel
theorem dX2_roundsByTrying_49 : decode cX2_roundsByTrying 49 = .ok (.goto (-45), 3) := by decide +kernel
theorem dX2_roundsByTrying_52 : decode cX2_roundsByTrying 52 = .ok (.iload_n 1, 1) := by decide +kernel
theorem dX2_roundsByTrying_53 : decode cX2_roundsByTrying 53 = .ok (.invokestatic 116, 3) := by decide +kernel
theorem dX2_roundsByTrying_56 : decode cX2_roundsByTrying 56 = .ok (.ireturn, 1) := by decide +kernel
set_option maxRecDepth 20000 in
theorem ggX2_wouldBring_X3_counterpart : GoodIn wsX2_wouldBring wsX3_counterpart := goodIn_r _ [3, 4, 5, 2, 6, 7, 8, 9, 10] (by decide +kernel) (by decide +kernel)
set_option maxRecDepth 20000 in
theorem gX2_wouldBring_X3_counterpart_n75 : GoodIn wsX2_wouldBring (wsX3_counterpart) := ggX2_wouldBring_X3_counterpart
set_option maxRecDepth 20000 in
theorem ggX2_wouldBring_X2_pairWouldBring : GoodIn wsX2_wouldBring wsX2_pairWouldBring := goodIn_r _ [15, 16, 17, 18, 19, 20, 14, 21, 22, 23, 24, 25, 26, 27, 28, 29, 30, 31, 32, 33, 34, 35, 36, 37, 38, 39, 40, 2, 41, 42, 43, 44, 45, 46, 47, 48, 49, 50, 51, 52, 53, 54] (by decide +kernel) (by decide +kernel)
set_option maxRecDepth 20000 in
theorem gX2_wouldBring_X2_pairWouldBring : GoodIn wsX2_wouldBring (wsV RX2 121 RX2 yX2_pairWouldBring wsX2_pairWouldBring) := goodIn_app (goodIn_of _ (by decide +kernel)) ggX2_wouldBring_X2_pairWouldBring
theorem dX2_wouldBring_0 : decode cX2_wouldBring 0 = .ok (.iconst 0, 1) := by decide +kernel
theorem dX2_wouldBring_1 : decode cX2_wouldBring 1 = .ok (.istore_n 3, 1) := by decide +kernel
theorem dX2_wouldBring_2 : decode cX2_wouldBring 2 = .ok (.iconst 0, 1) := by decide +kernel
theorem dX2_wouldBring_3 : decode cX2_wouldBring 3 = .ok (.istore 4, 2) := by decide +kernel
theorem dX2_wouldBring_5 : decode cX2_wouldBring 5 = .ok (.iload 4, 2) := by decide +kernel
theorem dX2_wouldBring_7 : decode cX2_wouldBring 7 = .ok (.bipush 9, 2) := by decide +kernel
theorem dX2_wouldBring_9 : decode cX2_wouldBring 9 = .ok (.if_icmp .ge 36, 3) := by decide +kernel
theorem dX2_wouldBring_12 : decode cX2_wouldBring 12 = .ok (.iload 4, 2) := by decide +kernel
theorem dX2_wouldBring_14 : decode cX2_wouldBring 14 = .ok (.iload_n 1, 1) := by decide +kernel
theorem dX2_wouldBring_15 : decode cX2_wouldBring 15 = .ok (.invokestatic 75, 3) := by decide +kernel
theorem dX2_wouldBring_18 : decode cX2_wouldBring 18 = .ok (.istore 5, 2) := by decide +kernel
theorem dX2_wouldBring_20 : decode cX2_wouldBring 20 = .ok (.iload 4, 2) := by decide +kernel
theorem dX2_wouldBring_22 : decode cX2_wouldBring 22 = .ok (.iload 5, 2) := by decide +kernel
theorem dX2_wouldBring_24 : decode cX2_wouldBring 24 = .ok (.if_icmp .ge 15, 3) := by decide +kernel
theorem dX2_wouldBring_27 : decode cX2_wouldBring 27 = .ok (.iload_n 3, 1) := by decide +kernel
theorem dX2_wouldBring_28 : decode cX2_wouldBring 28 = .ok (.aload_n 0, 1) := by decide +kernel
theorem dX2_wouldBring_29 : decode cX2_wouldBring 29 = .ok (.iload 4, 2) := by decide +kernel
theorem dX2_wouldBring_31 : decode cX2_wouldBring 31 = .ok (.iload 5, 2) := by decide +kernel
theorem dX2_wouldBring_33 : decode cX2_wouldBring 33 = .ok (.iload_n 2, 1) := by decide +kernel
theorem dX2_wouldBring_34 : decode cX2_wouldBring 34 = .ok (.invokevirtual 121, 3) := by decide +kernel
theorem dX2_wouldBring_37 : decode cX2_wouldBring 37 = .ok (.iadd, 1) := by decide +kernel
theorem dX2_wouldBring_38 : decode cX2_wouldBring 38 = .ok (.istore_n 3, 1) := by decide +kernel
theorem dX2_wouldBring_39 : decode cX2_wouldBring 39 = .ok (.iinc 4 1, 3) := by decide +kernel
theorem dX2_wouldBring_42 : decode cX2_wouldBring 42 = .ok (.goto (-37), 3) := by decide +kernel
theorem dX2_wouldBring_45 : decode cX2_wouldBring 45 = .ok (.iload_n 3, 1) := by decide +kernel
theorem dX2_wouldBring_46 : decode cX2_wouldBring 46 = .ok (.ireturn, 1) := by decide +kernel
set_option maxRecDepth 20000 in
theorem ggX2_pairWouldBring_X2_wouldDance : GoodIn wsX2_pairWouldBring wsX2_wouldDance := goodIn_r _ [7, 8, 9, 10, 11, 12, 6, 13, 1, 29, 30, 31, 32, 33, 34, 35, 36, 37, 38, 39, 40, 41] (by decide +kernel) (by decide +kernel)
set_option maxRecDepth 20000 in
theorem gX2_pairWouldBring_X2_wouldDance : GoodIn wsX2_pairWouldBring (wsV RX2 82 RX2 yX2_wouldDance wsX2_wouldDance) := goodIn_app (goodIn_of _ (by decide +kernel)) ggX2_pairWouldBring_X2_wouldDance
set_option maxRecDepth 20000 in
theorem ggX2_pairWouldBring_J6_bitCount_0f7a4 : GoodIn wsX2_pairWouldBring wsJ6_bitCount_0f7a4 := goodIn_r _ [17, 18, 19, 20] (by decide +kernel) (by decide +kernel)
set_option maxRecDepth 20000 in
theorem gX2_pairWouldBring_J6_bitCount_0f7a4 : GoodIn wsX2_pairWouldBring (va_wsS RX2 116 yJ6_bitCount_0f7a4 wsJ6_bitCount_0f7a4) := goodIn_app (goodIn_of _ (by decide +kernel)) ggX2_pairWouldBring_J6_bitCount_0f7a4
set_option maxRecDepth 20000 in
theorem ggX2_pairWouldBring_X2_joyOfEach : GoodIn wsX2_pairWouldBring wsX2_joyOfEach := goodIn_r _ [24, 9, 25, 26, 27, 28, 29, 30, 31, 32, 33, 34, 35, 36, 37, 38, 39, 40, 41] (by decide +kernel) (by decide +kernel)
set_option maxRecDepth 20000 in
theorem gX2_pairWouldBring_X2_joyOfEach : GoodIn wsX2_pairWouldBring (wsV RX2 101 RX2 yX2_joyOfEach wsX2_joyOfEach) := goodIn_app (goodIn_of _ (by decide +kernel)) ggX2_pairWouldBring_X2_joyOfEach
set_option maxRecDepth 20000 in
theorem ggX2_pairWouldBring_X3_pairIndex : GoodIn wsX2_pairWouldBring wsX3_pairIndex := goodIn_r _ [28] (by decide +kernel) (by decide +kernel)
set_option maxRecDepth 20000 in
theorem gX2_pairWouldBring_X3_pairIndex_n107 : GoodIn wsX2_pairWouldBring (wsX3_pairIndex) := ggX2_pairWouldBring_X3_pairIndex
theorem dX2_pairWouldBring_0 : decode cX2_pairWouldBring 0 = .ok (.aload_n 0, 1) := by decide +kernel
theorem dX2_pairWouldBring_1 : decode cX2_pairWouldBring 1 = .ok (.iload_n 1, 1) := by decide +kernel
theorem dX2_pairWouldBring_2 : decode cX2_pairWouldBring 2 = .ok (.iload_n 2, 1) := by decide +kernel
theorem dX2_pairWouldBring_3 : decode cX2_pairWouldBring 3 = .ok (.invokevirtual 82, 3) := by decide +kernel
theorem dX2_pairWouldBring_6 : decode cX2_pairWouldBring 6 = .ok (.istore 4, 2) := by decide +kernel
theorem dX2_pairWouldBring_8 : decode cX2_pairWouldBring 8 = .ok (.iload_n 3, 1) := by decide +kernel
theorem dX2_pairWouldBring_9 : decode cX2_pairWouldBring 9 = .ok (.iconst 2, 1) := by decide +kernel
theorem dX2_pairWouldBring_10 : decode cX2_pairWouldBring 10 = .ok (.if_icmp .ne 28, 3) := by decide +kernel
theorem dX2_pairWouldBring_13 : decode cX2_pairWouldBring 13 = .ok (.iload 4, 2) := by decide +kernel
theorem dX2_pairWouldBring_15 : decode cX2_pairWouldBring 15 = .ok (.ifCond .eq 7, 3) := by decide +kernel
theorem dX2_pairWouldBring_18 : decode cX2_pairWouldBring 18 = .ok (.iconst 0, 1) := by decide +kernel
theorem dX2_pairWouldBring_19 : decode cX2_pairWouldBring 19 = .ok (.goto 18, 3) := by decide +kernel
theorem dX2_pairWouldBring_22 : decode cX2_pairWouldBring 22 = .ok (.aload_n 0, 1) := by decide +kernel
theorem dX2_pairWouldBring_23 : decode cX2_pairWouldBring 23 = .ok (.getfield 15, 3) := by decide +kernel
theorem dX2_pairWouldBring_26 : decode cX2_pairWouldBring 26 = .ok (.iconst 1, 1) := by decide +kernel
theorem dX2_pairWouldBring_27 : decode cX2_pairWouldBring 27 = .ok (.iload_n 1, 1) := by decide +kernel
theorem dX2_pairWouldBring_28 : decode cX2_pairWouldBring 28 = .ok (.ishl, 1) := by decide +kernel
theorem dX2_pairWouldBring_29 : decode cX2_pairWouldBring 29 = .ok (.iconst 1, 1) := by decide +kernel
theorem dX2_pairWouldBring_30 : decode cX2_pairWouldBring 30 = .ok (.iload_n 2, 1) := by decide +kernel
theorem dX2_pairWouldBring_31 : decode cX2_pairWouldBring 31 = .ok (.ishl, 1) := by decide +kernel
theorem dX2_pairWouldBring_32 : decode cX2_pairWouldBring 32 = .ok (.ior, 1) := by decide +kernel
theorem dX2_pairWouldBring_33 : decode cX2_pairWouldBring 33 = .ok (.iand, 1) := by decide +kernel
theorem dX2_pairWouldBring_34 : decode cX2_pairWouldBring 34 = .ok (.invokestatic 116, 3) := by decide +kernel
theorem dX2_pairWouldBring_37 : decode cX2_pairWouldBring 37 = .ok (.ireturn, 1) := by decide +kernel
theorem dX2_pairWouldBring_38 : decode cX2_pairWouldBring 38 = .ok (.iload 4, 2) := by decide +kernel
theorem dX2_pairWouldBring_40 : decode cX2_pairWouldBring 40 = .ok (.ifCond .ne 5, 3) := by decide +kernel
theorem dX2_pairWouldBring_43 : decode cX2_pairWouldBring 43 = .ok (.iconst 0, 1) := by decide +kernel
theorem dX2_pairWouldBring_44 : decode cX2_pairWouldBring 44 = .ok (.ireturn, 1) := by decide +kernel
theorem dX2_pairWouldBring_45 : decode cX2_pairWouldBring 45 = .ok (.iload_n 3, 1) := by decide +kernel
theorem dX2_pairWouldBring_46 : decode cX2_pairWouldBring 46 = .ok (.iconst 1, 1) := by decide +kernel
theorem dX2_pairWouldBring_47 : decode cX2_pairWouldBring 47 = .ok (.if_icmp .ne 12, 3) := by decide +kernel
theorem dX2_pairWouldBring_50 : decode cX2_pairWouldBring 50 = .ok (.iconst 2, 1) := by decide +kernel
theorem dX2_pairWouldBring_51 : decode cX2_pairWouldBring 51 = .ok (.aload_n 0, 1) := by decide +kernel
theorem dX2_pairWouldBring_52 : decode cX2_pairWouldBring 52 = .ok (.iload_n 1, 1) := by decide +kernel
theorem dX2_pairWouldBring_53 : decode cX2_pairWouldBring 53 = .ok (.iload_n 2, 1) := by decide +kernel
theorem dX2_pairWouldBring_54 : decode cX2_pairWouldBring 54 = .ok (.invokevirtual 101, 3) := by decide +kernel
theorem dX2_pairWouldBring_57 : decode cX2_pairWouldBring 57 = .ok (.imul, 1) := by decide +kernel
theorem dX2_pairWouldBring_58 : decode cX2_pairWouldBring 58 = .ok (.ireturn, 1) := by decide +kernel
theorem dX2_pairWouldBring_59 : decode cX2_pairWouldBring 59 = .ok (.iload_n 3, 1) := by decide +kernel
theorem dX2_pairWouldBring_60 : decode cX2_pairWouldBring 60 = .ok (.iconst 3, 1) := by decide +kernel
theorem dX2_pairWouldBring_61 : decode cX2_pairWouldBring 61 = .ok (.if_icmp .ne 22, 3) := by decide +kernel
theorem dX2_pairWouldBring_64 : decode cX2_pairWouldBring 64 = .ok (.aload_n 0, 1) := by decide +kernel
theorem dX2_pairWouldBring_65 : decode cX2_pairWouldBring 65 = .ok (.getfield 37, 3) := by decide +kernel
theorem dX2_pairWouldBring_68 : decode cX2_pairWouldBring 68 = .ok (.iload_n 1, 1) := by decide +kernel
theorem dX2_pairWouldBring_69 : decode cX2_pairWouldBring 69 = .ok (.iload_n 2, 1) := by decide +kernel
theorem dX2_pairWouldBring_70 : decode cX2_pairWouldBring 70 = .ok (.invokestatic 107, 3) := by decide +kernel
theorem dX2_pairWouldBring_73 : decode cX2_pairWouldBring 73 = .ok (.iaload, 1) := by decide +kernel
theorem dX2_pairWouldBring_74 : decode cX2_pairWouldBring 74 = .ok (.ifCond .ne 7, 3) := by decide +kernel
theorem dX2_pairWouldBring_77 : decode cX2_pairWouldBring 77 = .ok (.iconst 1, 1) := by decide +kernel
theorem dX2_pairWouldBring_78 : decode cX2_pairWouldBring 78 = .ok (.goto 4, 3) := by decide +kernel
theorem dX2_pairWouldBring_81 : decode cX2_pairWouldBring 81 = .ok (.iconst 0, 1) := by decide +kernel
theorem dX2_pairWouldBring_82 : decode cX2_pairWouldBring 82 = .ok (.ireturn, 1) := by decide +kernel
theorem dX2_pairWouldBring_83 : decode cX2_pairWouldBring 83 = .ok (.iconst 1, 1) := by decide +kernel
theorem dX2_pairWouldBring_84 : decode cX2_pairWouldBring 84 = .ok (.ireturn, 1) := by decide +kernel
set_option maxRecDepth 20000 in
theorem ggX3_init_X2_init : GoodIn wsX3_init wsX2_init := goodIn_r _ [20, 21, 2, 3, 22, 23, 24, 25, 26, 27, 28, 29, 30, 31, 32, 33, 34, 35, 36, 37, 38, 39, 40, 55, 56, 57, 58, 59, 60, 61, 62, 63, 64, 65, 66, 67] (by decide +kernel) (by decide +kernel)
set_option maxRecDepth 20000 in
theorem gX3_init_X2_init : GoodIn wsX3_init (wsX2_init) := ggX3_init_X2_init
set_option maxRecDepth 20000 in
theorem ggX3_init_X1_init : GoodIn wsX3_init wsX1_init := goodIn_r _ [42, 43, 2, 3, 44, 45, 46, 73, 74] (by decide +kernel) (by decide +kernel)
set_option maxRecDepth 20000 in
theorem gX3_init_X1_init_n21 : GoodIn wsX3_init (wsX1_init) := ggX3_init_X1_init
set_option maxRecDepth 20000 in
theorem ggX3_init_X0_init : GoodIn wsX3_init wsX0_init := goodIn_r _ [49, 50, 2, 3, 51, 52, 53, 5, 6, 54, 19, 20, 21, 22, 23, 24, 25, 26, 27, 28, 29, 30, 31, 32, 33, 34, 35, 36, 37, 38, 39, 40, 75, 76, 55, 56, 57, 58, 59, 60, 61, 62, 63, 64, 65, 66, 67] (by decide +kernel) (by decide +kernel)
set_option maxRecDepth 20000 in
theorem gX3_init_X0_init : GoodIn wsX3_init (wsX0_init) := ggX3_init_X0_init
theorem dX3_init_0 : decode cX3_init 0 = .ok (.aload_n 0, 1) := by decide +kernel
theorem dX3_init_1 : decode cX3_init 1 = .ok (.invokespecial 3, 3) := by decide +kernel
theorem dX3_init_4 : decode cX3_init 4 = .ok (.aload_n 0, 1) := by decide +kernel
theorem dX3_init_5 : decode cX3_init 5 = .ok (.new 9, 3) := by decide +kernel
theorem dX3_init_8 : decode cX3_init 8 = .ok (.dup, 1) := by decide +kernel
theorem dX3_init_9 : decode cX3_init 9 = .ok (.invokespecial 11, 3) := by decide +kernel
theorem dX3_init_12 : decode cX3_init 12 = .ok (.putfield 12, 3) := by decide +kernel
theorem dX3_init_15 : decode cX3_init 15 = .ok (.aload_n 0, 1) := by decide +kernel
theorem dX3_init_16 : decode cX3_init 16 = .ok (.new 9, 3) := by decide +kernel
theorem dX3_init_19 : decode cX3_init 19 = .ok (.dup, 1) := by decide +kernel
theorem dX3_init_20 : decode cX3_init 20 = .ok (.invokespecial 11, 3) := by decide +kernel
theorem dX3_init_23 : decode cX3_init 23 = .ok (.putfield 16, 3) := by decide +kernel
theorem dX3_init_26 : decode cX3_init 26 = .ok (.aload_n 0, 1) := by decide +kernel
theorem dX3_init_27 : decode cX3_init 27 = .ok (.new 19, 3) := by decide +kernel
theorem dX3_init_30 : decode cX3_init 30 = .ok (.dup, 1) := by decide +kernel
theorem dX3_init_31 : decode cX3_init 31 = .ok (.invokespecial 21, 3) := by decide +kernel
theorem dX3_init_34 : decode cX3_init 34 = .ok (.putfield 22, 3) := by decide +kernel
theorem dX3_init_37 : decode cX3_init 37 = .ok (.aload_n 0, 1) := by decide +kernel
theorem dX3_init_38 : decode cX3_init 38 = .ok (.new 26, 3) := by decide +kernel
theorem dX3_init_41 : decode cX3_init 41 = .ok (.dup, 1) := by decide +kernel
theorem dX3_init_42 : decode cX3_init 42 = .ok (.invokespecial 28, 3) := by decide +kernel
theorem dX3_init_45 : decode cX3_init 45 = .ok (.putfield 29, 3) := by decide +kernel
theorem dX3_init_48 : decode cX3_init 48 = .ok (.aload_n 0, 1) := by decide +kernel
theorem dX3_init_49 : decode cX3_init 49 = .ok (.iconst 2, 1) := by decide +kernel
theorem dX3_init_50 : decode cX3_init 50 = .ok (.anewarray 9, 3) := by decide +kernel
theorem dX3_init_53 : decode cX3_init 53 = .ok (.putfield 33, 3) := by decide +kernel
theorem dX3_init_56 : decode cX3_init 56 = .ok (.return_, 1) := by decide +kernel
set_option maxRecDepth 20000 in
theorem ggX3_set_X0_remember : GoodIn wsX3_set wsX0_remember := goodIn_r _ [9, 10, 11, 12, 13, 14, 8, 15, 16, 17, 18, 19, 20, 21, 22, 23, 24, 25, 26, 27, 28, 29, 30, 31, 32, 33, 34, 35, 36, 37, 38, 39, 40, 41, 42, 43, 44, 63, 64, 50, 51, 52, 53, 54, 55, 56, 57, 58, 59, 60, 61, 62] (by decide +kernel) (by decide +kernel)
set_option maxRecDepth 20000 in
theorem gX3_set_X0_remember : GoodIn wsX3_set (wsV RX3 38 RX0 yX0_remember wsX0_remember) := goodIn_app (goodIn_of _ (by decide +kernel)) ggX3_set_X0_remember
theorem dX3_set_0 : decode cX3_set 0 = .ok (.iload_n 1, 1) := by decide +kernel
theorem dX3_set_1 : decode cX3_set 1 = .ok (.ifCond .lt 8, 3) := by decide +kernel
theorem dX3_set_4 : decode cX3_set 4 = .ok (.iload_n 1, 1) := by decide +kernel
theorem dX3_set_5 : decode cX3_set 5 = .ok (.iconst 3, 1) := by decide +kernel
theorem dX3_set_6 : decode cX3_set 6 = .ok (.if_icmp .lt 6, 3) := by decide +kernel
theorem dX3_set_9 : decode cX3_set 9 = .ok (.ldc 37, 2) := by decide +kernel
theorem dX3_set_11 : decode cX3_set 11 = .ok (.ireturn, 1) := by decide +kernel
theorem dX3_set_12 : decode cX3_set 12 = .ok (.iload_n 1, 1) := by decide +kernel
theorem dX3_set_13 : decode cX3_set 13 = .ok (.iconst 2, 1) := by decide +kernel
theorem dX3_set_14 : decode cX3_set 14 = .ok (.if_icmp .ne 8, 3) := by decide +kernel
theorem dX3_set_17 : decode cX3_set 17 = .ok (.bipush (-9), 2) := by decide +kernel
theorem dX3_set_19 : decode cX3_set 19 = .ok (.goto 4, 3) := by decide +kernel
theorem dX3_set_22 : decode cX3_set 22 = .ok (.iconst 0, 1) := by decide +kernel
theorem dX3_set_23 : decode cX3_set 23 = .ok (.istore_n 3, 1) := by decide +kernel
theorem dX3_set_24 : decode cX3_set 24 = .ok (.iload_n 2, 1) := by decide +kernel
theorem dX3_set_25 : decode cX3_set 25 = .ok (.iload_n 3, 1) := by decide +kernel
theorem dX3_set_26 : decode cX3_set 26 = .ok (.if_icmp .lt 9, 3) := by decide +kernel
theorem dX3_set_29 : decode cX3_set 29 = .ok (.iload_n 2, 1) := by decide +kernel
theorem dX3_set_30 : decode cX3_set 30 = .ok (.bipush 9, 2) := by decide +kernel
theorem dX3_set_32 : decode cX3_set 32 = .ok (.if_icmp .le 6, 3) := by decide +kernel
theorem dX3_set_35 : decode cX3_set 35 = .ok (.ldc 37, 2) := by decide +kernel
theorem dX3_set_37 : decode cX3_set 37 = .ok (.ireturn, 1) := by decide +kernel
theorem dX3_set_38 : decode cX3_set 38 = .ok (.aload_n 0, 1) := by decide +kernel
theorem dX3_set_39 : decode cX3_set 39 = .ok (.getfield 29, 3) := by decide +kernel
theorem dX3_set_42 : decode cX3_set 42 = .ok (.aload_n 0, 1) := by decide +kernel
theorem dX3_set_43 : decode cX3_set 43 = .ok (.getfield 12, 3) := by decide +kernel
theorem dX3_set_46 : decode cX3_set 46 = .ok (.invokevirtual 38, 3) := by decide +kernel
theorem dX3_set_49 : decode cX3_set 49 = .ok (.aload_n 0, 1) := by decide +kernel
theorem dX3_set_50 : decode cX3_set 50 = .ok (.getfield 12, 3) := by decide +kernel
theorem dX3_set_53 : decode cX3_set 53 = .ok (.getfield 42, 3) := by decide +kernel
theorem dX3_set_56 : decode cX3_set 56 = .ok (.iload_n 1, 1) := by decide +kernel
theorem dX3_set_57 : decode cX3_set 57 = .ok (.iaload, 1) := by decide +kernel
theorem dX3_set_58 : decode cX3_set 58 = .ok (.istore 4, 2) := by decide +kernel
theorem dX3_set_60 : decode cX3_set 60 = .ok (.aload_n 0, 1) := by decide +kernel
theorem dX3_set_61 : decode cX3_set 61 = .ok (.getfield 12, 3) := by decide +kernel
theorem dX3_set_64 : decode cX3_set 64 = .ok (.getfield 42, 3) := by decide +kernel
theorem dX3_set_67 : decode cX3_set 67 = .ok (.iload_n 1, 1) := by decide +kernel
theorem dX3_set_68 : decode cX3_set 68 = .ok (.iload_n 2, 1) := by decide +kernel
theorem dX3_set_69 : decode cX3_set 69 = .ok (.iastore, 1) := by decide +kernel
theorem dX3_set_70 : decode cX3_set 70 = .ok (.iload 4, 2) := by decide +kernel
theorem dX3_set_72 : decode cX3_set 72 = .ok (.ireturn, 1) := by decide +kernel
set_option maxRecDepth 20000 in
theorem ggX3_like_X3_isVillager : GoodIn wsX3_like wsX3_isVillager := goodIn_r _ [9] (by decide +kernel) (by decide +kernel)
set_option maxRecDepth 20000 in
theorem gX3_like_X3_isVillager : GoodIn wsX3_like (va_wsS RX3 46 yX3_isVillager wsX3_isVillager) := goodIn_app (goodIn_of _ (by decide +kernel)) ggX3_like_X3_isVillager
set_option maxRecDepth 20000 in
theorem ggX3_like_X0_remember : GoodIn wsX3_like wsX0_remember := goodIn_r _ [14, 15, 16, 17, 18, 19, 13, 20, 21, 22, 23, 24, 25, 26, 27, 28, 29, 30, 31, 32, 33, 34, 35, 36, 37, 38, 39, 40, 41, 42, 43, 44, 45, 46, 47, 48, 49, 71, 72, 58, 59, 60, 61, 62, 63, 64, 65, 66, 67, 68, 69, 70] (by decide +kernel) (by decide +kernel)
set_option maxRecDepth 20000 in
theorem gX3_like_X0_remember : GoodIn wsX3_like (wsV RX3 38 RX0 yX0_remember wsX0_remember) := goodIn_app (goodIn_of _ (by decide +kernel)) ggX3_like_X0_remember
set_option maxRecDepth 20000 in
theorem ggX3_like_X3_pairIndex : GoodIn wsX3_like wsX3_pairIndex := goodIn_r _ [52] (by decide +kernel) (by decide +kernel)
set_option maxRecDepth 20000 in
theorem gX3_like_X3_pairIndex : GoodIn wsX3_like (va_wsS RX3 51 yX3_pairIndex wsX3_pairIndex) := goodIn_app (goodIn_of _ (by decide +kernel)) ggX3_like_X3_pairIndex
theorem dX3_like_0 : decode cX3_like 0 = .ok (.iload_n 1, 1) := by decide +kernel
theorem dX3_like_1 : decode cX3_like 1 = .ok (.invokestatic 46, 3) := by decide +kernel
theorem dX3_like_4 : decode cX3_like 4 = .ok (.ifCond .eq 10, 3) := by decide +kernel
theorem dX3_like_7 : decode cX3_like 7 = .ok (.iload_n 2, 1) := by decide +kernel
theorem dX3_like_8 : decode cX3_like 8 = .ok (.invokestatic 46, 3) := by decide +kernel
theorem dX3_like_11 : decode cX3_like 11 = .ok (.ifCond .ne 6, 3) := by decide +kernel
theorem dX3_like_14 : decode cX3_like 14 = .ok (.ldc 50, 2) := by decide +kernel
theorem dX3_like_16 : decode cX3_like 16 = .ok (.ireturn, 1) := by decide +kernel
theorem dX3_like_17 : decode cX3_like 17 = .ok (.iload_n 1, 1) := by decide +kernel
theorem dX3_like_18 : decode cX3_like 18 = .ok (.iload_n 2, 1) := by decide +kernel
theorem dX3_like_19 : decode cX3_like 19 = .ok (.if_icmp .eq 15, 3) := by decide +kernel
theorem dX3_like_22 : decode cX3_like 22 = .ok (.iload_n 3, 1) := by decide +kernel
theorem dX3_like_23 : decode cX3_like 23 = .ok (.bipush (-9), 2) := by decide +kernel
theorem dX3_like_25 : decode cX3_like 25 = .ok (.if_icmp .lt 9, 3) := by decide +kernel
theorem dX3_like_28 : decode cX3_like 28 = .ok (.iload_n 3, 1) := by decide +kernel
theorem dX3_like_29 : decode cX3_like 29 = .ok (.bipush 9, 2) := by decide +kernel
theorem dX3_like_31 : decode cX3_like 31 = .ok (.if_icmp .le 6, 3) := by decide +kernel
theorem dX3_like_34 : decode cX3_like 34 = .ok (.ldc 37, 2) := by decide +kernel
theorem dX3_like_36 : decode cX3_like 36 = .ok (.ireturn, 1) := by decide +kernel
theorem dX3_like_37 : decode cX3_like 37 = .ok (.aload_n 0, 1) := by decide +kernel
theorem dX3_like_38 : decode cX3_like 38 = .ok (.getfield 29, 3) := by decide +kernel
theorem dX3_like_41 : decode cX3_like 41 = .ok (.aload_n 0, 1) := by decide +kernel
theorem dX3_like_42 : decode cX3_like 42 = .ok (.getfield 12, 3) := by decide +kernel
theorem dX3_like_45 : decode cX3_like 45 = .ok (.invokevirtual 38, 3) := by decide +kernel
theorem dX3_like_48 : decode cX3_like 48 = .ok (.iload_n 1, 1) := by decide +kernel
theorem dX3_like_49 : decode cX3_like 49 = .ok (.iload_n 2, 1) := by decide +kernel
theorem dX3_like_50 : decode cX3_like 50 = .ok (.invokestatic 51, 3) := by decide +kernel
theorem dX3_like_53 : decode cX3_like 53 = .ok (.istore 4, 2) := by decide +kernel
theorem dX3_like_55 : decode cX3_like 55 = .ok (.aload_n 0, 1) := by decide +kernel
theorem dX3_like_56 : decode cX3_like 56 = .ok (.getfield 12, 3) := by decide +kernel
theorem dX3_like_59 : decode cX3_like 59 = .ok (.getfield 55, 3) := by decide +kernel
theorem dX3_like_62 : decode cX3_like 62 = .ok (.iload 4, 2) := by decide +kernel
theorem dX3_like_64 : decode cX3_like 64 = .ok (.iaload, 1) := by decide +kernel
theorem dX3_like_65 : decode cX3_like 65 = .ok (.istore 5, 2) := by decide +kernel
theorem dX3_like_67 : decode cX3_like 67 = .ok (.aload_n 0, 1) := by decide +kernel
theorem dX3_like_68 : decode cX3_like 68 = .ok (.getfield 12, 3) := by decide +kernel
theorem dX3_like_71 : decode cX3_like 71 = .ok (.getfield 55, 3) := by decide +kernel
theorem dX3_like_74 : decode cX3_like 74 = .ok (.iload 4, 2) := by decide +kernel
theorem dX3_like_76 : decode cX3_like 76 = .ok (.iload_n 3, 1) := by decide +kernel
theorem dX3_like_77 : decode cX3_like 77 = .ok (.iastore, 1) := by decide +kernel
theorem dX3_like_78 : decode cX3_like 78 = .ok (.iload 5, 2) := by decide +kernel
theorem dX3_like_80 : decode cX3_like 80 = .ok (.ireturn, 1) := by decide +kernel
set_option maxRecDepth 20000 in
theorem ggX3_away_X3_isVillager : GoodIn wsX3_away wsX3_isVillager := goodIn_r _ [9] (by decide +kernel) (by decide +kernel)
set_option maxRecDepth 20000 in
theorem gX3_away_X3_isVillager : GoodIn wsX3_away (va_wsS RX3 46 yX3_isVillager wsX3_isVillager) := goodIn_app (goodIn_of _ (by decide +kernel)) ggX3_away_X3_isVillager
set_option maxRecDepth 20000 in
theorem ggX3_away_X2_isThere : GoodIn wsX3_away wsX2_isThere := goodIn_r _ [14, 15, 66, 67, 68, 69, 70, 71, 72, 73, 74, 75, 76, 77, 78] (by decide +kernel) (by decide +kernel)
set_option maxRecDepth 20000 in
theorem gX3_away_X2_isThere : GoodIn wsX3_away (wsV RX3 58 RX2 yX2_isThere wsX2_isThere) := goodIn_app (goodIn_of _ (by decide +kernel)) ggX3_away_X2_isThere
set_option maxRecDepth 20000 in
theorem ggX3_away_X0_remember : GoodIn wsX3_away wsX0_remember := goodIn_r _ [20, 21, 22, 23, 24, 25, 19, 26, 27, 28, 29, 13, 30, 31, 15, 32, 33, 34, 35, 36, 37, 38, 39, 40, 41, 42, 43, 44, 45, 46, 47, 48, 49, 50, 51, 52, 53, 79, 80, 66, 67, 68, 69, 70, 71, 72, 73, 74, 75, 76, 77, 78] (by decide +kernel) (by decide +kernel)
set_option maxRecDepth 20000 in
theorem gX3_away_X0_remember : GoodIn wsX3_away (wsV RX3 38 RX0 yX0_remember wsX0_remember) := goodIn_app (goodIn_of _ (by decide +kernel)) ggX3_away_X0_remember
set_option maxRecDepth 20000 in
theorem ggX3_away_J6_bitCount_0f7a4 : GoodIn wsX3_away wsJ6_bitCount_0f7a4 := goodIn_r _ [57, 58, 59, 60] (by decide +kernel) (by decide +kernel)
set_option maxRecDepth 20000 in
theorem gX3_away_J6_bitCount_0f7a4 : GoodIn wsX3_away (va_wsS RX3 66 yJ6_bitCount_0f7a4 wsJ6_bitCount_0f7a4) := goodIn_app (goodIn_of _ (by decide +kernel)) ggX3_away_J6_bitCount_0f7a4
theorem dX3_away_0 : decode cX3_away 0 = .ok (.iload_n 1, 1) := by decide +kernel
theorem dX3_away_1 : decode cX3_away 1 = .ok (.invokestatic 46, 3) := by decide +kernel
theorem dX3_away_4 : decode cX3_away 4 = .ok (.ifCond .ne 6, 3) := by decide +kernel
theorem dX3_away_7 : decode cX3_away 7 = .ok (.ldc 50, 2) := by decide +kernel
theorem dX3_away_9 : decode cX3_away 9 = .ok (.ireturn, 1) := by decide +kernel
theorem dX3_away_10 : decode cX3_away 10 = .ok (.aload_n 0, 1) := by decide +kernel
theorem dX3_away_11 : decode cX3_away 11 = .ok (.getfield 12, 3) := by decide +kernel
theorem dX3_away_14 : decode cX3_away 14 = .ok (.iload_n 1, 1) := by decide +kernel
theorem dX3_away_15 : decode cX3_away 15 = .ok (.invokevirtual 58, 3) := by decide +kernel
theorem dX3_away_18 : decode cX3_away 18 = .ok (.iload_n 2, 1) := by decide +kernel
theorem dX3_away_19 : decode cX3_away 19 = .ok (.if_icmp .eq 6, 3) := by decide +kernel
theorem dX3_away_22 : decode cX3_away 22 = .ok (.ldc 61, 2) := by decide +kernel
theorem dX3_away_24 : decode cX3_away 24 = .ok (.ireturn, 1) := by decide +kernel
theorem dX3_away_25 : decode cX3_away 25 = .ok (.aload_n 0, 1) := by decide +kernel
theorem dX3_away_26 : decode cX3_away 26 = .ok (.getfield 29, 3) := by decide +kernel
theorem dX3_away_29 : decode cX3_away 29 = .ok (.aload_n 0, 1) := by decide +kernel
theorem dX3_away_30 : decode cX3_away 30 = .ok (.getfield 12, 3) := by decide +kernel
theorem dX3_away_33 : decode cX3_away 33 = .ok (.invokevirtual 38, 3) := by decide +kernel
theorem dX3_away_36 : decode cX3_away 36 = .ok (.aload_n 0, 1) := by decide +kernel
theorem dX3_away_37 : decode cX3_away 37 = .ok (.getfield 12, 3) := by decide +kernel
theorem dX3_away_40 : decode cX3_away 40 = .ok (.dup, 1) := by decide +kernel
theorem dX3_away_41 : decode cX3_away 41 = .ok (.getfield 62, 3) := by decide +kernel
theorem dX3_away_44 : decode cX3_away 44 = .ok (.iconst 1, 1) := by decide +kernel
theorem dX3_away_45 : decode cX3_away 45 = .ok (.iload_n 1, 1) := by decide +kernel
theorem dX3_away_46 : decode cX3_away 46 = .ok (.ishl, 1) := by decide +kernel
theorem dX3_away_47 : decode cX3_away 47 = .ok (.ixor, 1) := by decide +kernel
theorem dX3_away_48 : decode cX3_away 48 = .ok (.putfield 62, 3) := by decide +kernel
theorem dX3_away_51 : decode cX3_away 51 = .ok (.aload_n 0, 1) := by decide +kernel
theorem dX3_away_52 : decode cX3_away 52 = .ok (.getfield 12, 3) := by decide +kernel
theorem dX3_away_55 : decode cX3_away 55 = .ok (.getfield 62, 3) := by decide +kernel
theorem dX3_away_58 : decode cX3_away 58 = .ok (.invokestatic 66, 3) := by decide +kernel
theorem dX3_away_61 : decode cX3_away 61 = .ok (.ireturn, 1) := by decide +kernel
set_option maxRecDepth 20000 in
theorem ggX3_call_X3_isNumber : GoodIn wsX3_call wsX3_isNumber := goodIn_r _ [9] (by decide +kernel) (by decide +kernel)
set_option maxRecDepth 20000 in
theorem gX3_call_X3_isNumber : GoodIn wsX3_call (va_wsS RX3 72 yX3_isNumber wsX3_isNumber) := goodIn_app (goodIn_of _ (by decide +kernel)) ggX3_call_X3_isNumber
set_option maxRecDepth 20000 in
theorem ggX3_call_X0_remember : GoodIn wsX3_call wsX0_remember := goodIn_r _ [14, 15, 16, 17, 18, 19, 13, 20, 21, 22, 23, 24, 25, 26, 27, 28, 29, 30, 31, 32, 33, 34, 35, 36, 37, 38, 39, 40, 41, 42, 43, 44, 45, 46, 47, 48, 49, 111, 112, 98, 99, 100, 101, 102, 103, 104, 105, 106, 107, 108, 109, 110] (by decide +kernel) (by decide +kernel)
set_option maxRecDepth 20000 in
theorem gX3_call_X0_remember : GoodIn wsX3_call (wsV RX3 38 RX0 yX0_remember wsX0_remember) := goodIn_app (goodIn_of _ (by decide +kernel)) ggX3_call_X0_remember
set_option maxRecDepth 20000 in
theorem ggX3_call_X2_danceRound : GoodIn wsX3_call wsX2_danceRound := goodIn_r _ [53, 36, 38, 37, 54, 8, 55, 56, 57, 58, 59, 60, 61, 62, 63, 64, 65, 24, 66, 31, 28, 26, 42, 43, 44, 45, 67, 68, 69, 70, 27, 71, 72, 73, 74, 75, 76, 77, 78, 34, 35, 79, 80, 81, 82, 33, 83, 84, 85, 86, 87, 88, 29, 30, 89, 90, 91, 92, 32, 98, 99, 100, 101, 102, 103, 104, 105, 106, 107, 108, 109, 110] (by decide +kernel) (by decide +kernel)
set_option maxRecDepth 20000 in
theorem gX3_call_X2_danceRound : GoodIn wsX3_call (wsV RX3 79 RX2 yX2_danceRound wsX2_danceRound) := goodIn_app (goodIn_of _ (by decide +kernel)) ggX3_call_X2_danceRound
theorem dX3_call_0 : decode cX3_call 0 = .ok (.iload_n 1, 1) := by decide +kernel
theorem dX3_call_1 : decode cX3_call 1 = .ok (.invokestatic 72, 3) := by decide +kernel
theorem dX3_call_4 : decode cX3_call 4 = .ok (.ifCond .ne 6, 3) := by decide +kernel
theorem dX3_call_7 : decode cX3_call 7 = .ok (.ldc 37, 2) := by decide +kernel
theorem dX3_call_9 : decode cX3_call 9 = .ok (.ireturn, 1) := by decide +kernel
theorem dX3_call_10 : decode cX3_call 10 = .ok (.aload_n 0, 1) := by decide +kernel
theorem dX3_call_11 : decode cX3_call 11 = .ok (.getfield 12, 3) := by decide +kernel
theorem dX3_call_14 : decode cX3_call 14 = .ok (.getfield 75, 3) := by decide +kernel
theorem dX3_call_17 : decode cX3_call 17 = .ok (.sipush 9999, 3) := by decide +kernel
theorem dX3_call_20 : decode cX3_call 20 = .ok (.if_icmp .lt 6, 3) := by decide +kernel
theorem dX3_call_23 : decode cX3_call 23 = .ok (.ldc 78, 2) := by decide +kernel
theorem dX3_call_25 : decode cX3_call 25 = .ok (.ireturn, 1) := by decide +kernel
theorem dX3_call_26 : decode cX3_call 26 = .ok (.aload_n 0, 1) := by decide +kernel
theorem dX3_call_27 : decode cX3_call 27 = .ok (.getfield 29, 3) := by decide +kernel
theorem dX3_call_30 : decode cX3_call 30 = .ok (.aload_n 0, 1) := by decide +kernel
theorem dX3_call_31 : decode cX3_call 31 = .ok (.getfield 12, 3) := by decide +kernel
theorem dX3_call_34 : decode cX3_call 34 = .ok (.invokevirtual 38, 3) := by decide +kernel
theorem dX3_call_37 : decode cX3_call 37 = .ok (.aload_n 0, 1) := by decide +kernel
theorem dX3_call_38 : decode cX3_call 38 = .ok (.getfield 12, 3) := by decide +kernel
theorem dX3_call_41 : decode cX3_call 41 = .ok (.iload_n 1, 1) := by decide +kernel
theorem dX3_call_42 : decode cX3_call 42 = .ok (.invokevirtual 79, 3) := by decide +kernel
theorem dX3_call_45 : decode cX3_call 45 = .ok (.ireturn, 1) := by decide +kernel
set_option maxRecDepth 20000 in
theorem ggX3_read_X1_firstFault : GoodIn wsX3_read wsX1_firstFault := goodIn_r _ [12, 13, 14, 15, 16, 17, 11, 18, 19, 20, 21, 159, 160] (by decide +kernel) (by decide +kernel)
set_option maxRecDepth 20000 in
theorem gX3_read_X1_firstFault : GoodIn wsX3_read (wsV RX3 82 RX1 yX1_firstFault wsX1_firstFault) := goodIn_app (goodIn_of _ (by decide +kernel)) ggX3_read_X1_firstFault
set_option maxRecDepth 20000 in
theorem ggX3_read_X1_roundsInAll : GoodIn wsX3_read wsX1_roundsInAll := goodIn_r _ [25, 13, 26, 27, 28, 11, 29, 14, 30, 31, 32, 33, 34, 35, 36, 37, 159, 160] (by decide +kernel) (by decide +kernel)
set_option maxRecDepth 20000 in
theorem gX3_read_X1_roundsInAll : GoodIn wsX3_read (wsV RX3 88 RX1 yX1_roundsInAll wsX1_roundsInAll) := goodIn_app (goodIn_of _ (by decide +kernel)) ggX3_read_X1_roundsInAll
set_option maxRecDepth 20000 in
theorem ggX3_read_X0_remember : GoodIn wsX3_read wsX0_remember := goodIn_r _ [42, 43, 44, 45, 46, 47, 41, 48, 49, 50, 51, 52, 53, 54, 55, 56, 57, 58, 59, 60, 61, 62, 63, 64, 65, 66, 67, 68, 69, 70, 71, 72, 73, 74, 75, 76, 77, 161, 162, 146, 147, 148, 149, 150, 151, 152, 153, 154, 155, 156, 157, 158] (by decide +kernel) (by decide +kernel)
set_option maxRecDepth 20000 in
theorem gX3_read_X0_remember : GoodIn wsX3_read (wsV RX3 38 RX0 yX0_remember wsX0_remember) := goodIn_app (goodIn_of _ (by decide +kernel)) ggX3_read_X0_remember
set_option maxRecDepth 20000 in
theorem ggX3_read_X3_tellNumbersOfPad : GoodIn wsX3_read wsX3_tellNumbersOfPad := goodIn_r _ [82, 1, 83, 84, 27, 28, 11, 29, 14, 85, 86, 87, 88, 13, 34, 35, 36, 37, 16, 17, 18, 89, 31, 32, 33, 90, 91, 92, 81, 93, 4, 94, 95, 96, 52, 97, 64, 66, 65, 98, 99, 100, 101, 102, 103, 104, 105, 106, 107, 108, 109, 110, 59, 56, 54, 70, 71, 72, 73, 111, 112, 113, 114, 55, 115, 116, 117, 118, 119, 120, 121, 122, 62, 63, 123, 124, 125, 126, 61, 127, 128, 129, 130, 131, 132, 57, 58, 133, 134, 135, 136, 60, 141, 142, 143, 144, 145, 159, 160, 146, 147, 148, 149, 150, 151, 152, 153, 154, 155, 156, 157, 158] (by decide +kernel) (by decide +kernel)
set_option maxRecDepth 20000 in
theorem gX3_read_X3_tellNumbersOfPad : GoodIn wsX3_read (wsV RX3 91 RX3 yX3_tellNumbersOfPad wsX3_tellNumbersOfPad) := goodIn_app (goodIn_of _ (by decide +kernel)) ggX3_read_X3_tellNumbersOfPad
set_option maxRecDepth 20000 in
theorem ggX3_read_X1_empty : GoodIn wsX3_read wsX1_empty := goodIn_r _ [140, 13, 159, 160] (by decide +kernel) (by decide +kernel)
set_option maxRecDepth 20000 in
theorem gX3_read_X1_empty : GoodIn wsX3_read (wsV RX3 94 RX1 yX1_empty wsX1_empty) := goodIn_app (goodIn_of _ (by decide +kernel)) ggX3_read_X1_empty
theorem dX3_read_0 : decode cX3_read 0 = .ok (.aload_n 0, 1) := by decide +kernel
theorem dX3_read_1 : decode cX3_read 1 = .ok (.getfield 22, 3) := by decide +kernel
theorem dX3_read_4 : decode cX3_read 4 = .ok (.invokevirtual 82, 3) := by decide +kernel
theorem dX3_read_7 : decode cX3_read 7 = .ok (.ldc 86, 2) := by decide +kernel
theorem dX3_read_9 : decode cX3_read 9 = .ok (.if_icmp .eq 6, 3) := by decide +kernel
theorem dX3_read_12 : decode cX3_read 12 = .ok (.ldc 87, 2) := by decide +kernel
theorem dX3_read_14 : decode cX3_read 14 = .ok (.ireturn, 1) := by decide +kernel
theorem dX3_read_15 : decode cX3_read 15 = .ok (.aload_n 0, 1) := by decide +kernel
theorem dX3_read_16 : decode cX3_read 16 = .ok (.getfield 12, 3) := by decide +kernel
theorem dX3_read_19 : decode cX3_read 19 = .ok (.getfield 75, 3) := by decide +kernel
theorem dX3_read_22 : decode cX3_read 22 = .ok (.aload_n 0, 1) := by decide +kernel
theorem dX3_read_23 : decode cX3_read 23 = .ok (.getfield 22, 3) := by decide +kernel
theorem dX3_read_26 : decode cX3_read 26 = .ok (.invokevirtual 88, 3) := by decide +kernel
theorem dX3_read_29 : decode cX3_read 29 = .ok (.iadd, 1) := by decide +kernel
theorem dX3_read_30 : decode cX3_read 30 = .ok (.sipush 9999, 3) := by decide +kernel
theorem dX3_read_33 : decode cX3_read 33 = .ok (.if_icmp .le 6, 3) := by decide +kernel
theorem dX3_read_36 : decode cX3_read 36 = .ok (.ldc 78, 2) := by decide +kernel
theorem dX3_read_38 : decode cX3_read 38 = .ok (.ireturn, 1) := by decide +kernel
theorem dX3_read_39 : decode cX3_read 39 = .ok (.aload_n 0, 1) := by decide +kernel
theorem dX3_read_40 : decode cX3_read 40 = .ok (.getfield 29, 3) := by decide +kernel
theorem dX3_read_43 : decode cX3_read 43 = .ok (.aload_n 0, 1) := by decide +kernel
theorem dX3_read_44 : decode cX3_read 44 = .ok (.getfield 12, 3) := by decide +kernel
theorem dX3_read_47 : decode cX3_read 47 = .ok (.invokevirtual 38, 3) := by decide +kernel
theorem dX3_read_50 : decode cX3_read 50 = .ok (.aload_n 0, 1) := by decide +kernel
theorem dX3_read_51 : decode cX3_read 51 = .ok (.invokevirtual 91, 3) := by decide +kernel
theorem dX3_read_54 : decode cX3_read 54 = .ok (.istore_n 1, 1) := by decide +kernel
theorem dX3_read_55 : decode cX3_read 55 = .ok (.aload_n 0, 1) := by decide +kernel
theorem dX3_read_56 : decode cX3_read 56 = .ok (.getfield 22, 3) := by decide +kernel
theorem dX3_read_59 : decode cX3_read 59 = .ok (.invokevirtual 94, 3) := by decide +kernel
theorem dX3_read_62 : decode cX3_read 62 = .ok (.pop, 1) := by decide +kernel
theorem dX3_read_63 : decode cX3_read 63 = .ok (.iload_n 1, 1) := by decide +kernel
theorem dX3_read_64 : decode cX3_read 64 = .ok (.ireturn, 1) := by decide +kernel
set_option maxRecDepth 20000 in
theorem ggX3_feed_X3_isVillager : GoodIn wsX3_feed wsX3_isVillager := goodIn_r _ [9] (by decide +kernel) (by decide +kernel)
set_option maxRecDepth 20000 in
theorem gX3_feed_X3_isVillager : GoodIn wsX3_feed (va_wsS RX3 46 yX3_isVillager wsX3_isVillager) := goodIn_app (goodIn_of _ (by decide +kernel)) ggX3_feed_X3_isVillager
set_option maxRecDepth 20000 in
theorem ggX3_feed_X0_remember : GoodIn wsX3_feed wsX0_remember := goodIn_r _ [14, 15, 16, 17, 18, 19, 13, 20, 21, 22, 23, 24, 25, 26, 27, 28, 29, 30, 31, 32, 33, 34, 35, 36, 37, 38, 39, 40, 41, 42, 43, 44, 45, 46, 47, 48, 49, 68, 69, 55, 56, 57, 58, 59, 60, 61, 62, 63, 64, 65, 66, 67] (by decide +kernel) (by decide +kernel)
set_option maxRecDepth 20000 in
theorem gX3_feed_X0_remember : GoodIn wsX3_feed (wsV RX3 38 RX0 yX0_remember wsX0_remember) := goodIn_app (goodIn_of _ (by decide +kernel)) ggX3_feed_X0_remember
theorem dX3_feed_0 : decode cX3_feed 0 = .ok (.iload_n 1, 1) := by decide +kernel
theorem dX3_feed_1 : decode cX3_feed 1 = .ok (.invokestatic 46, 3) := by decide +kernel
theorem dX3_feed_4 : decode cX3_feed 4 = .ok (.ifCond .ne 6, 3) := by decide +kernel
theorem dX3_feed_7 : decode cX3_feed 7 = .ok (.ldc 50, 2) := by decide +kernel
theorem dX3_feed_9 : decode cX3_feed 9 = .ok (.ireturn, 1) := by decide +kernel
theorem dX3_feed_10 : decode cX3_feed 10 = .ok (.iload_n 2, 1) := by decide +kernel
theorem dX3_feed_11 : decode cX3_feed 11 = .ok (.ifCond .lt 9, 3) := by decide +kernel
theorem dX3_feed_14 : decode cX3_feed 14 = .ok (.iload_n 2, 1) := by decide +kernel
theorem dX3_feed_15 : decode cX3_feed 15 = .ok (.bipush 20, 2) := by decide +kernel
theorem dX3_feed_17 : decode cX3_feed 17 = .ok (.if_icmp .le 6, 3) := by decide +kernel
theorem dX3_feed_20 : decode cX3_feed 20 = .ok (.ldc 37, 2) := by decide +kernel
theorem dX3_feed_22 : decode cX3_feed 22 = .ok (.ireturn, 1) := by decide +kernel
theorem dX3_feed_23 : decode cX3_feed 23 = .ok (.aload_n 0, 1) := by decide +kernel
theorem dX3_feed_24 : decode cX3_feed 24 = .ok (.getfield 29, 3) := by decide +kernel
theorem dX3_feed_27 : decode cX3_feed 27 = .ok (.aload_n 0, 1) := by decide +kernel
theorem dX3_feed_28 : decode cX3_feed 28 = .ok (.getfield 12, 3) := by decide +kernel
theorem dX3_feed_31 : decode cX3_feed 31 = .ok (.invokevirtual 38, 3) := by decide +kernel
theorem dX3_feed_34 : decode cX3_feed 34 = .ok (.aload_n 0, 1) := by decide +kernel
theorem dX3_feed_35 : decode cX3_feed 35 = .ok (.getfield 12, 3) := by decide +kernel
theorem dX3_feed_38 : decode cX3_feed 38 = .ok (.getfield 97, 3) := by decide +kernel
theorem dX3_feed_41 : decode cX3_feed 41 = .ok (.iload_n 1, 1) := by decide +kernel
theorem dX3_feed_42 : decode cX3_feed 42 = .ok (.iaload, 1) := by decide +kernel
theorem dX3_feed_43 : decode cX3_feed 43 = .ok (.istore_n 3, 1) := by decide +kernel
theorem dX3_feed_44 : decode cX3_feed 44 = .ok (.aload_n 0, 1) := by decide +kernel
theorem dX3_feed_45 : decode cX3_feed 45 = .ok (.getfield 12, 3) := by decide +kernel
theorem dX3_feed_48 : decode cX3_feed 48 = .ok (.getfield 97, 3) := by decide +kernel
theorem dX3_feed_51 : decode cX3_feed 51 = .ok (.iload_n 1, 1) := by decide +kernel
theorem dX3_feed_52 : decode cX3_feed 52 = .ok (.iload_n 2, 1) := by decide +kernel
theorem dX3_feed_53 : decode cX3_feed 53 = .ok (.iastore, 1) := by decide +kernel
theorem dX3_feed_54 : decode cX3_feed 54 = .ok (.iload_n 3, 1) := by decide +kernel
theorem dX3_feed_55 : decode cX3_feed 55 = .ok (.ireturn, 1) := by decide +kernel
set_option maxRecDepth 20000 in
theorem ggX3_villager_X3_isVillager : GoodIn wsX3_villager wsX3_isVillager := goodIn_r _ [12] (by decide +kernel) (by decide +kernel)
set_option maxRecDepth 20000 in
theorem gX3_villager_X3_isVillager : GoodIn wsX3_villager (va_wsS RX3 46 yX3_isVillager wsX3_isVillager) := goodIn_app (goodIn_of _ (by decide +kernel)) ggX3_villager_X3_isVillager
set_option maxRecDepth 20000 in
theorem ggX3_villager_X2_isThere : GoodIn wsX3_villager wsX2_isThere := goodIn_r _ [17, 18, 36, 37, 38, 39, 40, 41, 42, 43, 44, 45, 46, 47, 48] (by decide +kernel) (by decide +kernel)
set_option maxRecDepth 20000 in
theorem gX3_villager_X2_isThere : GoodIn wsX3_villager (wsV RX3 58 RX2 yX2_isThere wsX2_isThere) := goodIn_app (goodIn_of _ (by decide +kernel)) ggX3_villager_X2_isThere
set_option maxRecDepth 20000 in
theorem ggX3_villager_X2_dancedWith : GoodIn wsX3_villager wsX2_dancedWith := goodIn_r _ [22, 23, 24, 11, 25, 36, 37, 38, 39, 40, 41, 42, 43, 44, 45, 46, 47, 48] (by decide +kernel) (by decide +kernel)
set_option maxRecDepth 20000 in
theorem gX3_villager_X2_dancedWith : GoodIn wsX3_villager (wsV RX3 112 RX2 yX2_dancedWith wsX2_dancedWith) := goodIn_app (goodIn_of _ (by decide +kernel)) ggX3_villager_X2_dancedWith
set_option maxRecDepth 20000 in
theorem ggX3_villager_X2_mostFrequentPartner : GoodIn wsX3_villager wsX2_mostFrequentPartner := goodIn_r _ [29, 30, 23, 24, 11, 25, 36, 37, 38, 39, 40, 41, 42, 43, 44, 45, 46, 47, 48] (by decide +kernel) (by decide +kernel)
set_option maxRecDepth 20000 in
theorem gX3_villager_X2_mostFrequentPartner : GoodIn wsX3_villager (wsV RX3 115 RX2 yX2_mostFrequentPartner wsX2_mostFrequentPartner) := goodIn_app (goodIn_of _ (by decide +kernel)) ggX3_villager_X2_mostFrequentPartner
theorem dX3_villager_0 : decode cX3_villager 0 = .ok (.iload_n 1, 1) := by decide +kernel
theorem dX3_villager_1 : decode cX3_villager 1 = .ok (.invokestatic 46, 3) := by decide +kernel
theorem dX3_villager_4 : decode cX3_villager 4 = .ok (.ifCond .ne 6, 3) := by decide +kernel
theorem dX3_villager_7 : decode cX3_villager 7 = .ok (.ldc 50, 2) := by decide +kernel
theorem dX3_villager_9 : decode cX3_villager 9 = .ok (.ireturn, 1) := by decide +kernel
theorem dX3_villager_10 : decode cX3_villager 10 = .ok (.iload_n 2, 1) := by decide +kernel
theorem dX3_villager_11 : decode cX3_villager 11 = .ok (.tableswitch 130 0 7 #[45, 62, 72, 82, 92, 102, 112, 121], 45) := by decide +kernel
theorem dX3_villager_56 : decode cX3_villager 56 = .ok (.aload_n 0, 1) := by decide +kernel
theorem dX3_villager_57 : decode cX3_villager 57 = .ok (.getfield 12, 3) := by decide +kernel
theorem dX3_villager_60 : decode cX3_villager 60 = .ok (.iload_n 1, 1) := by decide +kernel
theorem dX3_villager_61 : decode cX3_villager 61 = .ok (.invokevirtual 58, 3) := by decide +kernel
theorem dX3_villager_64 : decode cX3_villager 64 = .ok (.ifCond .eq 7, 3) := by decide +kernel
theorem dX3_villager_67 : decode cX3_villager 67 = .ok (.iconst 1, 1) := by decide +kernel
theorem dX3_villager_68 : decode cX3_villager 68 = .ok (.goto 4, 3) := by decide +kernel
theorem dX3_villager_71 : decode cX3_villager 71 = .ok (.iconst 0, 1) := by decide +kernel
theorem dX3_villager_72 : decode cX3_villager 72 = .ok (.ireturn, 1) := by decide +kernel
theorem dX3_villager_73 : decode cX3_villager 73 = .ok (.aload_n 0, 1) := by decide +kernel
theorem dX3_villager_74 : decode cX3_villager 74 = .ok (.getfield 12, 3) := by decide +kernel
theorem dX3_villager_77 : decode cX3_villager 77 = .ok (.getfield 97, 3) := by decide +kernel
theorem dX3_villager_80 : decode cX3_villager 80 = .ok (.iload_n 1, 1) := by decide +kernel
theorem dX3_villager_81 : decode cX3_villager 81 = .ok (.iaload, 1) := by decide +kernel
theorem dX3_villager_82 : decode cX3_villager 82 = .ok (.ireturn, 1) := by decide +kernel
theorem dX3_villager_83 : decode cX3_villager 83 = .ok (.aload_n 0, 1) := by decide +kernel
theorem dX3_villager_84 : decode cX3_villager 84 = .ok (.getfield 12, 3) := by decide +kernel
theorem dX3_villager_87 : decode cX3_villager 87 = .ok (.getfield 100, 3) := by decide +kernel
theorem dX3_villager_90 : decode cX3_villager 90 = .ok (.iload_n 1, 1) := by decide +kernel
theorem dX3_villager_91 : decode cX3_villager 91 = .ok (.iaload, 1) := by decide +kernel
theorem dX3_villager_92 : decode cX3_villager 92 = .ok (.ireturn, 1) := by decide +kernel
theorem dX3_villager_93 : decode cX3_villager 93 = .ok (.aload_n 0, 1) := by decide +kernel
theorem dX3_villager_94 : decode cX3_villager 94 = .ok (.getfield 12, 3) := by decide +kernel
theorem dX3_villager_97 : decode cX3_villager 97 = .ok (.getfield 103, 3) := by decide +kernel
theorem dX3_villager_100 : decode cX3_villager 100 = .ok (.iload_n 1, 1) := by decide +kernel
theorem dX3_villager_101 : decode cX3_villager 101 = .ok (.iaload, 1) := by decide +kernel
theorem dX3_villager_102 : decode cX3_villager 102 = .ok (.ireturn, 1) := by decide +kernel
theorem dX3_villager_103 : decode cX3_villager 103 = .ok (.aload_n 0, 1) := by decide +kernel
theorem dX3_villager_104 : decode cX3_villager 104 = .ok (.getfield 12, 3) := by decide +kernel
theorem dX3_villager_107 : decode cX3_villager 107 = .ok (.getfield 106, 3) := by decide +kernel
theorem dX3_villager_110 : decode cX3_villager 110 = .ok (.iload_n 1, 1) := by decide +kernel
theorem dX3_villager_111 : decode cX3_villager 111 = .ok (.iaload, 1) := by decide +kernel
theorem dX3_villager_112 : decode cX3_villager 112 = .ok (.ireturn, 1) := by decide +kernel
theorem dX3_villager_113 : decode cX3_villager 113 = .ok (.aload_n 0, 1) := by decide +kernel
theorem dX3_villager_114 : decode cX3_villager 114 = .ok (.getfield 12, 3) := by decide +kernel
theorem dX3_villager_117 : decode cX3_villager 117 = .ok (.getfield 109, 3) := by decide +kernel
theorem dX3_villager_120 : decode cX3_villager 120 = .ok (.iload_n 1, 1) := by decide +kernel
theorem dX3_villager_121 : decode cX3_villager 121 = .ok (.iaload, 1) := by decide +kernel
theorem dX3_villager_122 : decode cX3_villager 122 = .ok (.ireturn, 1) := by decide +kernel
theorem dX3_villager_123 : decode cX3_villager 123 = .ok (.aload_n 0, 1) := by decide +kernel
theorem dX3_villager_124 : decode cX3_villager 124 = .ok (.getfield 12, 3) := by decide +kernel
theorem dX3_villager_127 : decode cX3_villager 127 = .ok (.iload_n 1, 1) := by decide +kernel
theorem dX3_villager_128 : decode cX3_villager 128 = .ok (.invokevirtual 112, 3) := by decide +kernel
theorem dX3_villager_131 : decode cX3_villager 131 = .ok (.ireturn, 1) := by decide +kernel
theorem dX3_villager_132 : decode cX3_villager 132 = .ok (.aload_n 0, 1) := by decide +kernel
theorem dX3_villager_133 : decode cX3_villager 133 = .ok (.getfield 12, 3) := by decide +kernel
theorem dX3_villager_136 : decode cX3_villager 136 = .ok (.iload_n 1, 1) := by decide +kernel
theorem dX3_villager_137 : decode cX3_villager 137 = .ok (.invokevirtual 115, 3) := by decide +kernel
theorem dX3_villager_140 : decode cX3_villager 140 = .ok (.ireturn, 1) := by decide +kernel
theorem dX3_villager_141 : decode cX3_villager 141 = .ok (.ldc 37, 2) := by decide +kernel
theorem dX3_villager_143 : decode cX3_villager 143 = .ok (.ireturn, 1) := by decide +kernel
set_option maxRecDepth 20000 in
theorem ggX3_pair_X3_isVillager : GoodIn wsX3_pair wsX3_isVillager := goodIn_r _ [11] (by decide +kernel) (by decide +kernel)
set_option maxRecDepth 20000 in
theorem gX3_pair_X3_isVillager : GoodIn wsX3_pair (va_wsS RX3 46 yX3_isVillager wsX3_isVillager) := goodIn_app (goodIn_of _ (by decide +kernel)) ggX3_pair_X3_isVillager
set_option maxRecDepth 20000 in
theorem ggX3_pair_X3_pairIndex : GoodIn wsX3_pair wsX3_pairIndex := goodIn_r _ [14] (by decide +kernel) (by decide +kernel)
set_option maxRecDepth 20000 in
theorem gX3_pair_X3_pairIndex : GoodIn wsX3_pair (va_wsS RX3 51 yX3_pairIndex wsX3_pairIndex) := goodIn_app (goodIn_of _ (by decide +kernel)) ggX3_pair_X3_pairIndex
set_option maxRecDepth 20000 in
theorem ggX3_pair_X3_remainderOf : GoodIn wsX3_pair wsX3_remainderOf := goodIn_r _ [17, 18, 19, 20, 21] (by decide +kernel) (by decide +kernel)
set_option maxRecDepth 20000 in
theorem gX3_pair_X3_remainderOf : GoodIn wsX3_pair (va_wsS RX3 118 yX3_remainderOf wsX3_remainderOf) := goodIn_app (goodIn_of _ (by decide +kernel)) ggX3_pair_X3_remainderOf
theorem dX3_pair_0 : decode cX3_pair 0 = .ok (.iload_n 1, 1) := by decide +kernel
theorem dX3_pair_1 : decode cX3_pair 1 = .ok (.invokestatic 46, 3) := by decide +kernel
theorem dX3_pair_4 : decode cX3_pair 4 = .ok (.ifCond .eq 10, 3) := by decide +kernel
theorem dX3_pair_7 : decode cX3_pair 7 = .ok (.iload_n 2, 1) := by decide +kernel
theorem dX3_pair_8 : decode cX3_pair 8 = .ok (.invokestatic 46, 3) := by decide +kernel
theorem dX3_pair_11 : decode cX3_pair 11 = .ok (.ifCond .ne 6, 3) := by decide +kernel
theorem dX3_pair_14 : decode cX3_pair 14 = .ok (.ldc 50, 2) := by decide +kernel
theorem dX3_pair_16 : decode cX3_pair 16 = .ok (.ireturn, 1) := by decide +kernel
theorem dX3_pair_17 : decode cX3_pair 17 = .ok (.iload_n 1, 1) := by decide +kernel
theorem dX3_pair_18 : decode cX3_pair 18 = .ok (.iload_n 2, 1) := by decide +kernel
theorem dX3_pair_19 : decode cX3_pair 19 = .ok (.if_icmp .ne 6, 3) := by decide +kernel
theorem dX3_pair_22 : decode cX3_pair 22 = .ok (.ldc 37, 2) := by decide +kernel
theorem dX3_pair_24 : decode cX3_pair 24 = .ok (.ireturn, 1) := by decide +kernel
theorem dX3_pair_25 : decode cX3_pair 25 = .ok (.iload_n 1, 1) := by decide +kernel
theorem dX3_pair_26 : decode cX3_pair 26 = .ok (.iload_n 2, 1) := by decide +kernel
theorem dX3_pair_27 : decode cX3_pair 27 = .ok (.invokestatic 51, 3) := by decide +kernel
theorem dX3_pair_30 : decode cX3_pair 30 = .ok (.istore 4, 2) := by decide +kernel
theorem dX3_pair_32 : decode cX3_pair 32 = .ok (.iload_n 1, 1) := by decide +kernel
theorem dX3_pair_33 : decode cX3_pair 33 = .ok (.iload_n 2, 1) := by decide +kernel
theorem dX3_pair_34 : decode cX3_pair 34 = .ok (.iadd, 1) := by decide +kernel
theorem dX3_pair_35 : decode cX3_pair 35 = .ok (.invokestatic 118, 3) := by decide +kernel
theorem dX3_pair_38 : decode cX3_pair 38 = .ok (.istore 5, 2) := by decide +kernel
theorem dX3_pair_40 : decode cX3_pair 40 = .ok (.iload_n 3, 1) := by decide +kernel
theorem dX3_pair_41 : decode cX3_pair 41 = .ok (.tableswitch 82 0 4 #[35, 46, 57, 60, 71], 35) := by decide +kernel
theorem dX3_pair_76 : decode cX3_pair 76 = .ok (.aload_n 0, 1) := by decide +kernel
theorem dX3_pair_77 : decode cX3_pair 77 = .ok (.getfield 12, 3) := by decide +kernel
theorem dX3_pair_80 : decode cX3_pair 80 = .ok (.getfield 55, 3) := by decide +kernel
theorem dX3_pair_83 : decode cX3_pair 83 = .ok (.iload 4, 2) := by decide +kernel
theorem dX3_pair_85 : decode cX3_pair 85 = .ok (.iaload, 1) := by decide +kernel
theorem dX3_pair_86 : decode cX3_pair 86 = .ok (.ireturn, 1) := by decide +kernel
theorem dX3_pair_87 : decode cX3_pair 87 = .ok (.aload_n 0, 1) := by decide +kernel
theorem dX3_pair_88 : decode cX3_pair 88 = .ok (.getfield 12, 3) := by decide +kernel
theorem dX3_pair_91 : decode cX3_pair 91 = .ok (.getfield 121, 3) := by decide +kernel
theorem dX3_pair_94 : decode cX3_pair 94 = .ok (.iload 4, 2) := by decide +kernel
theorem dX3_pair_96 : decode cX3_pair 96 = .ok (.iaload, 1) := by decide +kernel
theorem dX3_pair_97 : decode cX3_pair 97 = .ok (.ireturn, 1) := by decide +kernel
theorem dX3_pair_98 : decode cX3_pair 98 = .ok (.iload 5, 2) := by decide +kernel
theorem dX3_pair_100 : decode cX3_pair 100 = .ok (.ireturn, 1) := by decide +kernel
theorem dX3_pair_101 : decode cX3_pair 101 = .ok (.aload_n 0, 1) := by decide +kernel
theorem dX3_pair_102 : decode cX3_pair 102 = .ok (.getfield 12, 3) := by decide +kernel
theorem dX3_pair_105 : decode cX3_pair 105 = .ok (.getfield 124, 3) := by decide +kernel
theorem dX3_pair_108 : decode cX3_pair 108 = .ok (.iload 5, 2) := by decide +kernel
theorem dX3_pair_110 : decode cX3_pair 110 = .ok (.iaload, 1) := by decide +kernel
theorem dX3_pair_111 : decode cX3_pair 111 = .ok (.ireturn, 1) := by decide +kernel
theorem dX3_pair_112 : decode cX3_pair 112 = .ok (.aload_n 0, 1) := by decide +kernel
theorem dX3_pair_113 : decode cX3_pair 113 = .ok (.getfield 12, 3) := by decide +kernel
theorem dX3_pair_116 : decode cX3_pair 116 = .ok (.getfield 127, 3) := by decide +kernel
theorem dX3_pair_119 : decode cX3_pair 119 = .ok (.iload 4, 2) := by decide +kernel
theorem dX3_pair_121 : decode cX3_pair 121 = .ok (.iaload, 1) := by decide +kernel
theorem dX3_pair_122 : decode cX3_pair 122 = .ok (.ireturn, 1) := by decide +kernel
theorem dX3_pair_123 : decode cX3_pair 123 = .ok (.ldc 37, 2) := by decide +kernel
theorem dX3_pair_125 : decode cX3_pair 125 = .ok (.ireturn, 1) := by decide +kernel
set_option maxRecDepth 20000 in
theorem ggX3_partner_X3_isVillager : GoodIn wsX3_partner wsX3_isVillager := goodIn_r _ [7] (by decide +kernel) (by decide +kernel)
set_option maxRecDepth 20000 in
theorem gX3_partner_X3_isVillager : GoodIn wsX3_partner (va_wsS RX3 46 yX3_isVillager wsX3_isVillager) := goodIn_app (goodIn_of _ (by decide +kernel)) ggX3_partner_X3_isVillager
set_option maxRecDepth 20000 in
theorem ggX3_partner_X3_isNumber : GoodIn wsX3_partner wsX3_isNumber := goodIn_r _ [10] (by decide +kernel) (by decide +kernel)
set_option maxRecDepth 20000 in
theorem gX3_partner_X3_isNumber : GoodIn wsX3_partner (va_wsS RX3 72 yX3_isNumber wsX3_isNumber) := goodIn_app (goodIn_of _ (by decide +kernel)) ggX3_partner_X3_isNumber
set_option maxRecDepth 20000 in
theorem ggX3_partner_X3_counterpart : GoodIn wsX3_partner wsX3_counterpart := goodIn_r _ [13, 14, 15, 6, 16, 17, 18, 19, 20] (by decide +kernel) (by decide +kernel)
set_option maxRecDepth 20000 in
theorem gX3_partner_X3_counterpart : GoodIn wsX3_partner (va_wsS RX3 130 yX3_counterpart wsX3_counterpart) := goodIn_app (goodIn_of _ (by decide +kernel)) ggX3_partner_X3_counterpart
theorem dX3_partner_0 : decode cX3_partner 0 = .ok (.iload_n 1, 1) := by decide +kernel
theorem dX3_partner_1 : decode cX3_partner 1 = .ok (.invokestatic 46, 3) := by decide +kernel
theorem dX3_partner_4 : decode cX3_partner 4 = .ok (.ifCond .ne 6, 3) := by decide +kernel
theorem dX3_partner_7 : decode cX3_partner 7 = .ok (.ldc 50, 2) := by decide +kernel
theorem dX3_partner_9 : decode cX3_partner 9 = .ok (.ireturn, 1) := by decide +kernel
theorem dX3_partner_10 : decode cX3_partner 10 = .ok (.iload_n 2, 1) := by decide +kernel
theorem dX3_partner_11 : decode cX3_partner 11 = .ok (.invokestatic 72, 3) := by decide +kernel
theorem dX3_partner_14 : decode cX3_partner 14 = .ok (.ifCond .ne 6, 3) := by decide +kernel
theorem dX3_partner_17 : decode cX3_partner 17 = .ok (.ldc 37, 2) := by decide +kernel
theorem dX3_partner_19 : decode cX3_partner 19 = .ok (.ireturn, 1) := by decide +kernel
theorem dX3_partner_20 : decode cX3_partner 20 = .ok (.iload_n 1, 1) := by decide +kernel
theorem dX3_partner_21 : decode cX3_partner 21 = .ok (.iload_n 2, 1) := by decide +kernel
theorem dX3_partner_22 : decode cX3_partner 22 = .ok (.invokestatic 130, 3) := by decide +kernel
theorem dX3_partner_25 : decode cX3_partner 25 = .ok (.istore_n 3, 1) := by decide +kernel
theorem dX3_partner_26 : decode cX3_partner 26 = .ok (.iload_n 3, 1) := by decide +kernel
theorem dX3_partner_27 : decode cX3_partner 27 = .ok (.iload_n 1, 1) := by decide +kernel
theorem dX3_partner_28 : decode cX3_partner 28 = .ok (.if_icmp .ne 8, 3) := by decide +kernel
theorem dX3_partner_31 : decode cX3_partner 31 = .ok (.ldc 86, 2) := by decide +kernel
theorem dX3_partner_33 : decode cX3_partner 33 = .ok (.goto 4, 3) := by decide +kernel
theorem dX3_partner_36 : decode cX3_partner 36 = .ok (.iload_n 3, 1) := by decide +kernel
theorem dX3_partner_37 : decode cX3_partner 37 = .ok (.ireturn, 1) := by decide +kernel
set_option maxRecDepth 20000 in
theorem ggX3_count_X3_sumOf : GoodIn wsX3_count wsX3_sumOf := goodIn_r _ [18] (by decide +kernel) (by decide +kernel)
set_option maxRecDepth 20000 in
theorem gX3_count_X3_sumOf : GoodIn wsX3_count (va_wsS RX3 133 yX3_sumOf wsX3_sumOf) := goodIn_app (goodIn_of _ (by decide +kernel)) ggX3_count_X3_sumOf
set_option maxRecDepth 20000 in
theorem ggX3_count_X2_unmetPairs : GoodIn wsX3_count wsX2_unmetPairs := goodIn_r _ [23, 24, 25, 26, 22, 27, 28, 29, 30, 31, 32, 33, 34, 17, 35, 41, 42, 43, 44, 45, 46, 47, 48, 49, 50, 51, 52, 53] (by decide +kernel) (by decide +kernel)
set_option maxRecDepth 20000 in
theorem gX3_count_X2_unmetPairs : GoodIn wsX3_count (wsV RX3 137 RX2 yX2_unmetPairs wsX2_unmetPairs) := goodIn_app (goodIn_of _ (by decide +kernel)) ggX3_count_X2_unmetPairs
theorem dX3_count_0 : decode cX3_count 0 = .ok (.iload_n 1, 1) := by decide +kernel
theorem dX3_count_1 : decode cX3_count 1 = .ok (.tableswitch 169 0 12 #[67, 67, 67, 77, 85, 93, 104, 115, 123, 134, 145, 153, 161], 67) := by decide +kernel
theorem dX3_count_68 : decode cX3_count 68 = .ok (.aload_n 0, 1) := by decide +kernel
theorem dX3_count_69 : decode cX3_count 69 = .ok (.getfield 12, 3) := by decide +kernel
theorem dX3_count_72 : decode cX3_count 72 = .ok (.getfield 42, 3) := by decide +kernel
theorem dX3_count_75 : decode cX3_count 75 = .ok (.iload_n 1, 1) := by decide +kernel
theorem dX3_count_76 : decode cX3_count 76 = .ok (.iaload, 1) := by decide +kernel
theorem dX3_count_77 : decode cX3_count 77 = .ok (.ireturn, 1) := by decide +kernel
theorem dX3_count_78 : decode cX3_count 78 = .ok (.aload_n 0, 1) := by decide +kernel
theorem dX3_count_79 : decode cX3_count 79 = .ok (.getfield 12, 3) := by decide +kernel
theorem dX3_count_82 : decode cX3_count 82 = .ok (.getfield 75, 3) := by decide +kernel
theorem dX3_count_85 : decode cX3_count 85 = .ok (.ireturn, 1) := by decide +kernel
theorem dX3_count_86 : decode cX3_count 86 = .ok (.aload_n 0, 1) := by decide +kernel
theorem dX3_count_87 : decode cX3_count 87 = .ok (.getfield 12, 3) := by decide +kernel
theorem dX3_count_90 : decode cX3_count 90 = .ok (.getfield 62, 3) := by decide +kernel
theorem dX3_count_93 : decode cX3_count 93 = .ok (.ireturn, 1) := by decide +kernel
theorem dX3_count_94 : decode cX3_count 94 = .ok (.aload_n 0, 1) := by decide +kernel
theorem dX3_count_95 : decode cX3_count 95 = .ok (.getfield 12, 3) := by decide +kernel
theorem dX3_count_98 : decode cX3_count 98 = .ok (.getfield 121, 3) := by decide +kernel
theorem dX3_count_101 : decode cX3_count 101 = .ok (.invokestatic 133, 3) := by decide +kernel
theorem dX3_count_104 : decode cX3_count 104 = .ok (.ireturn, 1) := by decide +kernel
theorem dX3_count_105 : decode cX3_count 105 = .ok (.aload_n 0, 1) := by decide +kernel
theorem dX3_count_106 : decode cX3_count 106 = .ok (.getfield 12, 3) := by decide +kernel
theorem dX3_count_109 : decode cX3_count 109 = .ok (.getfield 100, 3) := by decide +kernel
theorem dX3_count_112 : decode cX3_count 112 = .ok (.invokestatic 133, 3) := by decide +kernel
theorem dX3_count_115 : decode cX3_count 115 = .ok (.ireturn, 1) := by decide +kernel
theorem dX3_count_116 : decode cX3_count 116 = .ok (.aload_n 0, 1) := by decide +kernel
theorem dX3_count_117 : decode cX3_count 117 = .ok (.getfield 12, 3) := by decide +kernel
theorem dX3_count_120 : decode cX3_count 120 = .ok (.invokevirtual 137, 3) := by decide +kernel
theorem dX3_count_123 : decode cX3_count 123 = .ok (.ireturn, 1) := by decide +kernel
theorem dX3_count_124 : decode cX3_count 124 = .ok (.aload_n 0, 1) := by decide +kernel
theorem dX3_count_125 : decode cX3_count 125 = .ok (.getfield 12, 3) := by decide +kernel
theorem dX3_count_128 : decode cX3_count 128 = .ok (.getfield 109, 3) := by decide +kernel
theorem dX3_count_131 : decode cX3_count 131 = .ok (.invokestatic 133, 3) := by decide +kernel
theorem dX3_count_134 : decode cX3_count 134 = .ok (.ireturn, 1) := by decide +kernel
theorem dX3_count_135 : decode cX3_count 135 = .ok (.aload_n 0, 1) := by decide +kernel
theorem dX3_count_136 : decode cX3_count 136 = .ok (.getfield 12, 3) := by decide +kernel
theorem dX3_count_139 : decode cX3_count 139 = .ok (.getfield 97, 3) := by decide +kernel
theorem dX3_count_142 : decode cX3_count 142 = .ok (.invokestatic 133, 3) := by decide +kernel
theorem dX3_count_145 : decode cX3_count 145 = .ok (.ireturn, 1) := by decide +kernel
theorem dX3_count_146 : decode cX3_count 146 = .ok (.aload_n 0, 1) := by decide +kernel
theorem dX3_count_147 : decode cX3_count 147 = .ok (.getfield 12, 3) := by decide +kernel
theorem dX3_count_150 : decode cX3_count 150 = .ok (.getfield 140, 3) := by decide +kernel
theorem dX3_count_153 : decode cX3_count 153 = .ok (.ireturn, 1) := by decide +kernel
theorem dX3_count_154 : decode cX3_count 154 = .ok (.aload_n 0, 1) := by decide +kernel
theorem dX3_count_155 : decode cX3_count 155 = .ok (.getfield 22, 3) := by decide +kernel
theorem dX3_count_158 : decode cX3_count 158 = .ok (.getfield 143, 3) := by decide +kernel
theorem dX3_count_161 : decode cX3_count 161 = .ok (.ireturn, 1) := by decide +kernel
theorem dX3_count_162 : decode cX3_count 162 = .ok (.aload_n 0, 1) := by decide +kernel
theorem dX3_count_163 : decode cX3_count 163 = .ok (.getfield 29, 3) := by decide +kernel
theorem dX3_count_166 : decode cX3_count 166 = .ok (.getfield 146, 3) := by decide +kernel
theorem dX3_count_169 : decode cX3_count 169 = .ok (.ireturn, 1) := by decide +kernel
theorem dX3_count_170 : decode cX3_count 170 = .ok (.ldc 37, 2) := by decide +kernel
theorem dX3_count_172 : decode cX3_count 172 = .ok (.ireturn, 1) := by decide +kernel
set_option maxRecDepth 20000 in
theorem ggX3_ifCalled_X3_isNumber : GoodIn wsX3_ifCalled wsX3_isNumber := goodIn_r _ [6] (by decide +kernel) (by decide +kernel)
set_option maxRecDepth 20000 in
theorem gX3_ifCalled_X3_isNumber : GoodIn wsX3_ifCalled (va_wsS RX3 72 yX3_isNumber wsX3_isNumber) := goodIn_app (goodIn_of _ (by decide +kernel)) ggX3_ifCalled_X3_isNumber
set_option maxRecDepth 20000 in
theorem ggX3_ifCalled_X2_wouldBring : GoodIn wsX3_ifCalled wsX2_wouldBring := goodIn_r _ [11, 12, 5, 13, 14, 15, 16, 17, 18, 19, 20, 21, 22, 23, 10, 24, 25, 26, 27, 28, 29, 30, 31, 32, 33, 34, 35, 36, 37, 38, 39, 40, 41, 42, 43, 44, 45, 46, 47, 48, 49, 50, 56, 57, 58, 59, 60, 61, 62, 63, 64, 65, 66, 67, 68] (by decide +kernel) (by decide +kernel)
set_option maxRecDepth 20000 in
theorem gX3_ifCalled_X2_wouldBring : GoodIn wsX3_ifCalled (wsV RX3 147 RX2 yX2_wouldBring wsX2_wouldBring) := goodIn_app (goodIn_of _ (by decide +kernel)) ggX3_ifCalled_X2_wouldBring
theorem dX3_ifCalled_0 : decode cX3_ifCalled 0 = .ok (.iload_n 1, 1) := by decide +kernel
theorem dX3_ifCalled_1 : decode cX3_ifCalled 1 = .ok (.invokestatic 72, 3) := by decide +kernel
theorem dX3_ifCalled_4 : decode cX3_ifCalled 4 = .ok (.ifCond .eq 12, 3) := by decide +kernel
theorem dX3_ifCalled_7 : decode cX3_ifCalled 7 = .ok (.iload_n 2, 1) := by decide +kernel
theorem dX3_ifCalled_8 : decode cX3_ifCalled 8 = .ok (.ifCond .lt 8, 3) := by decide +kernel
theorem dX3_ifCalled_11 : decode cX3_ifCalled 11 = .ok (.iload_n 2, 1) := by decide +kernel
theorem dX3_ifCalled_12 : decode cX3_ifCalled 12 = .ok (.iconst 3, 1) := by decide +kernel
theorem dX3_ifCalled_13 : decode cX3_ifCalled 13 = .ok (.if_icmp .le 6, 3) := by decide +kernel
theorem dX3_ifCalled_16 : decode cX3_ifCalled 16 = .ok (.ldc 37, 2) := by decide +kernel
theorem dX3_ifCalled_18 : decode cX3_ifCalled 18 = .ok (.ireturn, 1) := by decide +kernel
theorem dX3_ifCalled_19 : decode cX3_ifCalled 19 = .ok (.aload_n 0, 1) := by decide +kernel
theorem dX3_ifCalled_20 : decode cX3_ifCalled 20 = .ok (.getfield 12, 3) := by decide +kernel
theorem dX3_ifCalled_23 : decode cX3_ifCalled 23 = .ok (.iload_n 1, 1) := by decide +kernel
theorem dX3_ifCalled_24 : decode cX3_ifCalled 24 = .ok (.iload_n 2, 1) := by decide +kernel
theorem dX3_ifCalled_25 : decode cX3_ifCalled 25 = .ok (.invokevirtual 147, 3) := by decide +kernel
theorem dX3_ifCalled_28 : decode cX3_ifCalled 28 = .ok (.ireturn, 1) := by decide +kernel
set_option maxRecDepth 20000 in
theorem ggX3_bestCall_X2_wouldBring : GoodIn wsX3_bestCall wsX2_wouldBring := goodIn_r _ [7, 8, 9, 10, 11, 12, 13, 14, 15, 16, 17, 18, 19, 20, 6, 21, 22, 23, 24, 25, 26, 27, 28, 29, 30, 31, 32, 33, 34, 35, 36, 37, 38, 39, 40, 41, 42, 43, 44, 45, 46, 47, 53, 54, 55, 56, 57, 58, 59, 60, 61, 62, 63, 64, 65] (by decide +kernel) (by decide +kernel)
set_option maxRecDepth 20000 in
theorem gX3_bestCall_X2_wouldBring : GoodIn wsX3_bestCall (wsV RX3 147 RX2 yX2_wouldBring wsX2_wouldBring) := goodIn_app (goodIn_of _ (by decide +kernel)) ggX3_bestCall_X2_wouldBring
theorem dX3_bestCall_0 : decode cX3_bestCall 0 = .ok (.iload_n 1, 1) := by decide +kernel
theorem dX3_bestCall_1 : decode cX3_bestCall 1 = .ok (.ifCond .eq 11, 3) := by decide +kernel
theorem dX3_bestCall_4 : decode cX3_bestCall 4 = .ok (.iload_n 1, 1) := by decide +kernel
theorem dX3_bestCall_5 : decode cX3_bestCall 5 = .ok (.iconst 1, 1) := by decide +kernel
theorem dX3_bestCall_6 : decode cX3_bestCall 6 = .ok (.if_icmp .eq 6, 3) := by decide +kernel
theorem dX3_bestCall_9 : decode cX3_bestCall 9 = .ok (.ldc 37, 2) := by decide +kernel
theorem dX3_bestCall_11 : decode cX3_bestCall 11 = .ok (.ireturn, 1) := by decide +kernel
theorem dX3_bestCall_12 : decode cX3_bestCall 12 = .ok (.iconst 0, 1) := by decide +kernel
theorem dX3_bestCall_13 : decode cX3_bestCall 13 = .ok (.istore_n 2, 1) := by decide +kernel
theorem dX3_bestCall_14 : decode cX3_bestCall 14 = .ok (.aload_n 0, 1) := by decide +kernel
theorem dX3_bestCall_15 : decode cX3_bestCall 15 = .ok (.getfield 12, 3) := by decide +kernel
theorem dX3_bestCall_18 : decode cX3_bestCall 18 = .ok (.iconst 0, 1) := by decide +kernel
theorem dX3_bestCall_19 : decode cX3_bestCall 19 = .ok (.iconst 1, 1) := by decide +kernel
theorem dX3_bestCall_20 : decode cX3_bestCall 20 = .ok (.invokevirtual 147, 3) := by decide +kernel
theorem dX3_bestCall_23 : decode cX3_bestCall 23 = .ok (.istore_n 3, 1) := by decide +kernel
theorem dX3_bestCall_24 : decode cX3_bestCall 24 = .ok (.iconst 1, 1) := by decide +kernel
theorem dX3_bestCall_25 : decode cX3_bestCall 25 = .ok (.istore 4, 2) := by decide +kernel
theorem dX3_bestCall_27 : decode cX3_bestCall 27 = .ok (.iload 4, 2) := by decide +kernel
theorem dX3_bestCall_29 : decode cX3_bestCall 29 = .ok (.bipush 9, 2) := by decide +kernel
theorem dX3_bestCall_31 : decode cX3_bestCall 31 = .ok (.if_icmp .ge 33, 3) := by decide +kernel
theorem dX3_bestCall_34 : decode cX3_bestCall 34 = .ok (.aload_n 0, 1) := by decide +kernel
theorem dX3_bestCall_35 : decode cX3_bestCall 35 = .ok (.getfield 12, 3) := by decide +kernel
theorem dX3_bestCall_38 : decode cX3_bestCall 38 = .ok (.iload 4, 2) := by decide +kernel
theorem dX3_bestCall_40 : decode cX3_bestCall 40 = .ok (.iconst 1, 1) := by decide +kernel
theorem dX3_bestCall_41 : decode cX3_bestCall 41 = .ok (.invokevirtual 147, 3) := by decide +kernel
theorem dX3_bestCall_44 : decode cX3_bestCall 44 = .ok (.istore 5, 2) := by decide +kernel
theorem dX3_bestCall_46 : decode cX3_bestCall 46 = .ok (.iload 5, 2) := by decide +kernel
theorem dX3_bestCall_48 : decode cX3_bestCall 48 = .ok (.iload_n 3, 1) := by decide +kernel
theorem dX3_bestCall_49 : decode cX3_bestCall 49 = .ok (.if_icmp .le 9, 3) := by decide +kernel
theorem dX3_bestCall_52 : decode cX3_bestCall 52 = .ok (.iload 4, 2) := by decide +kernel
theorem dX3_bestCall_54 : decode cX3_bestCall 54 = .ok (.istore_n 2, 1) := by decide +kernel
theorem dX3_bestCall_55 : decode cX3_bestCall 55 = .ok (.iload 5, 2) := by decide +kernel
theorem dX3_bestCall_57 : decode cX3_bestCall 57 = .ok (.istore_n 3, 1) := by decide +kernel
theorem dX3_bestCall_58 : decode cX3_bestCall 58 = .ok (.iinc 4 1, 3) := by decide +kernel
theorem dX3_bestCall_61 : decode cX3_bestCall 61 = .ok (.goto (-34), 3) := by decide +kernel
theorem dX3_bestCall_64 : decode cX3_bestCall 64 = .ok (.iload_n 1, 1) := by decide +kernel
theorem dX3_bestCall_65 : decode cX3_bestCall 65 = .ok (.ifCond .ne 7, 3) := by decide +kernel
theorem dX3_bestCall_68 : decode cX3_bestCall 68 = .ok (.iload_n 2, 1) := by decide +kernel
theorem dX3_bestCall_69 : decode cX3_bestCall 69 = .ok (.goto 4, 3) := by decide +kernel
theorem dX3_bestCall_72 : decode cX3_bestCall 72 = .ok (.iload_n 3, 1) := by decide +kernel
theorem dX3_bestCall_73 : decode cX3_bestCall 73 = .ok (.ireturn, 1) := by decide +kernel
set_option maxRecDepth 20000 in
theorem ggX3_fewestRounds_X2_remaindersWithUnmetPair : GoodIn wsX3_fewestRounds wsX2_remaindersWithUnmetPair := goodIn_r _ [7, 8, 9, 10, 6, 11, 12, 13, 14, 15, 16, 17, 18, 19, 20, 21, 22, 23, 24, 25, 26, 27, 28, 29, 30, 31, 32, 33, 50, 51, 52, 53, 54, 55, 56, 57, 58, 59, 60, 61, 62] (by decide +kernel) (by decide +kernel)
set_option maxRecDepth 20000 in
theorem gX3_fewestRounds_X2_remaindersWithUnmetPair : GoodIn wsX3_fewestRounds (wsV RX3 150 RX2 yX2_remaindersWithUnmetPair wsX2_remaindersWithUnmetPair) := goodIn_app (goodIn_of _ (by decide +kernel)) ggX3_fewestRounds_X2_remaindersWithUnmetPair
set_option maxRecDepth 20000 in
theorem ggX3_fewestRounds_X2_roundsByTrying : GoodIn wsX3_fewestRounds wsX2_roundsByTrying := goodIn_r _ [37, 22, 23, 24, 6, 25, 26, 27, 28, 29, 30, 31, 32, 13, 33, 16, 17, 18, 19, 20, 21, 38, 39, 40, 41, 42, 43, 44, 50, 51, 52, 53, 54, 55, 56, 57, 58, 59, 60, 61, 62] (by decide +kernel) (by decide +kernel)
set_option maxRecDepth 20000 in
theorem gX3_fewestRounds_X2_roundsByTrying : GoodIn wsX3_fewestRounds (wsV RX3 153 RX2 yX2_roundsByTrying wsX2_roundsByTrying) := goodIn_app (goodIn_of _ (by decide +kernel)) ggX3_fewestRounds_X2_roundsByTrying
theorem dX3_fewestRounds_0 : decode cX3_fewestRounds 0 = .ok (.iload_n 1, 1) := by decide +kernel
theorem dX3_fewestRounds_1 : decode cX3_fewestRounds 1 = .ok (.lookupswitch 43 #[(0, 27), (1, 35)], 27) := by decide +kernel
theorem dX3_fewestRounds_28 : decode cX3_fewestRounds 28 = .ok (.aload_n 0, 1) := by decide +kernel
theorem dX3_fewestRounds_29 : decode cX3_fewestRounds 29 = .ok (.getfield 12, 3) := by decide +kernel
theorem dX3_fewestRounds_32 : decode cX3_fewestRounds 32 = .ok (.invokevirtual 150, 3) := by decide +kernel
theorem dX3_fewestRounds_35 : decode cX3_fewestRounds 35 = .ok (.ireturn, 1) := by decide +kernel
theorem dX3_fewestRounds_36 : decode cX3_fewestRounds 36 = .ok (.aload_n 0, 1) := by decide +kernel
theorem dX3_fewestRounds_37 : decode cX3_fewestRounds 37 = .ok (.getfield 12, 3) := by decide +kernel
theorem dX3_fewestRounds_40 : decode cX3_fewestRounds 40 = .ok (.invokevirtual 153, 3) := by decide +kernel
theorem dX3_fewestRounds_43 : decode cX3_fewestRounds 43 = .ok (.ireturn, 1) := by decide +kernel
theorem dX3_fewestRounds_44 : decode cX3_fewestRounds 44 = .ok (.ldc 37, 2) := by decide +kernel
theorem dX3_fewestRounds_46 : decode cX3_fewestRounds 46 = .ok (.ireturn, 1) := by decide +kernel
set_option maxRecDepth 20000 in
theorem ggX3_untilAllMet_X2_copyFrom : GoodIn wsX3_untilAllMet wsX2_copyFrom := goodIn_r _ [9, 10, 11, 12, 13, 14, 15, 16, 17, 18, 19, 20, 21, 22, 23, 24, 8, 25, 26, 27, 28, 29, 30, 31, 32, 33, 106, 107, 108, 109, 110, 111, 112, 113, 114, 115, 116, 117, 118] (by decide +kernel) (by decide +kernel)
set_option maxRecDepth 20000 in
theorem gX3_untilAllMet_X2_copyFrom : GoodIn wsX3_untilAllMet (wsV RX3 156 RX2 yX2_copyFrom wsX2_copyFrom) := goodIn_app (goodIn_of _ (by decide +kernel)) ggX3_untilAllMet_X2_copyFrom
set_option maxRecDepth 20000 in
theorem ggX3_untilAllMet_X2_unmetPairs : GoodIn wsX3_untilAllMet wsX2_unmetPairs := goodIn_r _ [37, 38, 39, 40, 8, 41, 18, 42, 43, 44, 45, 11, 46, 47, 48, 106, 107, 108, 109, 110, 111, 112, 113, 114, 115, 116, 117, 118] (by decide +kernel) (by decide +kernel)
set_option maxRecDepth 20000 in
theorem gX3_untilAllMet_X2_unmetPairs : GoodIn wsX3_untilAllMet (wsV RX3 137 RX2 yX2_unmetPairs wsX2_unmetPairs) := goodIn_app (goodIn_of _ (by decide +kernel)) ggX3_untilAllMet_X2_unmetPairs
set_option maxRecDepth 20000 in
theorem ggX3_untilAllMet_X3_remainderOf : GoodIn wsX3_untilAllMet wsX3_remainderOf := goodIn_r _ [51, 52, 53, 54, 55] (by decide +kernel) (by decide +kernel)
set_option maxRecDepth 20000 in
theorem gX3_untilAllMet_X3_remainderOf : GoodIn wsX3_untilAllMet (va_wsS RX3 118 yX3_remainderOf wsX3_remainderOf) := goodIn_app (goodIn_of _ (by decide +kernel)) ggX3_untilAllMet_X3_remainderOf
set_option maxRecDepth 20000 in
theorem ggX3_untilAllMet_X2_wouldBring : GoodIn wsX3_untilAllMet wsX2_wouldBring := goodIn_r _ [59, 60, 47, 61, 49, 50, 51, 52, 53, 54, 55, 62, 63, 64, 8, 65, 11, 18, 66, 67, 68, 69, 12, 10, 42, 43, 44, 45, 70, 71, 72, 73, 74, 75, 76, 77, 78, 79, 80, 17, 46, 48, 106, 107, 108, 109, 110, 111, 112, 113, 114, 115, 116, 117, 118] (by decide +kernel) (by decide +kernel)
set_option maxRecDepth 20000 in
theorem gX3_untilAllMet_X2_wouldBring : GoodIn wsX3_untilAllMet (wsV RX3 147 RX2 yX2_wouldBring wsX2_wouldBring) := goodIn_app (goodIn_of _ (by decide +kernel)) ggX3_untilAllMet_X2_wouldBring
set_option maxRecDepth 20000 in
theorem ggX3_untilAllMet_X2_danceRound : GoodIn wsX3_untilAllMet wsX2_danceRound := goodIn_r _ [84, 20, 22, 21, 60, 47, 61, 49, 50, 51, 52, 53, 54, 55, 85, 86, 87, 8, 88, 15, 12, 10, 26, 27, 28, 29, 42, 43, 44, 45, 11, 66, 67, 68, 69, 89, 90, 91, 92, 18, 19, 77, 78, 79, 80, 17, 46, 48, 93, 94, 95, 96, 13, 14, 97, 98, 99, 100, 16, 106, 107, 108, 109, 110, 111, 112, 113, 114, 115, 116, 117, 118] (by decide +kernel) (by decide +kernel)
set_option maxRecDepth 20000 in
theorem gX3_untilAllMet_X2_danceRound : GoodIn wsX3_untilAllMet (wsV RX3 79 RX2 yX2_danceRound wsX2_danceRound) := goodIn_app (goodIn_of _ (by decide +kernel)) ggX3_untilAllMet_X2_danceRound
theorem dX3_untilAllMet_0 : decode cX3_untilAllMet 0 = .ok (.aload_n 0, 1) := by decide +kernel
theorem dX3_untilAllMet_1 : decode cX3_untilAllMet 1 = .ok (.getfield 16, 3) := by decide +kernel
theorem dX3_untilAllMet_4 : decode cX3_untilAllMet 4 = .ok (.aload_n 0, 1) := by decide +kernel
theorem dX3_untilAllMet_5 : decode cX3_untilAllMet 5 = .ok (.getfield 12, 3) := by decide +kernel
theorem dX3_untilAllMet_8 : decode cX3_untilAllMet 8 = .ok (.invokevirtual 156, 3) := by decide +kernel
theorem dX3_untilAllMet_11 : decode cX3_untilAllMet 11 = .ok (.aload_n 0, 1) := by decide +kernel
theorem dX3_untilAllMet_12 : decode cX3_untilAllMet 12 = .ok (.getfield 16, 3) := by decide +kernel
theorem dX3_untilAllMet_15 : decode cX3_untilAllMet 15 = .ok (.invokevirtual 137, 3) := by decide +kernel
theorem dX3_untilAllMet_18 : decode cX3_untilAllMet 18 = .ok (.istore_n 1, 1) := by decide +kernel
theorem dX3_untilAllMet_19 : decode cX3_untilAllMet 19 = .ok (.iconst 0, 1) := by decide +kernel
theorem dX3_untilAllMet_20 : decode cX3_untilAllMet 20 = .ok (.istore_n 2, 1) := by decide +kernel
theorem dX3_untilAllMet_21 : decode cX3_untilAllMet 21 = .ok (.iload_n 2, 1) := by decide +kernel
theorem dX3_untilAllMet_22 : decode cX3_untilAllMet 22 = .ok (.sipush 500, 3) := by decide +kernel
theorem dX3_untilAllMet_25 : decode cX3_untilAllMet 25 = .ok (.if_icmp .ge 39, 3) := by decide +kernel
theorem dX3_untilAllMet_28 : decode cX3_untilAllMet 28 = .ok (.iload_n 1, 1) := by decide +kernel
theorem dX3_untilAllMet_29 : decode cX3_untilAllMet 29 = .ok (.ifCond .le 35, 3) := by decide +kernel
theorem dX3_untilAllMet_32 : decode cX3_untilAllMet 32 = .ok (.iload_n 2, 1) := by decide +kernel
theorem dX3_untilAllMet_33 : decode cX3_untilAllMet 33 = .ok (.invokestatic 118, 3) := by decide +kernel
theorem dX3_untilAllMet_36 : decode cX3_untilAllMet 36 = .ok (.istore_n 3, 1) := by decide +kernel
theorem dX3_untilAllMet_37 : decode cX3_untilAllMet 37 = .ok (.iload_n 1, 1) := by decide +kernel
theorem dX3_untilAllMet_38 : decode cX3_untilAllMet 38 = .ok (.aload_n 0, 1) := by decide +kernel
theorem dX3_untilAllMet_39 : decode cX3_untilAllMet 39 = .ok (.getfield 16, 3) := by decide +kernel
theorem dX3_untilAllMet_42 : decode cX3_untilAllMet 42 = .ok (.iload_n 3, 1) := by decide +kernel
theorem dX3_untilAllMet_43 : decode cX3_untilAllMet 43 = .ok (.iconst 3, 1) := by decide +kernel
theorem dX3_untilAllMet_44 : decode cX3_untilAllMet 44 = .ok (.invokevirtual 147, 3) := by decide +kernel
theorem dX3_untilAllMet_47 : decode cX3_untilAllMet 47 = .ok (.isub, 1) := by decide +kernel
theorem dX3_untilAllMet_48 : decode cX3_untilAllMet 48 = .ok (.istore_n 1, 1) := by decide +kernel
theorem dX3_untilAllMet_49 : decode cX3_untilAllMet 49 = .ok (.aload_n 0, 1) := by decide +kernel
theorem dX3_untilAllMet_50 : decode cX3_untilAllMet 50 = .ok (.getfield 16, 3) := by decide +kernel
theorem dX3_untilAllMet_53 : decode cX3_untilAllMet 53 = .ok (.iload_n 3, 1) := by decide +kernel
theorem dX3_untilAllMet_54 : decode cX3_untilAllMet 54 = .ok (.invokevirtual 79, 3) := by decide +kernel
theorem dX3_untilAllMet_57 : decode cX3_untilAllMet 57 = .ok (.pop, 1) := by decide +kernel
theorem dX3_untilAllMet_58 : decode cX3_untilAllMet 58 = .ok (.iinc 2 1, 3) := by decide +kernel
theorem dX3_untilAllMet_61 : decode cX3_untilAllMet 61 = .ok (.goto (-40), 3) := by decide +kernel
theorem dX3_untilAllMet_64 : decode cX3_untilAllMet 64 = .ok (.iload_n 1, 1) := by decide +kernel
theorem dX3_untilAllMet_65 : decode cX3_untilAllMet 65 = .ok (.ifCond .le 8, 3) := by decide +kernel
theorem dX3_untilAllMet_68 : decode cX3_untilAllMet 68 = .ok (.ldc 86, 2) := by decide +kernel
theorem dX3_untilAllMet_70 : decode cX3_untilAllMet 70 = .ok (.goto 18, 3) := by decide +kernel
theorem dX3_untilAllMet_73 : decode cX3_untilAllMet 73 = .ok (.aload_n 0, 1) := by decide +kernel
theorem dX3_untilAllMet_74 : decode cX3_untilAllMet 74 = .ok (.getfield 16, 3) := by decide +kernel
theorem dX3_untilAllMet_77 : decode cX3_untilAllMet 77 = .ok (.getfield 75, 3) := by decide +kernel
theorem dX3_untilAllMet_80 : decode cX3_untilAllMet 80 = .ok (.aload_n 0, 1) := by decide +kernel
theorem dX3_untilAllMet_81 : decode cX3_untilAllMet 81 = .ok (.getfield 12, 3) := by decide +kernel
theorem dX3_untilAllMet_84 : decode cX3_untilAllMet 84 = .ok (.getfield 75, 3) := by decide +kernel
theorem dX3_untilAllMet_87 : decode cX3_untilAllMet 87 = .ok (.isub, 1) := by decide +kernel
theorem dX3_untilAllMet_88 : decode cX3_untilAllMet 88 = .ok (.ireturn, 1) := by decide +kernel
set_option maxRecDepth 20000 in
theorem ggX3_put_X3_charactersIn : GoodIn wsX3_put wsX3_charactersIn := goodIn_r _ [8, 9, 10, 11] (by decide +kernel) (by decide +kernel)
set_option maxRecDepth 20000 in
theorem gX3_put_X3_charactersIn : GoodIn wsX3_put (va_wsS RX3 159 yX3_charactersIn wsX3_charactersIn) := goodIn_app (goodIn_of _ (by decide +kernel)) ggX3_put_X3_charactersIn
set_option maxRecDepth 20000 in
theorem ggX3_put_X1_append : GoodIn wsX3_put wsX1_append := goodIn_r _ [16, 17, 18, 19, 25, 26] (by decide +kernel) (by decide +kernel)
set_option maxRecDepth 20000 in
theorem gX3_put_X1_append : GoodIn wsX3_put (wsV RX3 163 RX1 yX1_append wsX1_append) := goodIn_app (goodIn_of _ (by decide +kernel)) ggX3_put_X1_append
theorem dX3_put_0 : decode cX3_put 0 = .ok (.lload_n 1, 1) := by decide +kernel
theorem dX3_put_1 : decode cX3_put 1 = .ok (.invokestatic 159, 3) := by decide +kernel
theorem dX3_put_4 : decode cX3_put 4 = .ok (.istore_n 3, 1) := by decide +kernel
theorem dX3_put_5 : decode cX3_put 5 = .ok (.iload_n 3, 1) := by decide +kernel
theorem dX3_put_6 : decode cX3_put 6 = .ok (.ifCond .ne 6, 3) := by decide +kernel
theorem dX3_put_9 : decode cX3_put 9 = .ok (.ldc 37, 2) := by decide +kernel
theorem dX3_put_11 : decode cX3_put 11 = .ok (.ireturn, 1) := by decide +kernel
theorem dX3_put_12 : decode cX3_put 12 = .ok (.aload_n 0, 1) := by decide +kernel
theorem dX3_put_13 : decode cX3_put 13 = .ok (.getfield 22, 3) := by decide +kernel
theorem dX3_put_16 : decode cX3_put 16 = .ok (.getfield 143, 3) := by decide +kernel
theorem dX3_put_19 : decode cX3_put 19 = .ok (.iload_n 3, 1) := by decide +kernel
theorem dX3_put_20 : decode cX3_put 20 = .ok (.iadd, 1) := by decide +kernel
theorem dX3_put_21 : decode cX3_put 21 = .ok (.bipush 60, 2) := by decide +kernel
theorem dX3_put_23 : decode cX3_put 23 = .ok (.if_icmp .le 6, 3) := by decide +kernel
theorem dX3_put_26 : decode cX3_put 26 = .ok (.ldc 78, 2) := by decide +kernel
theorem dX3_put_28 : decode cX3_put 28 = .ok (.ireturn, 1) := by decide +kernel
theorem dX3_put_29 : decode cX3_put 29 = .ok (.aload_n 0, 1) := by decide +kernel
theorem dX3_put_30 : decode cX3_put 30 = .ok (.getfield 22, 3) := by decide +kernel
theorem dX3_put_33 : decode cX3_put 33 = .ok (.lload_n 1, 1) := by decide +kernel
theorem dX3_put_34 : decode cX3_put 34 = .ok (.iload_n 3, 1) := by decide +kernel
theorem dX3_put_35 : decode cX3_put 35 = .ok (.invokevirtual 163, 3) := by decide +kernel
theorem dX3_put_38 : decode cX3_put 38 = .ok (.aload_n 0, 1) := by decide +kernel
theorem dX3_put_39 : decode cX3_put 39 = .ok (.getfield 22, 3) := by decide +kernel
theorem dX3_put_42 : decode cX3_put 42 = .ok (.getfield 143, 3) := by decide +kernel
theorem dX3_put_45 : decode cX3_put 45 = .ok (.ireturn, 1) := by decide +kernel
set_option maxRecDepth 20000 in
theorem ggX3_wipe_X1_empty : GoodIn wsX3_wipe wsX1_empty := goodIn_r _ [6, 7, 13, 14] (by decide +kernel) (by decide +kernel)
set_option maxRecDepth 20000 in
theorem gX3_wipe_X1_empty : GoodIn wsX3_wipe (wsV RX3 94 RX1 yX1_empty wsX1_empty) := goodIn_app (goodIn_of _ (by decide +kernel)) ggX3_wipe_X1_empty
theorem dX3_wipe_0 : decode cX3_wipe 0 = .ok (.aload_n 0, 1) := by decide +kernel
theorem dX3_wipe_1 : decode cX3_wipe 1 = .ok (.getfield 22, 3) := by decide +kernel
theorem dX3_wipe_4 : decode cX3_wipe 4 = .ok (.invokevirtual 94, 3) := by decide +kernel
theorem dX3_wipe_7 : decode cX3_wipe 7 = .ok (.ireturn, 1) := by decide +kernel
set_option maxRecDepth 20000 in
theorem ggX3_fault_X1_firstFault : GoodIn wsX3_fault wsX1_firstFault := goodIn_r _ [6, 7, 8, 9, 10, 11, 5, 12, 13, 14, 15, 21, 22] (by decide +kernel) (by decide +kernel)
set_option maxRecDepth 20000 in
theorem gX3_fault_X1_firstFault : GoodIn wsX3_fault (wsV RX3 82 RX1 yX1_firstFault wsX1_firstFault) := goodIn_app (goodIn_of _ (by decide +kernel)) ggX3_fault_X1_firstFault
theorem dX3_fault_0 : decode cX3_fault 0 = .ok (.aload_n 0, 1) := by decide +kernel
theorem dX3_fault_1 : decode cX3_fault 1 = .ok (.getfield 22, 3) := by decide +kernel
theorem dX3_fault_4 : decode cX3_fault 4 = .ok (.invokevirtual 82, 3) := by decide +kernel
theorem dX3_fault_7 : decode cX3_fault 7 = .ok (.ireturn, 1) := by decide +kernel
set_option maxRecDepth 20000 in
theorem ggX3_undo_X0_takeBackInto : GoodIn wsX3_undo wsX0_takeBackInto := goodIn_r _ [9, 10, 11, 12, 13, 14, 15, 16, 17, 18, 19, 20, 21, 22, 23, 24, 25, 26, 27, 28, 29, 30, 31, 32, 33, 34, 35, 36, 37, 38, 39, 40, 46, 47, 48, 49, 50, 51, 52, 53, 54, 55, 56, 57, 58, 59, 60] (by decide +kernel) (by decide +kernel)
set_option maxRecDepth 20000 in
theorem gX3_undo_X0_takeBackInto : GoodIn wsX3_undo (wsV RX3 167 RX0 yX0_takeBackInto wsX0_takeBackInto) := goodIn_app (goodIn_of _ (by decide +kernel)) ggX3_undo_X0_takeBackInto
theorem dX3_undo_0 : decode cX3_undo 0 = .ok (.aload_n 0, 1) := by decide +kernel
theorem dX3_undo_1 : decode cX3_undo 1 = .ok (.getfield 29, 3) := by decide +kernel
theorem dX3_undo_4 : decode cX3_undo 4 = .ok (.getfield 146, 3) := by decide +kernel
theorem dX3_undo_7 : decode cX3_undo 7 = .ok (.ifCond .ne 6, 3) := by decide +kernel
theorem dX3_undo_10 : decode cX3_undo 10 = .ok (.ldc 61, 2) := by decide +kernel
theorem dX3_undo_12 : decode cX3_undo 12 = .ok (.ireturn, 1) := by decide +kernel
theorem dX3_undo_13 : decode cX3_undo 13 = .ok (.aload_n 0, 1) := by decide +kernel
theorem dX3_undo_14 : decode cX3_undo 14 = .ok (.getfield 29, 3) := by decide +kernel
theorem dX3_undo_17 : decode cX3_undo 17 = .ok (.aload_n 0, 1) := by decide +kernel
theorem dX3_undo_18 : decode cX3_undo 18 = .ok (.getfield 12, 3) := by decide +kernel
theorem dX3_undo_21 : decode cX3_undo 21 = .ok (.invokevirtual 167, 3) := by decide +kernel
theorem dX3_undo_24 : decode cX3_undo 24 = .ok (.aload_n 0, 1) := by decide +kernel
theorem dX3_undo_25 : decode cX3_undo 25 = .ok (.getfield 29, 3) := by decide +kernel
theorem dX3_undo_28 : decode cX3_undo 28 = .ok (.getfield 146, 3) := by decide +kernel
theorem dX3_undo_31 : decode cX3_undo 31 = .ok (.ireturn, 1) := by decide +kernel
set_option maxRecDepth 20000 in
theorem ggX3_save_X3_isSlot : GoodIn wsX3_save wsX3_isSlot := goodIn_r _ [11] (by decide +kernel) (by decide +kernel)
set_option maxRecDepth 20000 in
theorem gX3_save_X3_isSlot : GoodIn wsX3_save (va_wsS RX3 170 yX3_isSlot wsX3_isSlot) := goodIn_app (goodIn_of _ (by decide +kernel)) ggX3_save_X3_isSlot
set_option maxRecDepth 20000 in
theorem ggX3_save_X2_init : GoodIn wsX3_save wsX2_init := goodIn_r _ [14, 15, 16, 17, 18, 19, 20, 21, 22, 23, 24, 25, 26, 27, 28, 29, 30, 31, 32, 33, 34, 35, 36, 57, 58, 59, 60, 61, 62, 63, 64, 65, 66, 67, 68, 69] (by decide +kernel) (by decide +kernel)
set_option maxRecDepth 20000 in
theorem gX3_save_X2_init : GoodIn wsX3_save (wsX2_init) := ggX3_save_X2_init
set_option maxRecDepth 20000 in
theorem ggX3_save_X2_copyFrom : GoodIn wsX3_save wsX2_copyFrom := goodIn_r _ [40, 19, 20, 21, 22, 23, 24, 25, 26, 27, 28, 29, 30, 32, 41, 42, 5, 43, 44, 45, 46, 47, 48, 49, 50, 51, 57, 58, 59, 60, 61, 62, 63, 64, 65, 66, 67, 68, 69] (by decide +kernel) (by decide +kernel)
set_option maxRecDepth 20000 in
theorem gX3_save_X2_copyFrom : GoodIn wsX3_save (wsV RX3 156 RX2 yX2_copyFrom wsX2_copyFrom) := goodIn_app (goodIn_of _ (by decide +kernel)) ggX3_save_X2_copyFrom
theorem dX3_save_0 : decode cX3_save 0 = .ok (.iload_n 1, 1) := by decide +kernel
theorem dX3_save_1 : decode cX3_save 1 = .ok (.invokestatic 170, 3) := by decide +kernel
theorem dX3_save_4 : decode cX3_save 4 = .ok (.ifCond .ne 6, 3) := by decide +kernel
theorem dX3_save_7 : decode cX3_save 7 = .ok (.ldc 37, 2) := by decide +kernel
theorem dX3_save_9 : decode cX3_save 9 = .ok (.ireturn, 1) := by decide +kernel
theorem dX3_save_10 : decode cX3_save 10 = .ok (.aload_n 0, 1) := by decide +kernel
theorem dX3_save_11 : decode cX3_save 11 = .ok (.getfield 33, 3) := by decide +kernel
theorem dX3_save_14 : decode cX3_save 14 = .ok (.iload_n 1, 1) := by decide +kernel
theorem dX3_save_15 : decode cX3_save 15 = .ok (.aaload, 1) := by decide +kernel
theorem dX3_save_16 : decode cX3_save 16 = .ok (.astore_n 2, 1) := by decide +kernel
theorem dX3_save_17 : decode cX3_save 17 = .ok (.aload_n 2, 1) := by decide +kernel
theorem dX3_save_18 : decode cX3_save 18 = .ok (.ifnonnull 18, 3) := by decide +kernel
theorem dX3_save_21 : decode cX3_save 21 = .ok (.new 9, 3) := by decide +kernel
theorem dX3_save_24 : decode cX3_save 24 = .ok (.dup, 1) := by decide +kernel
theorem dX3_save_25 : decode cX3_save 25 = .ok (.invokespecial 11, 3) := by decide +kernel
theorem dX3_save_28 : decode cX3_save 28 = .ok (.astore_n 2, 1) := by decide +kernel
theorem dX3_save_29 : decode cX3_save 29 = .ok (.aload_n 0, 1) := by decide +kernel
theorem dX3_save_30 : decode cX3_save 30 = .ok (.getfield 33, 3) := by decide +kernel
theorem dX3_save_33 : decode cX3_save 33 = .ok (.iload_n 1, 1) := by decide +kernel
theorem dX3_save_34 : decode cX3_save 34 = .ok (.aload_n 2, 1) := by decide +kernel
theorem dX3_save_35 : decode cX3_save 35 = .ok (.aastore, 1) := by decide +kernel
theorem dX3_save_36 : decode cX3_save 36 = .ok (.aload_n 2, 1) := by decide +kernel
theorem dX3_save_37 : decode cX3_save 37 = .ok (.aload_n 0, 1) := by decide +kernel
theorem dX3_save_38 : decode cX3_save 38 = .ok (.getfield 12, 3) := by decide +kernel
theorem dX3_save_41 : decode cX3_save 41 = .ok (.invokevirtual 156, 3) := by decide +kernel
theorem dX3_save_44 : decode cX3_save 44 = .ok (.aload_n 0, 1) := by decide +kernel
theorem dX3_save_45 : decode cX3_save 45 = .ok (.getfield 12, 3) := by decide +kernel
theorem dX3_save_48 : decode cX3_save 48 = .ok (.getfield 75, 3) := by decide +kernel
theorem dX3_save_51 : decode cX3_save 51 = .ok (.ireturn, 1) := by decide +kernel
set_option maxRecDepth 20000 in
theorem ggX3_restore_X3_isSlot : GoodIn wsX3_restore wsX3_isSlot := goodIn_r _ [10] (by decide +kernel) (by decide +kernel)
set_option maxRecDepth 20000 in
theorem gX3_restore_X3_isSlot : GoodIn wsX3_restore (va_wsS RX3 170 yX3_isSlot wsX3_isSlot) := goodIn_app (goodIn_of _ (by decide +kernel)) ggX3_restore_X3_isSlot
set_option maxRecDepth 20000 in
theorem ggX3_restore_X0_remember : GoodIn wsX3_restore wsX0_remember := goodIn_r _ [15, 16, 17, 18, 19, 20, 14, 21, 22, 23, 24, 25, 26, 27, 28, 29, 30, 31, 32, 33, 34, 35, 36, 37, 38, 39, 40, 41, 42, 43, 44, 45, 46, 47, 48, 49, 50, 70, 71, 57, 58, 59, 60, 61, 62, 63, 64, 65, 66, 67, 68, 69] (by decide +kernel) (by decide +kernel)
set_option maxRecDepth 20000 in
theorem gX3_restore_X0_remember : GoodIn wsX3_restore (wsV RX3 38 RX0 yX0_remember wsX0_remember) := goodIn_app (goodIn_of _ (by decide +kernel)) ggX3_restore_X0_remember
set_option maxRecDepth 20000 in
theorem ggX3_restore_X2_copyFrom : GoodIn wsX3_restore wsX2_copyFrom := goodIn_r _ [26, 27, 28, 29, 30, 31, 32, 33, 34, 35, 36, 37, 38, 39, 40, 41, 25, 42, 43, 44, 45, 46, 47, 48, 49, 50, 57, 58, 59, 60, 61, 62, 63, 64, 65, 66, 67, 68, 69] (by decide +kernel) (by decide +kernel)
set_option maxRecDepth 20000 in
theorem gX3_restore_X2_copyFrom : GoodIn wsX3_restore (wsV RX3 156 RX2 yX2_copyFrom wsX2_copyFrom) := goodIn_app (goodIn_of _ (by decide +kernel)) ggX3_restore_X2_copyFrom
theorem dX3_restore_0 : decode cX3_restore 0 = .ok (.iload_n 1, 1) := by decide +kernel
theorem dX3_restore_1 : decode cX3_restore 1 = .ok (.invokestatic 170, 3) := by decide +kernel
theorem dX3_restore_4 : decode cX3_restore 4 = .ok (.ifCond .ne 6, 3) := by decide +kernel
theorem dX3_restore_7 : decode cX3_restore 7 = .ok (.ldc 37, 2) := by decide +kernel
theorem dX3_restore_9 : decode cX3_restore 9 = .ok (.ireturn, 1) := by decide +kernel
theorem dX3_restore_10 : decode cX3_restore 10 = .ok (.aload_n 0, 1) := by decide +kernel
theorem dX3_restore_11 : decode cX3_restore 11 = .ok (.getfield 33, 3) := by decide +kernel
theorem dX3_restore_14 : decode cX3_restore 14 = .ok (.iload_n 1, 1) := by decide +kernel
theorem dX3_restore_15 : decode cX3_restore 15 = .ok (.aaload, 1) := by decide +kernel
theorem dX3_restore_16 : decode cX3_restore 16 = .ok (.astore_n 2, 1) := by decide +kernel
theorem dX3_restore_17 : decode cX3_restore 17 = .ok (.aload_n 2, 1) := by decide +kernel
theorem dX3_restore_18 : decode cX3_restore 18 = .ok (.ifnonnull 6, 3) := by decide +kernel
theorem dX3_restore_21 : decode cX3_restore 21 = .ok (.ldc 61, 2) := by decide +kernel
theorem dX3_restore_23 : decode cX3_restore 23 = .ok (.ireturn, 1) := by decide +kernel
theorem dX3_restore_24 : decode cX3_restore 24 = .ok (.aload_n 0, 1) := by decide +kernel
theorem dX3_restore_25 : decode cX3_restore 25 = .ok (.getfield 29, 3) := by decide +kernel
theorem dX3_restore_28 : decode cX3_restore 28 = .ok (.aload_n 0, 1) := by decide +kernel
theorem dX3_restore_29 : decode cX3_restore 29 = .ok (.getfield 12, 3) := by decide +kernel
theorem dX3_restore_32 : decode cX3_restore 32 = .ok (.invokevirtual 38, 3) := by decide +kernel
theorem dX3_restore_35 : decode cX3_restore 35 = .ok (.aload_n 0, 1) := by decide +kernel
theorem dX3_restore_36 : decode cX3_restore 36 = .ok (.getfield 12, 3) := by decide +kernel
theorem dX3_restore_39 : decode cX3_restore 39 = .ok (.aload_n 2, 1) := by decide +kernel
theorem dX3_restore_40 : decode cX3_restore 40 = .ok (.invokevirtual 156, 3) := by decide +kernel
theorem dX3_restore_43 : decode cX3_restore 43 = .ok (.aload_n 0, 1) := by decide +kernel
theorem dX3_restore_44 : decode cX3_restore 44 = .ok (.getfield 12, 3) := by decide +kernel
theorem dX3_restore_47 : decode cX3_restore 47 = .ok (.getfield 75, 3) := by decide +kernel
theorem dX3_restore_50 : decode cX3_restore 50 = .ok (.ireturn, 1) := by decide +kernel
theorem dX3_isVillager_0 : decode cX3_isVillager 0 = .ok (.iload_n 0, 1) := by decide +kernel
theorem dX3_isVillager_1 : decode cX3_isVillager 1 = .ok (.ifCond .lt 13, 3) := by decide +kernel
theorem dX3_isVillager_4 : decode cX3_isVillager 4 = .ok (.iload_n 0, 1) := by decide +kernel
theorem dX3_isVillager_5 : decode cX3_isVillager 5 = .ok (.bipush 9, 2) := by decide +kernel
theorem dX3_isVillager_7 : decode cX3_isVillager 7 = .ok (.if_icmp .ge 7, 3) := by decide +kernel
theorem dX3_isVillager_10 : decode cX3_isVillager 10 = .ok (.iconst 1, 1) := by decide +kernel
theorem dX3_isVillager_11 : decode cX3_isVillager 11 = .ok (.goto 4, 3) := by decide +kernel
theorem dX3_isVillager_14 : decode cX3_isVillager 14 = .ok (.iconst 0, 1) := by decide +kernel
theorem dX3_isVillager_15 : decode cX3_isVillager 15 = .ok (.ireturn, 1) := by decide +kernel
theorem dX3_isNumber_0 : decode cX3_isNumber 0 = .ok (.iload_n 0, 1) := by decide +kernel
theorem dX3_isNumber_1 : decode cX3_isNumber 1 = .ok (.ifCond .lt 14, 3) := by decide +kernel
theorem dX3_isNumber_4 : decode cX3_isNumber 4 = .ok (.iload_n 0, 1) := by decide +kernel
theorem dX3_isNumber_5 : decode cX3_isNumber 5 = .ok (.sipush 999, 3) := by decide +kernel
theorem dX3_isNumber_8 : decode cX3_isNumber 8 = .ok (.if_icmp .gt 7, 3) := by decide +kernel
theorem dX3_isNumber_11 : decode cX3_isNumber 11 = .ok (.iconst 1, 1) := by decide +kernel
theorem dX3_isNumber_12 : decode cX3_isNumber 12 = .ok (.goto 4, 3) := by decide +kernel
theorem dX3_isNumber_15 : decode cX3_isNumber 15 = .ok (.iconst 0, 1) := by decide +kernel
theorem dX3_isNumber_16 : decode cX3_isNumber 16 = .ok (.ireturn, 1) := by decide +kernel
theorem dX3_isSlot_0 : decode cX3_isSlot 0 = .ok (.iload_n 0, 1) := by decide +kernel
theorem dX3_isSlot_1 : decode cX3_isSlot 1 = .ok (.ifCond .lt 12, 3) := by decide +kernel
theorem dX3_isSlot_4 : decode cX3_isSlot 4 = .ok (.iload_n 0, 1) := by decide +kernel
theorem dX3_isSlot_5 : decode cX3_isSlot 5 = .ok (.iconst 2, 1) := by decide +kernel
theorem dX3_isSlot_6 : decode cX3_isSlot 6 = .ok (.if_icmp .ge 7, 3) := by decide +kernel
theorem dX3_isSlot_9 : decode cX3_isSlot 9 = .ok (.iconst 1, 1) := by decide +kernel
theorem dX3_isSlot_10 : decode cX3_isSlot 10 = .ok (.goto 4, 3) := by decide +kernel
theorem dX3_isSlot_13 : decode cX3_isSlot 13 = .ok (.iconst 0, 1) := by decide +kernel
theorem dX3_isSlot_14 : decode cX3_isSlot 14 = .ok (.ireturn, 1) := by decide +kernel
theorem dX3_pairIndex_0 : decode cX3_pairIndex 0 = .ok (.iload_n 0, 1) := by decide +kernel
theorem dX3_pairIndex_1 : decode cX3_pairIndex 1 = .ok (.iload_n 1, 1) := by decide +kernel
theorem dX3_pairIndex_2 : decode cX3_pairIndex 2 = .ok (.if_icmp .ge 12, 3) := by decide +kernel
theorem dX3_pairIndex_5 : decode cX3_pairIndex 5 = .ok (.iload_n 0, 1) := by decide +kernel
theorem dX3_pairIndex_6 : decode cX3_pairIndex 6 = .ok (.bipush 9, 2) := by decide +kernel
theorem dX3_pairIndex_8 : decode cX3_pairIndex 8 = .ok (.imul, 1) := by decide +kernel
theorem dX3_pairIndex_9 : decode cX3_pairIndex 9 = .ok (.iload_n 1, 1) := by decide +kernel
theorem dX3_pairIndex_10 : decode cX3_pairIndex 10 = .ok (.iadd, 1) := by decide +kernel
theorem dX3_pairIndex_11 : decode cX3_pairIndex 11 = .ok (.goto 9, 3) := by decide +kernel
theorem dX3_pairIndex_14 : decode cX3_pairIndex 14 = .ok (.iload_n 1, 1) := by decide +kernel
theorem dX3_pairIndex_15 : decode cX3_pairIndex 15 = .ok (.bipush 9, 2) := by decide +kernel
theorem dX3_pairIndex_17 : decode cX3_pairIndex 17 = .ok (.imul, 1) := by decide +kernel
theorem dX3_pairIndex_18 : decode cX3_pairIndex 18 = .ok (.iload_n 0, 1) := by decide +kernel
theorem dX3_pairIndex_19 : decode cX3_pairIndex 19 = .ok (.iadd, 1) := by decide +kernel
theorem dX3_pairIndex_20 : decode cX3_pairIndex 20 = .ok (.ireturn, 1) := by decide +kernel
set_option maxRecDepth 20000 in
theorem ggX3_counterpart_X3_remainderOf : GoodIn wsX3_counterpart wsX3_remainderOf := goodIn_r _ [4, 5, 6, 7, 8] (by decide +kernel) (by decide +kernel)
set_option maxRecDepth 20000 in
theorem gX3_counterpart_X3_remainderOf : GoodIn wsX3_counterpart (va_wsS RX3 118 yX3_remainderOf wsX3_remainderOf) := goodIn_app (goodIn_of _ (by decide +kernel)) ggX3_counterpart_X3_remainderOf
theorem dX3_counterpart_0 : decode cX3_counterpart 0 = .ok (.iload_n 1, 1) := by decide +kernel
theorem dX3_counterpart_1 : decode cX3_counterpart 1 = .ok (.iload_n 0, 1) := by decide +kernel
theorem dX3_counterpart_2 : decode cX3_counterpart 2 = .ok (.isub, 1) := by decide +kernel
theorem dX3_counterpart_3 : decode cX3_counterpart 3 = .ok (.invokestatic 118, 3) := by decide +kernel
theorem dX3_counterpart_6 : decode cX3_counterpart 6 = .ok (.ireturn, 1) := by decide +kernel
set_option maxRecDepth 20000 in
theorem ggX3_remainderOf_J9_floorMod_7cf53 : GoodIn wsX3_remainderOf wsJ9_floorMod_7cf53 := goodIn_r _ [4] (by decide +kernel) (by decide +kernel)
set_option maxRecDepth 20000 in
theorem gX3_remainderOf_J9_floorMod_7cf53 : GoodIn wsX3_remainderOf (va_wsS RX3 173 yJ9_floorMod_7cf53 wsJ9_floorMod_7cf53) := goodIn_app (goodIn_of _ (by decide +kernel)) ggX3_remainderOf_J9_floorMod_7cf53
theorem dX3_remainderOf_0 : decode cX3_remainderOf 0 = .ok (.iload_n 0, 1) := by decide +kernel
theorem dX3_remainderOf_1 : decode cX3_remainderOf 1 = .ok (.bipush 9, 2) := by decide +kernel
theorem dX3_remainderOf_3 : decode cX3_remainderOf 3 = .ok (.invokestatic 173, 3) := by decide +kernel
theorem dX3_remainderOf_6 : decode cX3_remainderOf 6 = .ok (.ireturn, 1) := by decide +kernel
theorem dX3_sumOf_0 : decode cX3_sumOf 0 = .ok (.iconst 0, 1) := by decide +kernel
theorem dX3_sumOf_1 : decode cX3_sumOf 1 = .ok (.istore_n 1, 1) := by decide +kernel
theorem dX3_sumOf_2 : decode cX3_sumOf 2 = .ok (.aload_n 0, 1) := by decide +kernel
theorem dX3_sumOf_3 : decode cX3_sumOf 3 = .ok (.astore_n 2, 1) := by decide +kernel
theorem dX3_sumOf_4 : decode cX3_sumOf 4 = .ok (.aload_n 2, 1) := by decide +kernel
theorem dX3_sumOf_5 : decode cX3_sumOf 5 = .ok (.arraylength, 1) := by decide +kernel
theorem dX3_sumOf_6 : decode cX3_sumOf 6 = .ok (.istore_n 3, 1) := by decide +kernel
theorem dX3_sumOf_7 : decode cX3_sumOf 7 = .ok (.iconst 0, 1) := by decide +kernel
theorem dX3_sumOf_8 : decode cX3_sumOf 8 = .ok (.istore 4, 2) := by decide +kernel
theorem dX3_sumOf_10 : decode cX3_sumOf 10 = .ok (.iload 4, 2) := by decide +kernel
theorem dX3_sumOf_12 : decode cX3_sumOf 12 = .ok (.iload_n 3, 1) := by decide +kernel
theorem dX3_sumOf_13 : decode cX3_sumOf 13 = .ok (.if_icmp .ge 20, 3) := by decide +kernel
theorem dX3_sumOf_16 : decode cX3_sumOf 16 = .ok (.aload_n 2, 1) := by decide +kernel
theorem dX3_sumOf_17 : decode cX3_sumOf 17 = .ok (.iload 4, 2) := by decide +kernel
theorem dX3_sumOf_19 : decode cX3_sumOf 19 = .ok (.iaload, 1) := by decide +kernel
theorem dX3_sumOf_20 : decode cX3_sumOf 20 = .ok (.istore 5, 2) := by decide +kernel
theorem dX3_sumOf_22 : decode cX3_sumOf 22 = .ok (.iload_n 1, 1) := by decide +kernel
theorem dX3_sumOf_23 : decode cX3_sumOf 23 = .ok (.iload 5, 2) := by decide +kernel
theorem dX3_sumOf_25 : decode cX3_sumOf 25 = .ok (.iadd, 1) := by decide +kernel
theorem dX3_sumOf_26 : decode cX3_sumOf 26 = .ok (.istore_n 1, 1) := by decide +kernel
theorem dX3_sumOf_27 : decode cX3_sumOf 27 = .ok (.iinc 4 1, 3) := by decide +kernel
theorem dX3_sumOf_30 : decode cX3_sumOf 30 = .ok (.goto (-20), 3) := by decide +kernel
theorem dX3_sumOf_33 : decode cX3_sumOf 33 = .ok (.iload_n 1, 1) := by decide +kernel
theorem dX3_sumOf_34 : decode cX3_sumOf 34 = .ok (.ireturn, 1) := by decide +kernel
theorem dX3_charactersIn_0 : decode cX3_charactersIn 0 = .ok (.lload_n 0, 1) := by decide +kernel
theorem dX3_charactersIn_1 : decode cX3_charactersIn 1 = .ok (.lstore_n 2, 1) := by decide +kernel
theorem dX3_charactersIn_2 : decode cX3_charactersIn 2 = .ok (.iconst 0, 1) := by decide +kernel
theorem dX3_charactersIn_3 : decode cX3_charactersIn 3 = .ok (.istore 4, 2) := by decide +kernel
theorem dX3_charactersIn_5 : decode cX3_charactersIn 5 = .ok (.lload_n 2, 1) := by decide +kernel
theorem dX3_charactersIn_6 : decode cX3_charactersIn 6 = .ok (.lconst 0, 1) := by decide +kernel
theorem dX3_charactersIn_7 : decode cX3_charactersIn 7 = .ok (.lcmp, 1) := by decide +kernel
theorem dX3_charactersIn_8 : decode cX3_charactersIn 8 = .ok (.ifCond .eq 48, 3) := by decide +kernel
theorem dX3_charactersIn_11 : decode cX3_charactersIn 11 = .ok (.iload 4, 2) := by decide +kernel
theorem dX3_charactersIn_13 : decode cX3_charactersIn 13 = .ok (.bipush 8, 2) := by decide +kernel
theorem dX3_charactersIn_15 : decode cX3_charactersIn 15 = .ok (.if_icmp .ge 41, 3) := by decide +kernel
theorem dX3_charactersIn_18 : decode cX3_charactersIn 18 = .ok (.lload_n 2, 1) := by decide +kernel
theorem dX3_charactersIn_19 : decode cX3_charactersIn 19 = .ok (.ldc2_w 178, 3) := by decide +kernel
theorem dX3_charactersIn_22 : decode cX3_charactersIn 22 = .ok (.land, 1) := by decide +kernel
theorem dX3_charactersIn_23 : decode cX3_charactersIn 23 = .ok (.lstore 5, 2) := by decide +kernel
theorem dX3_charactersIn_25 : decode cX3_charactersIn 25 = .ok (.lload 5, 2) := by decide +kernel
theorem dX3_charactersIn_27 : decode cX3_charactersIn 27 = .ok (.ldc2_w 180, 3) := by decide +kernel
theorem dX3_charactersIn_30 : decode cX3_charactersIn 30 = .ok (.lcmp, 1) := by decide +kernel
theorem dX3_charactersIn_31 : decode cX3_charactersIn 31 = .ok (.ifCond .lt 12, 3) := by decide +kernel
theorem dX3_charactersIn_34 : decode cX3_charactersIn 34 = .ok (.lload 5, 2) := by decide +kernel
theorem dX3_charactersIn_36 : decode cX3_charactersIn 36 = .ok (.ldc2_w 182, 3) := by decide +kernel
theorem dX3_charactersIn_39 : decode cX3_charactersIn 39 = .ok (.lcmp, 1) := by decide +kernel
theorem dX3_charactersIn_40 : decode cX3_charactersIn 40 = .ok (.ifCond .le 5, 3) := by decide +kernel
theorem dX3_charactersIn_43 : decode cX3_charactersIn 43 = .ok (.iconst 0, 1) := by decide +kernel
theorem dX3_charactersIn_44 : decode cX3_charactersIn 44 = .ok (.ireturn, 1) := by decide +kernel
theorem dX3_charactersIn_45 : decode cX3_charactersIn 45 = .ok (.lload_n 2, 1) := by decide +kernel
theorem dX3_charactersIn_46 : decode cX3_charactersIn 46 = .ok (.bipush 8, 2) := by decide +kernel
theorem dX3_charactersIn_48 : decode cX3_charactersIn 48 = .ok (.lushr, 1) := by decide +kernel
theorem dX3_charactersIn_49 : decode cX3_charactersIn 49 = .ok (.lstore_n 2, 1) := by decide +kernel
theorem dX3_charactersIn_50 : decode cX3_charactersIn 50 = .ok (.iinc 4 1, 3) := by decide +kernel
theorem dX3_charactersIn_53 : decode cX3_charactersIn 53 = .ok (.goto (-48), 3) := by decide +kernel
theorem dX3_charactersIn_56 : decode cX3_charactersIn 56 = .ok (.iload 4, 2) := by decide +kernel
theorem dX3_charactersIn_58 : decode cX3_charactersIn 58 = .ok (.ireturn, 1) := by decide +kernel
set_option maxRecDepth 20000 in
theorem ggX3_tellNumbersOfPad_X1_startsCall : GoodIn wsX3_tellNumbersOfPad wsX1_startsCall := goodIn_r _ [7, 8, 97, 98] (by decide +kernel) (by decide +kernel)
set_option maxRecDepth 20000 in
theorem gX3_tellNumbersOfPad_X1_startsCall : GoodIn wsX3_tellNumbersOfPad (wsV RX3 184 RX1 yX1_startsCall wsX1_startsCall) := goodIn_app (goodIn_of _ (by decide +kernel)) ggX3_tellNumbersOfPad_X1_startsCall
set_option maxRecDepth 20000 in
theorem ggX3_tellNumbersOfPad_X1_numberAt : GoodIn wsX3_tellNumbersOfPad wsX1_numberAt := goodIn_r _ [12, 13, 8, 14, 15, 16, 6, 17, 18, 19, 20, 97, 98] (by decide +kernel) (by decide +kernel)
set_option maxRecDepth 20000 in
theorem gX3_tellNumbersOfPad_X1_numberAt : GoodIn wsX3_tellNumbersOfPad (wsV RX3 187 RX1 yX1_numberAt wsX1_numberAt) := goodIn_app (goodIn_of _ (by decide +kernel)) ggX3_tellNumbersOfPad_X1_numberAt
set_option maxRecDepth 20000 in
theorem ggX3_tellNumbersOfPad_X1_timesAt : GoodIn wsX3_tellNumbersOfPad wsX1_timesAt := goodIn_r _ [24, 8, 14, 15, 16, 6, 17, 13, 97, 98] (by decide +kernel) (by decide +kernel)
set_option maxRecDepth 20000 in
theorem gX3_tellNumbersOfPad_X1_timesAt : GoodIn wsX3_tellNumbersOfPad (wsV RX3 190 RX1 yX1_timesAt wsX1_timesAt) := goodIn_app (goodIn_of _ (by decide +kernel)) ggX3_tellNumbersOfPad_X1_timesAt
set_option maxRecDepth 20000 in
theorem ggX3_tellNumbersOfPad_X3_tell : GoodIn wsX3_tellNumbersOfPad wsX3_tell := goodIn_r _ [29, 30, 31, 32, 33, 34, 35, 36, 37, 38, 39, 28, 40, 41, 42, 43, 44, 45, 46, 47, 48, 49, 50, 51, 52, 53, 54, 55, 56, 57, 58, 59, 60, 61, 62, 63, 64, 65, 66, 67, 68, 69, 70, 71, 72, 73, 74, 75, 76, 77, 78, 79, 80, 81, 82, 83, 84, 85, 86, 87, 88, 89, 90, 91, 92, 93, 94, 95, 96, 99, 100, 101, 102, 103, 104, 105, 106, 107, 108, 109, 110, 111] (by decide +kernel) (by decide +kernel)
set_option maxRecDepth 20000 in
theorem gX3_tellNumbersOfPad_X3_tell : GoodIn wsX3_tellNumbersOfPad (wsV RX3 193 RX3 yX3_tell wsX3_tell) := goodIn_app (goodIn_of _ (by decide +kernel)) ggX3_tellNumbersOfPad_X3_tell
theorem dX3_tellNumbersOfPad_0 : decode cX3_tellNumbersOfPad 0 = .ok (.iconst 0, 1) := by decide +kernel
theorem dX3_tellNumbersOfPad_1 : decode cX3_tellNumbersOfPad 1 = .ok (.istore_n 1, 1) := by decide +kernel
theorem dX3_tellNumbersOfPad_2 : decode cX3_tellNumbersOfPad 2 = .ok (.iconst 0, 1) := by decide +kernel
theorem dX3_tellNumbersOfPad_3 : decode cX3_tellNumbersOfPad 3 = .ok (.istore_n 2, 1) := by decide +kernel
theorem dX3_tellNumbersOfPad_4 : decode cX3_tellNumbersOfPad 4 = .ok (.iload_n 2, 1) := by decide +kernel
theorem dX3_tellNumbersOfPad_5 : decode cX3_tellNumbersOfPad 5 = .ok (.aload_n 0, 1) := by decide +kernel
theorem dX3_tellNumbersOfPad_6 : decode cX3_tellNumbersOfPad 6 = .ok (.getfield 22, 3) := by decide +kernel
theorem dX3_tellNumbersOfPad_9 : decode cX3_tellNumbersOfPad 9 = .ok (.getfield 143, 3) := by decide +kernel
theorem dX3_tellNumbersOfPad_12 : decode cX3_tellNumbersOfPad 12 = .ok (.if_icmp .ge 43, 3) := by decide +kernel
theorem dX3_tellNumbersOfPad_15 : decode cX3_tellNumbersOfPad 15 = .ok (.aload_n 0, 1) := by decide +kernel
theorem dX3_tellNumbersOfPad_16 : decode cX3_tellNumbersOfPad 16 = .ok (.getfield 22, 3) := by decide +kernel
theorem dX3_tellNumbersOfPad_19 : decode cX3_tellNumbersOfPad 19 = .ok (.iload_n 2, 1) := by decide +kernel
theorem dX3_tellNumbersOfPad_20 : decode cX3_tellNumbersOfPad 20 = .ok (.invokevirtual 184, 3) := by decide +kernel
theorem dX3_tellNumbersOfPad_23 : decode cX3_tellNumbersOfPad 23 = .ok (.ifCond .eq 26, 3) := by decide +kernel
theorem dX3_tellNumbersOfPad_26 : decode cX3_tellNumbersOfPad 26 = .ok (.iload_n 1, 1) := by decide +kernel
theorem dX3_tellNumbersOfPad_27 : decode cX3_tellNumbersOfPad 27 = .ok (.aload_n 0, 1) := by decide +kernel
theorem dX3_tellNumbersOfPad_28 : decode cX3_tellNumbersOfPad 28 = .ok (.aload_n 0, 1) := by decide +kernel
theorem dX3_tellNumbersOfPad_29 : decode cX3_tellNumbersOfPad 29 = .ok (.getfield 22, 3) := by decide +kernel
theorem dX3_tellNumbersOfPad_32 : decode cX3_tellNumbersOfPad 32 = .ok (.iload_n 2, 1) := by decide +kernel
theorem dX3_tellNumbersOfPad_33 : decode cX3_tellNumbersOfPad 33 = .ok (.invokevirtual 187, 3) := by decide +kernel
theorem dX3_tellNumbersOfPad_36 : decode cX3_tellNumbersOfPad 36 = .ok (.aload_n 0, 1) := by decide +kernel
theorem dX3_tellNumbersOfPad_37 : decode cX3_tellNumbersOfPad 37 = .ok (.getfield 22, 3) := by decide +kernel
theorem dX3_tellNumbersOfPad_40 : decode cX3_tellNumbersOfPad 40 = .ok (.iload_n 2, 1) := by decide +kernel
theorem dX3_tellNumbersOfPad_41 : decode cX3_tellNumbersOfPad 41 = .ok (.invokevirtual 190, 3) := by decide +kernel
theorem dX3_tellNumbersOfPad_44 : decode cX3_tellNumbersOfPad 44 = .ok (.invokevirtual 193, 3) := by decide +kernel
theorem dX3_tellNumbersOfPad_47 : decode cX3_tellNumbersOfPad 47 = .ok (.iadd, 1) := by decide +kernel
theorem dX3_tellNumbersOfPad_48 : decode cX3_tellNumbersOfPad 48 = .ok (.istore_n 1, 1) := by decide +kernel
theorem dX3_tellNumbersOfPad_49 : decode cX3_tellNumbersOfPad 49 = .ok (.iinc 2 1, 3) := by decide +kernel
theorem dX3_tellNumbersOfPad_52 : decode cX3_tellNumbersOfPad 52 = .ok (.goto (-48), 3) := by decide +kernel
theorem dX3_tellNumbersOfPad_55 : decode cX3_tellNumbersOfPad 55 = .ok (.iload_n 1, 1) := by decide +kernel
theorem dX3_tellNumbersOfPad_56 : decode cX3_tellNumbersOfPad 56 = .ok (.ireturn, 1) := by decide +kernel
set_option maxRecDepth 20000 in
theorem ggX3_tell_X2_danceRound : GoodIn wsX3_tell wsX2_danceRound := goodIn_r _ [6, 7, 8, 9, 10, 11, 12, 13, 14, 15, 16, 17, 18, 19, 20, 21, 22, 5, 23, 24, 25, 26, 27, 28, 29, 30, 31, 32, 33, 34, 35, 36, 37, 38, 39, 40, 41, 42, 43, 44, 45, 46, 47, 48, 49, 50, 51, 52, 53, 54, 55, 56, 57, 58, 59, 60, 61, 62, 63, 69, 70, 71, 72, 73, 74, 75, 76, 77, 78, 79, 80, 81] (by decide +kernel) (by decide +kernel)
set_option maxRecDepth 20000 in
theorem gX3_tell_X2_danceRound : GoodIn wsX3_tell (wsV RX3 79 RX2 yX2_danceRound wsX2_danceRound) := goodIn_app (goodIn_of _ (by decide +kernel)) ggX3_tell_X2_danceRound
theorem dX3_tell_0 : decode cX3_tell 0 = .ok (.iconst 0, 1) := by decide +kernel
theorem dX3_tell_1 : decode cX3_tell 1 = .ok (.istore_n 3, 1) := by decide +kernel
theorem dX3_tell_2 : decode cX3_tell 2 = .ok (.iconst 0, 1) := by decide +kernel
theorem dX3_tell_3 : decode cX3_tell 3 = .ok (.istore 4, 2) := by decide +kernel
theorem dX3_tell_5 : decode cX3_tell 5 = .ok (.iload 4, 2) := by decide +kernel
theorem dX3_tell_7 : decode cX3_tell 7 = .ok (.iload_n 2, 1) := by decide +kernel
theorem dX3_tell_8 : decode cX3_tell 8 = .ok (.if_icmp .ge 20, 3) := by decide +kernel
theorem dX3_tell_11 : decode cX3_tell 11 = .ok (.iload_n 3, 1) := by decide +kernel
theorem dX3_tell_12 : decode cX3_tell 12 = .ok (.aload_n 0, 1) := by decide +kernel
theorem dX3_tell_13 : decode cX3_tell 13 = .ok (.getfield 12, 3) := by decide +kernel
theorem dX3_tell_16 : decode cX3_tell 16 = .ok (.iload_n 1, 1) := by decide +kernel
theorem dX3_tell_17 : decode cX3_tell 17 = .ok (.invokevirtual 79, 3) := by decide +kernel
theorem dX3_tell_20 : decode cX3_tell 20 = .ok (.iadd, 1) := by decide +kernel
theorem dX3_tell_21 : decode cX3_tell 21 = .ok (.istore_n 3, 1) := by decide +kernel
theorem dX3_tell_22 : decode cX3_tell 22 = .ok (.iinc 4 1, 3) := by decide +kernel
theorem dX3_tell_25 : decode cX3_tell 25 = .ok (.goto (-20), 3) := by decide +kernel
theorem dX3_tell_28 : decode cX3_tell 28 = .ok (.iload_n 3, 1) := by decide +kernel
theorem dX3_tell_29 : decode cX3_tell 29 = .ok (.ireturn, 1) := by decide +kernel
theorem dX4_init_0 : decode cX4_init 0 = .ok (.aload_n 0, 1) := by decide +kernel
theorem dX4_init_1 : decode cX4_init 1 = .ok (.invokespecial 1, 3) := by decide +kernel
theorem dX4_init_4 : decode cX4_init 4 = .ok (.aload_n 0, 1) := by decide +kernel
theorem dX4_init_5 : decode cX4_init 5 = .ok (.sipush 312, 3) := by decide +kernel
theorem dX4_init_8 : decode cX4_init 8 = .ok (.newarray .int, 2) := by decide +kernel
theorem dX4_init_10 : decode cX4_init 10 = .ok (.putfield 7, 3) := by decide +kernel
theorem dX4_init_13 : decode cX4_init 13 = .ok (.aload_n 0, 1) := by decide +kernel
theorem dX4_init_14 : decode cX4_init 14 = .ok (.sipush 312, 3) := by decide +kernel
theorem dX4_init_17 : decode cX4_init 17 = .ok (.newarray .int, 2) := by decide +kernel
theorem dX4_init_19 : decode cX4_init 19 = .ok (.putfield 13, 3) := by decide +kernel
theorem dX4_init_22 : decode cX4_init 22 = .ok (.aload_n 0, 1) := by decide +kernel
theorem dX4_init_23 : decode cX4_init 23 = .ok (.sipush 1872, 3) := by decide +kernel
theorem dX4_init_26 : decode cX4_init 26 = .ok (.newarray .int, 2) := by decide +kernel
theorem dX4_init_28 : decode cX4_init 28 = .ok (.putfield 16, 3) := by decide +kernel
theorem dX4_init_31 : decode cX4_init 31 = .ok (.aload_n 0, 1) := by decide +kernel
theorem dX4_init_32 : decode cX4_init 32 = .ok (.sipush 624, 3) := by decide +kernel
theorem dX4_init_35 : decode cX4_init 35 = .ok (.newarray .int, 2) := by decide +kernel
theorem dX4_init_37 : decode cX4_init 37 = .ok (.putfield 19, 3) := by decide +kernel
theorem dX4_init_40 : decode cX4_init 40 = .ok (.aload_n 0, 1) := by decide +kernel
theorem dX4_init_41 : decode cX4_init 41 = .ok (.iconst 2, 1) := by decide +kernel
theorem dX4_init_42 : decode cX4_init 42 = .ok (.newarray .int, 2) := by decide +kernel
theorem dX4_init_44 : decode cX4_init 44 = .ok (.putfield 22, 3) := by decide +kernel
theorem dX4_init_47 : decode cX4_init 47 = .ok (.aload_n 0, 1) := by decide +kernel
theorem dX4_init_48 : decode cX4_init 48 = .ok (.bipush 9, 2) := by decide +kernel
theorem dX4_init_50 : decode cX4_init 50 = .ok (.newarray .int, 2) := by decide +kernel
theorem dX4_init_52 : decode cX4_init 52 = .ok (.putfield 25, 3) := by decide +kernel
theorem dX4_init_55 : decode cX4_init 55 = .ok (.aload_n 0, 1) := by decide +kernel
theorem dX4_init_56 : decode cX4_init 56 = .ok (.bipush 60, 2) := by decide +kernel
theorem dX4_init_58 : decode cX4_init 58 = .ok (.newarray .int, 2) := by decide +kernel
theorem dX4_init_60 : decode cX4_init 60 = .ok (.putfield 28, 3) := by decide +kernel
theorem dX4_init_63 : decode cX4_init 63 = .ok (.aload_n 0, 1) := by decide +kernel
theorem dX4_init_64 : decode cX4_init 64 = .ok (.bipush 30, 2) := by decide +kernel
theorem dX4_init_66 : decode cX4_init 66 = .ok (.newarray .int, 2) := by decide +kernel
theorem dX4_init_68 : decode cX4_init 68 = .ok (.putfield 31, 3) := by decide +kernel
theorem dX4_init_71 : decode cX4_init 71 = .ok (.aload_n 0, 1) := by decide +kernel
theorem dX4_init_72 : decode cX4_init 72 = .ok (.bipush 30, 2) := by decide +kernel
theorem dX4_init_74 : decode cX4_init 74 = .ok (.newarray .int, 2) := by decide +kernel
theorem dX4_init_76 : decode cX4_init 76 = .ok (.putfield 34, 3) := by decide +kernel
theorem dX4_init_79 : decode cX4_init 79 = .ok (.aload_n 0, 1) := by decide +kernel
theorem dX4_init_80 : decode cX4_init 80 = .ok (.getfield 7, 3) := by decide +kernel
theorem dX4_init_83 : decode cX4_init 83 = .ok (.iconst 0, 1) := by decide +kernel
theorem dX4_init_84 : decode cX4_init 84 = .ok (.iconst 2, 1) := by decide +kernel
theorem dX4_init_85 : decode cX4_init 85 = .ok (.iastore, 1) := by decide +kernel
theorem dX4_init_86 : decode cX4_init 86 = .ok (.aload_n 0, 1) := by decide +kernel
theorem dX4_init_87 : decode cX4_init 87 = .ok (.getfield 7, 3) := by decide +kernel
theorem dX4_init_90 : decode cX4_init 90 = .ok (.iconst 1, 1) := by decide +kernel
theorem dX4_init_91 : decode cX4_init 91 = .ok (.iconst 3, 1) := by decide +kernel
theorem dX4_init_92 : decode cX4_init 92 = .ok (.iastore, 1) := by decide +kernel
theorem dX4_init_93 : decode cX4_init 93 = .ok (.aload_n 0, 1) := by decide +kernel
theorem dX4_init_94 : decode cX4_init 94 = .ok (.getfield 7, 3) := by decide +kernel
theorem dX4_init_97 : decode cX4_init 97 = .ok (.iconst 2, 1) := by decide +kernel
theorem dX4_init_98 : decode cX4_init 98 = .ok (.iconst 2, 1) := by decide +kernel
theorem dX4_init_99 : decode cX4_init 99 = .ok (.iastore, 1) := by decide +kernel
theorem dX4_init_100 : decode cX4_init 100 = .ok (.aload_n 0, 1) := by decide +kernel
theorem dX4_init_101 : decode cX4_init 101 = .ok (.getfield 7, 3) := by decide +kernel
theorem dX4_init_104 : decode cX4_init 104 = .ok (.iconst 5, 1) := by decide +kernel
theorem dX4_init_105 : decode cX4_init 105 = .ok (.ldc 37, 2) := by decide +kernel
theorem dX4_init_107 : decode cX4_init 107 = .ok (.iastore, 1) := by decide +kernel
theorem dX4_init_108 : decode cX4_init 108 = .ok (.iconst 0, 1) := by decide +kernel
theorem dX4_init_109 : decode cX4_init 109 = .ok (.istore_n 1, 1) := by decide +kernel
theorem dX4_init_110 : decode cX4_init 110 = .ok (.iload_n 1, 1) := by decide +kernel
theorem dX4_init_111 : decode cX4_init 111 = .ok (.bipush 9, 2) := by decide +kernel
theorem dX4_init_113 : decode cX4_init 113 = .ok (.if_icmp .ge 30, 3) := by decide +kernel
theorem dX4_init_116 : decode cX4_init 116 = .ok (.aload_n 0, 1) := by decide +kernel
theorem dX4_init_117 : decode cX4_init 117 = .ok (.getfield 7, 3) := by decide +kernel
theorem dX4_init_120 : decode cX4_init 120 = .ok (.bipush 15, 2) := by decide +kernel
theorem dX4_init_122 : decode cX4_init 122 = .ok (.iload_n 1, 1) := by decide +kernel
theorem dX4_init_123 : decode cX4_init 123 = .ok (.iadd, 1) := by decide +kernel
theorem dX4_init_124 : decode cX4_init 124 = .ok (.iconst 1, 1) := by decide +kernel
theorem dX4_init_125 : decode cX4_init 125 = .ok (.iastore, 1) := by decide +kernel
theorem dX4_init_126 : decode cX4_init 126 = .ok (.aload_n 0, 1) := by decide +kernel
theorem dX4_init_127 : decode cX4_init 127 = .ok (.getfield 7, 3) := by decide +kernel
theorem dX4_init_130 : decode cX4_init 130 = .ok (.bipush 24, 2) := by decide +kernel
theorem dX4_init_132 : decode cX4_init 132 = .ok (.iload_n 1, 1) := by decide +kernel
theorem dX4_init_133 : decode cX4_init 133 = .ok (.iadd, 1) := by decide +kernel
theorem dX4_init_134 : decode cX4_init 134 = .ok (.bipush 10, 2) := by decide +kernel
theorem dX4_init_136 : decode cX4_init 136 = .ok (.iastore, 1) := by decide +kernel
theorem dX4_init_137 : decode cX4_init 137 = .ok (.iinc 1 1, 3) := by decide +kernel
theorem dX4_init_140 : decode cX4_init 140 = .ok (.goto (-30), 3) := by decide +kernel
theorem dX4_init_143 : decode cX4_init 143 = .ok (.iconst 0, 1) := by decide +kernel
theorem dX4_init_144 : decode cX4_init 144 = .ok (.istore_n 1, 1) := by decide +kernel
theorem dX4_init_145 : decode cX4_init 145 = .ok (.iload_n 1, 1) := by decide +kernel
theorem dX4_init_146 : decode cX4_init 146 = .ok (.bipush 81, 2) := by decide +kernel
theorem dX4_init_148 : decode cX4_init 148 = .ok (.if_icmp .ge 21, 3) := by decide +kernel
theorem dX4_init_151 : decode cX4_init 151 = .ok (.aload_n 0, 1) := by decide +kernel
theorem dX4_init_152 : decode cX4_init 152 = .ok (.getfield 7, 3) := by decide +kernel
theorem dX4_init_155 : decode cX4_init 155 = .ok (.sipush 231, 3) := by decide +kernel
theorem dX4_init_158 : decode cX4_init 158 = .ok (.iload_n 1, 1) := by decide +kernel
theorem dX4_init_159 : decode cX4_init 159 = .ok (.iadd, 1) := by decide +kernel
theorem dX4_init_160 : decode cX4_init 160 = .ok (.ldc 37, 2) := by decide +kernel
theorem dX4_init_162 : decode cX4_init 162 = .ok (.iastore, 1) := by decide +kernel
theorem dX4_init_163 : decode cX4_init 163 = .ok (.iinc 1 1, 3) := by decide +kernel
theorem dX4_init_166 : decode cX4_init 166 = .ok (.goto (-21), 3) := by decide +kernel
theorem dX4_init_169 : decode cX4_init 169 = .ok (.return_, 1) := by decide +kernel
theorem dX4_in_0 : decode cX4_in 0 = .ok (.lload_n 0, 1) := by decide +kernel
theorem dX4_in_1 : decode cX4_in 1 = .ok (.lload_n 2, 1) := by decide +kernel
theorem dX4_in_2 : decode cX4_in 2 = .ok (.lcmp, 1) := by decide +kernel
theorem dX4_in_3 : decode cX4_in 3 = .ok (.ifCond .lt 14, 3) := by decide +kernel
theorem dX4_in_6 : decode cX4_in 6 = .ok (.lload_n 0, 1) := by decide +kernel
theorem dX4_in_7 : decode cX4_in 7 = .ok (.lload 4, 2) := by decide +kernel
theorem dX4_in_9 : decode cX4_in 9 = .ok (.lcmp, 1) := by decide +kernel
theorem dX4_in_10 : decode cX4_in 10 = .ok (.ifCond .gt 7, 3) := by decide +kernel
theorem dX4_in_13 : decode cX4_in 13 = .ok (.iconst 1, 1) := by decide +kernel
theorem dX4_in_14 : decode cX4_in 14 = .ok (.goto 4, 3) := by decide +kernel
theorem dX4_in_17 : decode cX4_in 17 = .ok (.iconst 0, 1) := by decide +kernel
theorem dX4_in_18 : decode cX4_in 18 = .ok (.ireturn, 1) := by decide +kernel
theorem dX4_changes_0 : decode cX4_changes 0 = .ok (.aload_n 0, 1) := by decide +kernel
theorem dX4_changes_1 : decode cX4_changes 1 = .ok (.getfield 38, 3) := by decide +kernel
theorem dX4_changes_4 : decode cX4_changes 4 = .ok (.bipush 6, 2) := by decide +kernel
theorem dX4_changes_6 : decode cX4_changes 6 = .ok (.if_icmp .ne 44, 3) := by decide +kernel
theorem dX4_changes_9 : decode cX4_changes 9 = .ok (.iconst 0, 1) := by decide +kernel
theorem dX4_changes_10 : decode cX4_changes 10 = .ok (.istore_n 1, 1) := by decide +kernel
theorem dX4_changes_11 : decode cX4_changes 11 = .ok (.iload_n 1, 1) := by decide +kernel
theorem dX4_changes_12 : decode cX4_changes 12 = .ok (.sipush 1560, 3) := by decide +kernel
theorem dX4_changes_15 : decode cX4_changes 15 = .ok (.if_icmp .ge 25, 3) := by decide +kernel
theorem dX4_changes_18 : decode cX4_changes 18 = .ok (.aload_n 0, 1) := by decide +kernel
theorem dX4_changes_19 : decode cX4_changes 19 = .ok (.getfield 16, 3) := by decide +kernel
theorem dX4_changes_22 : decode cX4_changes 22 = .ok (.iload_n 1, 1) := by decide +kernel
theorem dX4_changes_23 : decode cX4_changes 23 = .ok (.aload_n 0, 1) := by decide +kernel
theorem dX4_changes_24 : decode cX4_changes 24 = .ok (.getfield 16, 3) := by decide +kernel
theorem dX4_changes_27 : decode cX4_changes 27 = .ok (.iload_n 1, 1) := by decide +kernel
theorem dX4_changes_28 : decode cX4_changes 28 = .ok (.sipush 312, 3) := by decide +kernel
theorem dX4_changes_31 : decode cX4_changes 31 = .ok (.iadd, 1) := by decide +kernel
theorem dX4_changes_32 : decode cX4_changes 32 = .ok (.iaload, 1) := by decide +kernel
theorem dX4_changes_33 : decode cX4_changes 33 = .ok (.iastore, 1) := by decide +kernel
theorem dX4_changes_34 : decode cX4_changes 34 = .ok (.iinc 1 1, 3) := by decide +kernel
theorem dX4_changes_37 : decode cX4_changes 37 = .ok (.goto (-26), 3) := by decide +kernel
theorem dX4_changes_40 : decode cX4_changes 40 = .ok (.aload_n 0, 1) := by decide +kernel
theorem dX4_changes_41 : decode cX4_changes 41 = .ok (.dup, 1) := by decide +kernel
theorem dX4_changes_42 : decode cX4_changes 42 = .ok (.getfield 38, 3) := by decide +kernel
theorem dX4_changes_45 : decode cX4_changes 45 = .ok (.iconst 1, 1) := by decide +kernel
theorem dX4_changes_46 : decode cX4_changes 46 = .ok (.isub, 1) := by decide +kernel
theorem dX4_changes_47 : decode cX4_changes 47 = .ok (.putfield 38, 3) := by decide +kernel
theorem dX4_changes_50 : decode cX4_changes 50 = .ok (.iconst 0, 1) := by decide +kernel
theorem dX4_changes_51 : decode cX4_changes 51 = .ok (.istore_n 1, 1) := by decide +kernel
theorem dX4_changes_52 : decode cX4_changes 52 = .ok (.iload_n 1, 1) := by decide +kernel
theorem dX4_changes_53 : decode cX4_changes 53 = .ok (.sipush 312, 3) := by decide +kernel
theorem dX4_changes_56 : decode cX4_changes 56 = .ok (.if_icmp .ge 30, 3) := by decide +kernel
theorem dX4_changes_59 : decode cX4_changes 59 = .ok (.aload_n 0, 1) := by decide +kernel
theorem dX4_changes_60 : decode cX4_changes 60 = .ok (.getfield 16, 3) := by decide +kernel
theorem dX4_changes_63 : decode cX4_changes 63 = .ok (.sipush 312, 3) := by decide +kernel
theorem dX4_changes_66 : decode cX4_changes 66 = .ok (.aload_n 0, 1) := by decide +kernel
theorem dX4_changes_67 : decode cX4_changes 67 = .ok (.getfield 38, 3) := by decide +kernel
theorem dX4_changes_70 : decode cX4_changes 70 = .ok (.imul, 1) := by decide +kernel
theorem dX4_changes_71 : decode cX4_changes 71 = .ok (.iload_n 1, 1) := by decide +kernel
theorem dX4_changes_72 : decode cX4_changes 72 = .ok (.iadd, 1) := by decide +kernel
theorem dX4_changes_73 : decode cX4_changes 73 = .ok (.aload_n 0, 1) := by decide +kernel
theorem dX4_changes_74 : decode cX4_changes 74 = .ok (.getfield 7, 3) := by decide +kernel
theorem dX4_changes_77 : decode cX4_changes 77 = .ok (.iload_n 1, 1) := by decide +kernel
theorem dX4_changes_78 : decode cX4_changes 78 = .ok (.iaload, 1) := by decide +kernel
theorem dX4_changes_79 : decode cX4_changes 79 = .ok (.iastore, 1) := by decide +kernel
theorem dX4_changes_80 : decode cX4_changes 80 = .ok (.iinc 1 1, 3) := by decide +kernel
theorem dX4_changes_83 : decode cX4_changes 83 = .ok (.goto (-31), 3) := by decide +kernel
theorem dX4_changes_86 : decode cX4_changes 86 = .ok (.aload_n 0, 1) := by decide +kernel
theorem dX4_changes_87 : decode cX4_changes 87 = .ok (.dup, 1) := by decide +kernel
theorem dX4_changes_88 : decode cX4_changes 88 = .ok (.getfield 38, 3) := by decide +kernel
theorem dX4_changes_91 : decode cX4_changes 91 = .ok (.iconst 1, 1) := by decide +kernel
theorem dX4_changes_92 : decode cX4_changes 92 = .ok (.iadd, 1) := by decide +kernel
theorem dX4_changes_93 : decode cX4_changes 93 = .ok (.putfield 38, 3) := by decide +kernel
theorem dX4_changes_96 : decode cX4_changes 96 = .ok (.return_, 1) := by decide +kernel
theorem dX4_keeps_0 : decode cX4_keeps 0 = .ok (.iconst 0, 1) := by decide +kernel
theorem dX4_keeps_1 : decode cX4_keeps 1 = .ok (.istore_n 1, 1) := by decide +kernel
theorem dX4_keeps_2 : decode cX4_keeps 2 = .ok (.iload_n 1, 1) := by decide +kernel
theorem dX4_keeps_3 : decode cX4_keeps 3 = .ok (.sipush 312, 3) := by decide +kernel
theorem dX4_keeps_6 : decode cX4_keeps 6 = .ok (.if_icmp .ge 21, 3) := by decide +kernel
theorem dX4_keeps_9 : decode cX4_keeps 9 = .ok (.aload_n 0, 1) := by decide +kernel
theorem dX4_keeps_10 : decode cX4_keeps 10 = .ok (.getfield 13, 3) := by decide +kernel
theorem dX4_keeps_13 : decode cX4_keeps 13 = .ok (.iload_n 1, 1) := by decide +kernel
theorem dX4_keeps_14 : decode cX4_keeps 14 = .ok (.aload_n 0, 1) := by decide +kernel
theorem dX4_keeps_15 : decode cX4_keeps 15 = .ok (.getfield 7, 3) := by decide +kernel
theorem dX4_keeps_18 : decode cX4_keeps 18 = .ok (.iload_n 1, 1) := by decide +kernel
theorem dX4_keeps_19 : decode cX4_keeps 19 = .ok (.iaload, 1) := by decide +kernel
theorem dX4_keeps_20 : decode cX4_keeps 20 = .ok (.iastore, 1) := by decide +kernel
theorem dX4_keeps_21 : decode cX4_keeps 21 = .ok (.iinc 1 1, 3) := by decide +kernel
theorem dX4_keeps_24 : decode cX4_keeps 24 = .ok (.goto (-22), 3) := by decide +kernel
theorem dX4_keeps_27 : decode cX4_keeps 27 = .ok (.return_, 1) := by decide +kernel
theorem dX4_comesBack_0 : decode cX4_comesBack 0 = .ok (.iconst 0, 1) := by decide +kernel
theorem dX4_comesBack_1 : decode cX4_comesBack 1 = .ok (.istore_n 1, 1) := by decide +kernel
theorem dX4_comesBack_2 : decode cX4_comesBack 2 = .ok (.iload_n 1, 1) := by decide +kernel
theorem dX4_comesBack_3 : decode cX4_comesBack 3 = .ok (.sipush 312, 3) := by decide +kernel
theorem dX4_comesBack_6 : decode cX4_comesBack 6 = .ok (.if_icmp .ge 21, 3) := by decide +kernel
theorem dX4_comesBack_9 : decode cX4_comesBack 9 = .ok (.aload_n 0, 1) := by decide +kernel
theorem dX4_comesBack_10 : decode cX4_comesBack 10 = .ok (.getfield 7, 3) := by decide +kernel
theorem dX4_comesBack_13 : decode cX4_comesBack 13 = .ok (.iload_n 1, 1) := by decide +kernel
theorem dX4_comesBack_14 : decode cX4_comesBack 14 = .ok (.aload_n 0, 1) := by decide +kernel
theorem dX4_comesBack_15 : decode cX4_comesBack 15 = .ok (.getfield 13, 3) := by decide +kernel
theorem dX4_comesBack_18 : decode cX4_comesBack 18 = .ok (.iload_n 1, 1) := by decide +kernel
theorem dX4_comesBack_19 : decode cX4_comesBack 19 = .ok (.iaload, 1) := by decide +kernel
theorem dX4_comesBack_20 : decode cX4_comesBack 20 = .ok (.iastore, 1) := by decide +kernel
theorem dX4_comesBack_21 : decode cX4_comesBack 21 = .ok (.iinc 1 1, 3) := by decide +kernel
theorem dX4_comesBack_24 : decode cX4_comesBack 24 = .ok (.goto (-22), 3) := by decide +kernel
theorem dX4_comesBack_27 : decode cX4_comesBack 27 = .ok (.return_, 1) := by decide +kernel
set_option maxRecDepth 20000 in
theorem ggX4_isVillager_X4_in : GoodIn wsX4_isVillager wsX4_in := goodIn_r _ [5] (by decide +kernel) (by decide +kernel)
set_option maxRecDepth 20000 in
theorem gX4_isVillager_X4_in : GoodIn wsX4_isVillager (va_wsS RX4 44 yX4_in wsX4_in) := goodIn_app (goodIn_of _ (by decide +kernel)) ggX4_isVillager_X4_in
theorem dX4_isVillager_0 : decode cX4_isVillager 0 = .ok (.iload_n 0, 1) := by decide +kernel
theorem dX4_isVillager_1 : decode cX4_isVillager 1 = .ok (.i2l, 1) := by decide +kernel
theorem dX4_isVillager_2 : decode cX4_isVillager 2 = .ok (.lconst 0, 1) := by decide +kernel
theorem dX4_isVillager_3 : decode cX4_isVillager 3 = .ok (.ldc2_w 42, 3) := by decide +kernel
theorem dX4_isVillager_6 : decode cX4_isVillager 6 = .ok (.invokestatic 44, 3) := by decide +kernel
theorem dX4_isVillager_9 : decode cX4_isVillager 9 = .ok (.ireturn, 1) := by decide +kernel
set_option maxRecDepth 20000 in
theorem ggX4_isNumber_X4_in : GoodIn wsX4_isNumber wsX4_in := goodIn_r _ [5] (by decide +kernel) (by decide +kernel)
set_option maxRecDepth 20000 in
theorem gX4_isNumber_X4_in : GoodIn wsX4_isNumber (va_wsS RX4 44 yX4_in wsX4_in) := goodIn_app (goodIn_of _ (by decide +kernel)) ggX4_isNumber_X4_in
theorem dX4_isNumber_0 : decode cX4_isNumber 0 = .ok (.iload_n 0, 1) := by decide +kernel
theorem dX4_isNumber_1 : decode cX4_isNumber 1 = .ok (.i2l, 1) := by decide +kernel
theorem dX4_isNumber_2 : decode cX4_isNumber 2 = .ok (.lconst 0, 1) := by decide +kernel
theorem dX4_isNumber_3 : decode cX4_isNumber 3 = .ok (.ldc2_w 48, 3) := by decide +kernel
theorem dX4_isNumber_6 : decode cX4_isNumber 6 = .ok (.invokestatic 44, 3) := by decide +kernel
theorem dX4_isNumber_9 : decode cX4_isNumber 9 = .ok (.ireturn, 1) := by decide +kernel
theorem dX4_pairAt_0 : decode cX4_pairAt 0 = .ok (.bipush 9, 2) := by decide +kernel
theorem dX4_pairAt_2 : decode cX4_pairAt 2 = .ok (.iload_n 0, 1) := by decide +kernel
theorem dX4_pairAt_3 : decode cX4_pairAt 3 = .ok (.imul, 1) := by decide +kernel
theorem dX4_pairAt_4 : decode cX4_pairAt 4 = .ok (.iload_n 1, 1) := by decide +kernel
theorem dX4_pairAt_5 : decode cX4_pairAt 5 = .ok (.iadd, 1) := by decide +kernel
theorem dX4_pairAt_6 : decode cX4_pairAt 6 = .ok (.ireturn, 1) := by decide +kernel
theorem dX4_partnerBy_0 : decode cX4_partnerBy 0 = .ok (.iload_n 1, 1) := by decide +kernel
theorem dX4_partnerBy_1 : decode cX4_partnerBy 1 = .ok (.bipush 9, 2) := by decide +kernel
theorem dX4_partnerBy_3 : decode cX4_partnerBy 3 = .ok (.irem, 1) := by decide +kernel
theorem dX4_partnerBy_4 : decode cX4_partnerBy 4 = .ok (.bipush 9, 2) := by decide +kernel
theorem dX4_partnerBy_6 : decode cX4_partnerBy 6 = .ok (.iadd, 1) := by decide +kernel
theorem dX4_partnerBy_7 : decode cX4_partnerBy 7 = .ok (.iload_n 0, 1) := by decide +kernel
theorem dX4_partnerBy_8 : decode cX4_partnerBy 8 = .ok (.isub, 1) := by decide +kernel
theorem dX4_partnerBy_9 : decode cX4_partnerBy 9 = .ok (.bipush 9, 2) := by decide +kernel
theorem dX4_partnerBy_11 : decode cX4_partnerBy 11 = .ok (.irem, 1) := by decide +kernel
theorem dX4_partnerBy_12 : decode cX4_partnerBy 12 = .ok (.ireturn, 1) := by decide +kernel
theorem dX4_isThere_0 : decode cX4_isThere 0 = .ok (.aload_n 0, 1) := by decide +kernel
theorem dX4_isThere_1 : decode cX4_isThere 1 = .ok (.getfield 7, 3) := by decide +kernel
theorem dX4_isThere_4 : decode cX4_isThere 4 = .ok (.bipush 15, 2) := by decide +kernel
theorem dX4_isThere_6 : decode cX4_isThere 6 = .ok (.iload_n 1, 1) := by decide +kernel
theorem dX4_isThere_7 : decode cX4_isThere 7 = .ok (.iadd, 1) := by decide +kernel
theorem dX4_isThere_8 : decode cX4_isThere 8 = .ok (.iaload, 1) := by decide +kernel
theorem dX4_isThere_9 : decode cX4_isThere 9 = .ok (.iconst 1, 1) := by decide +kernel
theorem dX4_isThere_10 : decode cX4_isThere 10 = .ok (.if_icmp .ne 7, 3) := by decide +kernel
theorem dX4_isThere_13 : decode cX4_isThere 13 = .ok (.iconst 1, 1) := by decide +kernel
theorem dX4_isThere_14 : decode cX4_isThere 14 = .ok (.goto 4, 3) := by decide +kernel
theorem dX4_isThere_17 : decode cX4_isThere 17 = .ok (.iconst 0, 1) := by decide +kernel
theorem dX4_isThere_18 : decode cX4_isThere 18 = .ok (.ireturn, 1) := by decide +kernel
set_option maxRecDepth 20000 in
theorem ggX4_canDance_X4_isThere : GoodIn wsX4_canDance wsX4_isThere := goodIn_r _ [6, 1, 7, 8, 9, 10, 11, 12, 13, 14, 15, 16, 17, 18, 19] (by decide +kernel) (by decide +kernel)
set_option maxRecDepth 20000 in
theorem gX4_canDance_X4_isThere : GoodIn wsX4_canDance (wsV RX4 50 RX4 yX4_isThere wsX4_isThere) := goodIn_app (goodIn_of _ (by decide +kernel)) ggX4_canDance_X4_isThere
theorem dX4_canDance_0 : decode cX4_canDance 0 = .ok (.aload_n 0, 1) := by decide +kernel
theorem dX4_canDance_1 : decode cX4_canDance 1 = .ok (.iload_n 1, 1) := by decide +kernel
theorem dX4_canDance_2 : decode cX4_canDance 2 = .ok (.invokevirtual 50, 3) := by decide +kernel
theorem dX4_canDance_5 : decode cX4_canDance 5 = .ok (.ifCond .eq 25, 3) := by decide +kernel
theorem dX4_canDance_8 : decode cX4_canDance 8 = .ok (.aload_n 0, 1) := by decide +kernel
theorem dX4_canDance_9 : decode cX4_canDance 9 = .ok (.getfield 7, 3) := by decide +kernel
theorem dX4_canDance_12 : decode cX4_canDance 12 = .ok (.bipush 24, 2) := by decide +kernel
theorem dX4_canDance_14 : decode cX4_canDance 14 = .ok (.iload_n 1, 1) := by decide +kernel
theorem dX4_canDance_15 : decode cX4_canDance 15 = .ok (.iadd, 1) := by decide +kernel
theorem dX4_canDance_16 : decode cX4_canDance 16 = .ok (.iaload, 1) := by decide +kernel
theorem dX4_canDance_17 : decode cX4_canDance 17 = .ok (.aload_n 0, 1) := by decide +kernel
theorem dX4_canDance_18 : decode cX4_canDance 18 = .ok (.getfield 7, 3) := by decide +kernel
theorem dX4_canDance_21 : decode cX4_canDance 21 = .ok (.iconst 0, 1) := by decide +kernel
theorem dX4_canDance_22 : decode cX4_canDance 22 = .ok (.iaload, 1) := by decide +kernel
theorem dX4_canDance_23 : decode cX4_canDance 23 = .ok (.if_icmp .lt 7, 3) := by decide +kernel
theorem dX4_canDance_26 : decode cX4_canDance 26 = .ok (.iconst 1, 1) := by decide +kernel
theorem dX4_canDance_27 : decode cX4_canDance 27 = .ok (.goto 4, 3) := by decide +kernel
theorem dX4_canDance_30 : decode cX4_canDance 30 = .ok (.iconst 0, 1) := by decide +kernel
theorem dX4_canDance_31 : decode cX4_canDance 31 = .ok (.ireturn, 1) := by decide +kernel
set_option maxRecDepth 20000 in
theorem ggX4_dances_X4_partnerBy : GoodIn wsX4_dances wsX4_partnerBy := goodIn_r _ [4] (by decide +kernel) (by decide +kernel)
set_option maxRecDepth 20000 in
theorem gX4_dances_X4_partnerBy : GoodIn wsX4_dances (va_wsS RX4 54 yX4_partnerBy wsX4_partnerBy) := goodIn_app (goodIn_of _ (by decide +kernel)) ggX4_dances_X4_partnerBy
set_option maxRecDepth 20000 in
theorem ggX4_dances_X4_canDance : GoodIn wsX4_dances wsX4_canDance := goodIn_r _ [8, 9, 10, 11, 12, 3, 13, 14, 15, 16, 17, 18, 19, 20, 21, 22, 23, 24, 25, 26] (by decide +kernel) (by decide +kernel)
set_option maxRecDepth 20000 in
theorem gX4_dances_X4_canDance : GoodIn wsX4_dances (wsV RX4 58 RX4 yX4_canDance wsX4_canDance) := goodIn_app (goodIn_of _ (by decide +kernel)) ggX4_dances_X4_canDance
theorem dX4_dances_0 : decode cX4_dances 0 = .ok (.iload_n 1, 1) := by decide +kernel
theorem dX4_dances_1 : decode cX4_dances 1 = .ok (.iload_n 2, 1) := by decide +kernel
theorem dX4_dances_2 : decode cX4_dances 2 = .ok (.invokestatic 54, 3) := by decide +kernel
theorem dX4_dances_5 : decode cX4_dances 5 = .ok (.istore_n 3, 1) := by decide +kernel
theorem dX4_dances_6 : decode cX4_dances 6 = .ok (.iload_n 3, 1) := by decide +kernel
theorem dX4_dances_7 : decode cX4_dances 7 = .ok (.iload_n 1, 1) := by decide +kernel
theorem dX4_dances_8 : decode cX4_dances 8 = .ok (.if_icmp .eq 23, 3) := by decide +kernel
theorem dX4_dances_11 : decode cX4_dances 11 = .ok (.aload_n 0, 1) := by decide +kernel
theorem dX4_dances_12 : decode cX4_dances 12 = .ok (.iload_n 1, 1) := by decide +kernel
theorem dX4_dances_13 : decode cX4_dances 13 = .ok (.invokevirtual 58, 3) := by decide +kernel
theorem dX4_dances_16 : decode cX4_dances 16 = .ok (.ifCond .eq 15, 3) := by decide +kernel
theorem dX4_dances_19 : decode cX4_dances 19 = .ok (.aload_n 0, 1) := by decide +kernel
theorem dX4_dances_20 : decode cX4_dances 20 = .ok (.iload_n 3, 1) := by decide +kernel
theorem dX4_dances_21 : decode cX4_dances 21 = .ok (.invokevirtual 58, 3) := by decide +kernel
theorem dX4_dances_24 : decode cX4_dances 24 = .ok (.ifCond .eq 7, 3) := by decide +kernel
theorem dX4_dances_27 : decode cX4_dances 27 = .ok (.iconst 1, 1) := by decide +kernel
theorem dX4_dances_28 : decode cX4_dances 28 = .ok (.goto 4, 3) := by decide +kernel
theorem dX4_dances_31 : decode cX4_dances 31 = .ok (.iconst 0, 1) := by decide +kernel
theorem dX4_dances_32 : decode cX4_dances 32 = .ok (.ireturn, 1) := by decide +kernel
set_option maxRecDepth 20000 in
theorem ggX4_joyOf_X4_pairAt : GoodIn wsX4_joyOf wsX4_pairAt := goodIn_r _ [5] (by decide +kernel) (by decide +kernel)
set_option maxRecDepth 20000 in
theorem gX4_joyOf_X4_pairAt : GoodIn wsX4_joyOf (va_wsS RX4 61 yX4_pairAt wsX4_pairAt) := goodIn_app (goodIn_of _ (by decide +kernel)) ggX4_joyOf_X4_pairAt
theorem dX4_joyOf_0 : decode cX4_joyOf 0 = .ok (.aload_n 0, 1) := by decide +kernel
theorem dX4_joyOf_1 : decode cX4_joyOf 1 = .ok (.getfield 7, 3) := by decide +kernel
theorem dX4_joyOf_4 : decode cX4_joyOf 4 = .ok (.iconst 2, 1) := by decide +kernel
theorem dX4_joyOf_5 : decode cX4_joyOf 5 = .ok (.iaload, 1) := by decide +kernel
theorem dX4_joyOf_6 : decode cX4_joyOf 6 = .ok (.aload_n 0, 1) := by decide +kernel
theorem dX4_joyOf_7 : decode cX4_joyOf 7 = .ok (.getfield 7, 3) := by decide +kernel
theorem dX4_joyOf_10 : decode cX4_joyOf 10 = .ok (.bipush 69, 2) := by decide +kernel
theorem dX4_joyOf_12 : decode cX4_joyOf 12 = .ok (.iload_n 1, 1) := by decide +kernel
theorem dX4_joyOf_13 : decode cX4_joyOf 13 = .ok (.iload_n 2, 1) := by decide +kernel
theorem dX4_joyOf_14 : decode cX4_joyOf 14 = .ok (.invokestatic 61, 3) := by decide +kernel
theorem dX4_joyOf_17 : decode cX4_joyOf 17 = .ok (.iadd, 1) := by decide +kernel
theorem dX4_joyOf_18 : decode cX4_joyOf 18 = .ok (.iaload, 1) := by decide +kernel
theorem dX4_joyOf_19 : decode cX4_joyOf 19 = .ok (.iadd, 1) := by decide +kernel
theorem dX4_joyOf_20 : decode cX4_joyOf 20 = .ok (.ireturn, 1) := by decide +kernel
set_option maxRecDepth 20000 in
theorem ggX4_danced_X4_joyOf : GoodIn wsX4_danced wsX4_joyOf := goodIn_r _ [6, 1, 7, 8, 5, 9, 10, 11, 12, 13, 14, 15, 16, 17, 18, 19, 20, 21, 22] (by decide +kernel) (by decide +kernel)
set_option maxRecDepth 20000 in
theorem gX4_danced_X4_joyOf : GoodIn wsX4_danced (wsV RX4 64 RX4 yX4_joyOf wsX4_joyOf) := goodIn_app (goodIn_of _ (by decide +kernel)) ggX4_danced_X4_joyOf
set_option maxRecDepth 20000 in
theorem ggX4_danced_X4_pairAt : GoodIn wsX4_danced wsX4_pairAt := goodIn_r _ [9] (by decide +kernel) (by decide +kernel)
set_option maxRecDepth 20000 in
theorem gX4_danced_X4_pairAt : GoodIn wsX4_danced (va_wsS RX4 61 yX4_pairAt wsX4_pairAt) := goodIn_app (goodIn_of _ (by decide +kernel)) ggX4_danced_X4_pairAt
theorem dX4_danced_0 : decode cX4_danced 0 = .ok (.aload_n 0, 1) := by decide +kernel
theorem dX4_danced_1 : decode cX4_danced 1 = .ok (.getfield 7, 3) := by decide +kernel
theorem dX4_danced_4 : decode cX4_danced 4 = .ok (.bipush 33, 2) := by decide +kernel
theorem dX4_danced_6 : decode cX4_danced 6 = .ok (.iload_n 1, 1) := by decide +kernel
theorem dX4_danced_7 : decode cX4_danced 7 = .ok (.iadd, 1) := by decide +kernel
theorem dX4_danced_8 : decode cX4_danced 8 = .ok (.dup2, 1) := by decide +kernel
theorem dX4_danced_9 : decode cX4_danced 9 = .ok (.iaload, 1) := by decide +kernel
theorem dX4_danced_10 : decode cX4_danced 10 = .ok (.aload_n 0, 1) := by decide +kernel
theorem dX4_danced_11 : decode cX4_danced 11 = .ok (.iload_n 1, 1) := by decide +kernel
theorem dX4_danced_12 : decode cX4_danced 12 = .ok (.iload_n 2, 1) := by decide +kernel
theorem dX4_danced_13 : decode cX4_danced 13 = .ok (.invokevirtual 64, 3) := by decide +kernel
theorem dX4_danced_16 : decode cX4_danced 16 = .ok (.iadd, 1) := by decide +kernel
theorem dX4_danced_17 : decode cX4_danced 17 = .ok (.iastore, 1) := by decide +kernel
theorem dX4_danced_18 : decode cX4_danced 18 = .ok (.aload_n 0, 1) := by decide +kernel
theorem dX4_danced_19 : decode cX4_danced 19 = .ok (.getfield 7, 3) := by decide +kernel
theorem dX4_danced_22 : decode cX4_danced 22 = .ok (.bipush 24, 2) := by decide +kernel
theorem dX4_danced_24 : decode cX4_danced 24 = .ok (.iload_n 1, 1) := by decide +kernel
theorem dX4_danced_25 : decode cX4_danced 25 = .ok (.iadd, 1) := by decide +kernel
theorem dX4_danced_26 : decode cX4_danced 26 = .ok (.dup2, 1) := by decide +kernel
theorem dX4_danced_27 : decode cX4_danced 27 = .ok (.iaload, 1) := by decide +kernel
theorem dX4_danced_28 : decode cX4_danced 28 = .ok (.aload_n 0, 1) := by decide +kernel
theorem dX4_danced_29 : decode cX4_danced 29 = .ok (.getfield 7, 3) := by decide +kernel
theorem dX4_danced_32 : decode cX4_danced 32 = .ok (.iconst 0, 1) := by decide +kernel
theorem dX4_danced_33 : decode cX4_danced 33 = .ok (.iaload, 1) := by decide +kernel
theorem dX4_danced_34 : decode cX4_danced 34 = .ok (.isub, 1) := by decide +kernel
theorem dX4_danced_35 : decode cX4_danced 35 = .ok (.iastore, 1) := by decide +kernel
theorem dX4_danced_36 : decode cX4_danced 36 = .ok (.aload_n 0, 1) := by decide +kernel
theorem dX4_danced_37 : decode cX4_danced 37 = .ok (.getfield 7, 3) := by decide +kernel
theorem dX4_danced_40 : decode cX4_danced 40 = .ok (.bipush 42, 2) := by decide +kernel
theorem dX4_danced_42 : decode cX4_danced 42 = .ok (.iload_n 1, 1) := by decide +kernel
theorem dX4_danced_43 : decode cX4_danced 43 = .ok (.iadd, 1) := by decide +kernel
theorem dX4_danced_44 : decode cX4_danced 44 = .ok (.dup2, 1) := by decide +kernel
theorem dX4_danced_45 : decode cX4_danced 45 = .ok (.iaload, 1) := by decide +kernel
theorem dX4_danced_46 : decode cX4_danced 46 = .ok (.iconst 1, 1) := by decide +kernel
theorem dX4_danced_47 : decode cX4_danced 47 = .ok (.iadd, 1) := by decide +kernel
theorem dX4_danced_48 : decode cX4_danced 48 = .ok (.iastore, 1) := by decide +kernel
theorem dX4_danced_49 : decode cX4_danced 49 = .ok (.aload_n 0, 1) := by decide +kernel
theorem dX4_danced_50 : decode cX4_danced 50 = .ok (.getfield 7, 3) := by decide +kernel
theorem dX4_danced_53 : decode cX4_danced 53 = .ok (.sipush 150, 3) := by decide +kernel
theorem dX4_danced_56 : decode cX4_danced 56 = .ok (.iload_n 1, 1) := by decide +kernel
theorem dX4_danced_57 : decode cX4_danced 57 = .ok (.iload_n 2, 1) := by decide +kernel
theorem dX4_danced_58 : decode cX4_danced 58 = .ok (.invokestatic 61, 3) := by decide +kernel
theorem dX4_danced_61 : decode cX4_danced 61 = .ok (.iadd, 1) := by decide +kernel
theorem dX4_danced_62 : decode cX4_danced 62 = .ok (.dup2, 1) := by decide +kernel
theorem dX4_danced_63 : decode cX4_danced 63 = .ok (.iaload, 1) := by decide +kernel
theorem dX4_danced_64 : decode cX4_danced 64 = .ok (.iconst 1, 1) := by decide +kernel
theorem dX4_danced_65 : decode cX4_danced 65 = .ok (.iadd, 1) := by decide +kernel
theorem dX4_danced_66 : decode cX4_danced 66 = .ok (.iastore, 1) := by decide +kernel
theorem dX4_danced_67 : decode cX4_danced 67 = .ok (.aload_n 0, 1) := by decide +kernel
theorem dX4_danced_68 : decode cX4_danced 68 = .ok (.getfield 7, 3) := by decide +kernel
theorem dX4_danced_71 : decode cX4_danced 71 = .ok (.sipush 231, 3) := by decide +kernel
theorem dX4_danced_74 : decode cX4_danced 74 = .ok (.iload_n 1, 1) := by decide +kernel
theorem dX4_danced_75 : decode cX4_danced 75 = .ok (.iload_n 2, 1) := by decide +kernel
theorem dX4_danced_76 : decode cX4_danced 76 = .ok (.invokestatic 61, 3) := by decide +kernel
theorem dX4_danced_79 : decode cX4_danced 79 = .ok (.iadd, 1) := by decide +kernel
theorem dX4_danced_80 : decode cX4_danced 80 = .ok (.aload_n 0, 1) := by decide +kernel
theorem dX4_danced_81 : decode cX4_danced 81 = .ok (.getfield 7, 3) := by decide +kernel
theorem dX4_danced_84 : decode cX4_danced 84 = .ok (.iconst 3, 1) := by decide +kernel
theorem dX4_danced_85 : decode cX4_danced 85 = .ok (.iaload, 1) := by decide +kernel
theorem dX4_danced_86 : decode cX4_danced 86 = .ok (.iastore, 1) := by decide +kernel
theorem dX4_danced_87 : decode cX4_danced 87 = .ok (.return_, 1) := by decide +kernel
theorem dX4_rested_0 : decode cX4_rested 0 = .ok (.aload_n 0, 1) := by decide +kernel
theorem dX4_rested_1 : decode cX4_rested 1 = .ok (.getfield 7, 3) := by decide +kernel
theorem dX4_rested_4 : decode cX4_rested 4 = .ok (.bipush 24, 2) := by decide +kernel
theorem dX4_rested_6 : decode cX4_rested 6 = .ok (.iload_n 1, 1) := by decide +kernel
theorem dX4_rested_7 : decode cX4_rested 7 = .ok (.iadd, 1) := by decide +kernel
theorem dX4_rested_8 : decode cX4_rested 8 = .ok (.iaload, 1) := by decide +kernel
theorem dX4_rested_9 : decode cX4_rested 9 = .ok (.aload_n 0, 1) := by decide +kernel
theorem dX4_rested_10 : decode cX4_rested 10 = .ok (.getfield 7, 3) := by decide +kernel
theorem dX4_rested_13 : decode cX4_rested 13 = .ok (.iconst 1, 1) := by decide +kernel
theorem dX4_rested_14 : decode cX4_rested 14 = .ok (.iaload, 1) := by decide +kernel
theorem dX4_rested_15 : decode cX4_rested 15 = .ok (.iadd, 1) := by decide +kernel
theorem dX4_rested_16 : decode cX4_rested 16 = .ok (.istore_n 3, 1) := by decide +kernel
theorem dX4_rested_17 : decode cX4_rested 17 = .ok (.aload_n 0, 1) := by decide +kernel
theorem dX4_rested_18 : decode cX4_rested 18 = .ok (.getfield 7, 3) := by decide +kernel
theorem dX4_rested_21 : decode cX4_rested 21 = .ok (.bipush 24, 2) := by decide +kernel
theorem dX4_rested_23 : decode cX4_rested 23 = .ok (.iload_n 1, 1) := by decide +kernel
theorem dX4_rested_24 : decode cX4_rested 24 = .ok (.iadd, 1) := by decide +kernel
theorem dX4_rested_25 : decode cX4_rested 25 = .ok (.iload_n 3, 1) := by decide +kernel
theorem dX4_rested_26 : decode cX4_rested 26 = .ok (.bipush 20, 2) := by decide +kernel
theorem dX4_rested_28 : decode cX4_rested 28 = .ok (.if_icmp .le 8, 3) := by decide +kernel
theorem dX4_rested_31 : decode cX4_rested 31 = .ok (.bipush 20, 2) := by decide +kernel
theorem dX4_rested_33 : decode cX4_rested 33 = .ok (.goto 4, 3) := by decide +kernel
theorem dX4_rested_36 : decode cX4_rested 36 = .ok (.iload_n 3, 1) := by decide +kernel
theorem dX4_rested_37 : decode cX4_rested 37 = .ok (.iastore, 1) := by decide +kernel
theorem dX4_rested_38 : decode cX4_rested 38 = .ok (.aload_n 0, 1) := by decide +kernel
theorem dX4_rested_39 : decode cX4_rested 39 = .ok (.getfield 7, 3) := by decide +kernel
theorem dX4_rested_42 : decode cX4_rested 42 = .ok (.bipush 51, 2) := by decide +kernel
theorem dX4_rested_44 : decode cX4_rested 44 = .ok (.iload_n 1, 1) := by decide +kernel
theorem dX4_rested_45 : decode cX4_rested 45 = .ok (.iadd, 1) := by decide +kernel
theorem dX4_rested_46 : decode cX4_rested 46 = .ok (.dup2, 1) := by decide +kernel
theorem dX4_rested_47 : decode cX4_rested 47 = .ok (.iaload, 1) := by decide +kernel
theorem dX4_rested_48 : decode cX4_rested 48 = .ok (.iconst 1, 1) := by decide +kernel
theorem dX4_rested_49 : decode cX4_rested 49 = .ok (.iadd, 1) := by decide +kernel
theorem dX4_rested_50 : decode cX4_rested 50 = .ok (.iastore, 1) := by decide +kernel
theorem dX4_rested_51 : decode cX4_rested 51 = .ok (.aload_n 0, 1) := by decide +kernel
theorem dX4_rested_52 : decode cX4_rested 52 = .ok (.getfield 7, 3) := by decide +kernel
theorem dX4_rested_55 : decode cX4_rested 55 = .ok (.bipush 60, 2) := by decide +kernel
theorem dX4_rested_57 : decode cX4_rested 57 = .ok (.iload_n 1, 1) := by decide +kernel
theorem dX4_rested_58 : decode cX4_rested 58 = .ok (.iadd, 1) := by decide +kernel
theorem dX4_rested_59 : decode cX4_rested 59 = .ok (.dup2, 1) := by decide +kernel
theorem dX4_rested_60 : decode cX4_rested 60 = .ok (.iaload, 1) := by decide +kernel
theorem dX4_rested_61 : decode cX4_rested 61 = .ok (.iload_n 2, 1) := by decide +kernel
theorem dX4_rested_62 : decode cX4_rested 62 = .ok (.ifCond .eq 7, 3) := by decide +kernel
theorem dX4_rested_65 : decode cX4_rested 65 = .ok (.iconst 1, 1) := by decide +kernel
theorem dX4_rested_66 : decode cX4_rested 66 = .ok (.goto 4, 3) := by decide +kernel
theorem dX4_rested_69 : decode cX4_rested 69 = .ok (.iconst 0, 1) := by decide +kernel
theorem dX4_rested_70 : decode cX4_rested 70 = .ok (.iadd, 1) := by decide +kernel
theorem dX4_rested_71 : decode cX4_rested 71 = .ok (.iastore, 1) := by decide +kernel
theorem dX4_rested_72 : decode cX4_rested 72 = .ok (.return_, 1) := by decide +kernel
set_option maxRecDepth 20000 in
theorem ggX4_round_X4_dances : GoodIn wsX4_round wsX4_dances := goodIn_r _ [7, 8, 9, 6, 10, 11, 12, 13, 14, 2, 15, 16, 17, 18, 34, 35, 36, 37, 38, 39, 40, 41, 42, 43, 44, 45, 46] (by decide +kernel) (by decide +kernel)
set_option maxRecDepth 20000 in
theorem gX4_round_X4_dances : GoodIn wsX4_round (wsV RX4 67 RX4 yX4_dances wsX4_dances) := goodIn_app (goodIn_of _ (by decide +kernel)) ggX4_round_X4_dances
set_option maxRecDepth 20000 in
theorem ggX4_round_X4_partnerBy : GoodIn wsX4_round wsX4_partnerBy := goodIn_r _ [10] (by decide +kernel) (by decide +kernel)
set_option maxRecDepth 20000 in
theorem gX4_round_X4_partnerBy : GoodIn wsX4_round (va_wsS RX4 54 yX4_partnerBy wsX4_partnerBy) := goodIn_app (goodIn_of _ (by decide +kernel)) ggX4_round_X4_partnerBy
set_option maxRecDepth 20000 in
theorem ggX4_round_X4_danced : GoodIn wsX4_round wsX4_danced := goodIn_r _ [22, 2, 23, 24, 25, 6, 26, 27, 28, 29, 34, 35, 36, 37, 38, 39, 40, 41, 42, 43, 44, 45, 46] (by decide +kernel) (by decide +kernel)
set_option maxRecDepth 20000 in
theorem gX4_round_X4_danced : GoodIn wsX4_round (wsV RX4 71 RX4 yX4_danced wsX4_danced) := goodIn_app (goodIn_of _ (by decide +kernel)) ggX4_round_X4_danced
set_option maxRecDepth 20000 in
theorem ggX4_round_X4_isThere : GoodIn wsX4_round wsX4_isThere := goodIn_r _ [18, 2, 34, 35, 36, 37, 38, 39, 40, 41, 42, 43, 44, 45, 46] (by decide +kernel) (by decide +kernel)
set_option maxRecDepth 20000 in
theorem gX4_round_X4_isThere : GoodIn wsX4_round (wsV RX4 50 RX4 yX4_isThere wsX4_isThere) := goodIn_app (goodIn_of _ (by decide +kernel)) ggX4_round_X4_isThere
set_option maxRecDepth 20000 in
theorem ggX4_round_X4_rested : GoodIn wsX4_round wsX4_rested := goodIn_r _ [33, 2, 34, 35, 36, 37, 38, 39, 40, 41, 42, 43, 44, 45, 46] (by decide +kernel) (by decide +kernel)
set_option maxRecDepth 20000 in
theorem gX4_round_X4_rested : GoodIn wsX4_round (wsV RX4 75 RX4 yX4_rested wsX4_rested) := goodIn_app (goodIn_of _ (by decide +kernel)) ggX4_round_X4_rested
theorem dX4_round_0 : decode cX4_round 0 = .ok (.iconst 0, 1) := by decide +kernel
theorem dX4_round_1 : decode cX4_round 1 = .ok (.istore_n 2, 1) := by decide +kernel
theorem dX4_round_2 : decode cX4_round 2 = .ok (.iconst 0, 1) := by decide +kernel
theorem dX4_round_3 : decode cX4_round 3 = .ok (.istore_n 3, 1) := by decide +kernel
theorem dX4_round_4 : decode cX4_round 4 = .ok (.iload_n 3, 1) := by decide +kernel
theorem dX4_round_5 : decode cX4_round 5 = .ok (.bipush 9, 2) := by decide +kernel
theorem dX4_round_7 : decode cX4_round 7 = .ok (.if_icmp .ge 38, 3) := by decide +kernel
theorem dX4_round_10 : decode cX4_round 10 = .ok (.aload_n 0, 1) := by decide +kernel
theorem dX4_round_11 : decode cX4_round 11 = .ok (.getfield 25, 3) := by decide +kernel
theorem dX4_round_14 : decode cX4_round 14 = .ok (.iload_n 3, 1) := by decide +kernel
theorem dX4_round_15 : decode cX4_round 15 = .ok (.aload_n 0, 1) := by decide +kernel
theorem dX4_round_16 : decode cX4_round 16 = .ok (.iload_n 3, 1) := by decide +kernel
theorem dX4_round_17 : decode cX4_round 17 = .ok (.iload_n 1, 1) := by decide +kernel
theorem dX4_round_18 : decode cX4_round 18 = .ok (.invokevirtual 67, 3) := by decide +kernel
theorem dX4_round_21 : decode cX4_round 21 = .ok (.ifCond .eq 7, 3) := by decide +kernel
theorem dX4_round_24 : decode cX4_round 24 = .ok (.iconst 1, 1) := by decide +kernel
theorem dX4_round_25 : decode cX4_round 25 = .ok (.goto 4, 3) := by decide +kernel
theorem dX4_round_28 : decode cX4_round 28 = .ok (.iconst 0, 1) := by decide +kernel
theorem dX4_round_29 : decode cX4_round 29 = .ok (.iastore, 1) := by decide +kernel
theorem dX4_round_30 : decode cX4_round 30 = .ok (.iload_n 2, 1) := by decide +kernel
theorem dX4_round_31 : decode cX4_round 31 = .ok (.aload_n 0, 1) := by decide +kernel
theorem dX4_round_32 : decode cX4_round 32 = .ok (.getfield 25, 3) := by decide +kernel
theorem dX4_round_35 : decode cX4_round 35 = .ok (.iload_n 3, 1) := by decide +kernel
theorem dX4_round_36 : decode cX4_round 36 = .ok (.iaload, 1) := by decide +kernel
theorem dX4_round_37 : decode cX4_round 37 = .ok (.iadd, 1) := by decide +kernel
theorem dX4_round_38 : decode cX4_round 38 = .ok (.istore_n 2, 1) := by decide +kernel
theorem dX4_round_39 : decode cX4_round 39 = .ok (.iinc 3 1, 3) := by decide +kernel
theorem dX4_round_42 : decode cX4_round 42 = .ok (.goto (-38), 3) := by decide +kernel
theorem dX4_round_45 : decode cX4_round 45 = .ok (.iconst 0, 1) := by decide +kernel
theorem dX4_round_46 : decode cX4_round 46 = .ok (.istore_n 3, 1) := by decide +kernel
theorem dX4_round_47 : decode cX4_round 47 = .ok (.iload_n 3, 1) := by decide +kernel
theorem dX4_round_48 : decode cX4_round 48 = .ok (.bipush 9, 2) := by decide +kernel
theorem dX4_round_50 : decode cX4_round 50 = .ok (.if_icmp .ge 60, 3) := by decide +kernel
theorem dX4_round_53 : decode cX4_round 53 = .ok (.iload_n 3, 1) := by decide +kernel
theorem dX4_round_54 : decode cX4_round 54 = .ok (.iload_n 1, 1) := by decide +kernel
theorem dX4_round_55 : decode cX4_round 55 = .ok (.invokestatic 54, 3) := by decide +kernel
theorem dX4_round_58 : decode cX4_round 58 = .ok (.istore 4, 2) := by decide +kernel
theorem dX4_round_60 : decode cX4_round 60 = .ok (.aload_n 0, 1) := by decide +kernel
theorem dX4_round_61 : decode cX4_round 61 = .ok (.getfield 25, 3) := by decide +kernel
theorem dX4_round_64 : decode cX4_round 64 = .ok (.iload_n 3, 1) := by decide +kernel
theorem dX4_round_65 : decode cX4_round 65 = .ok (.iaload, 1) := by decide +kernel
theorem dX4_round_66 : decode cX4_round 66 = .ok (.iconst 1, 1) := by decide +kernel
theorem dX4_round_67 : decode cX4_round 67 = .ok (.if_icmp .ne 13, 3) := by decide +kernel
theorem dX4_round_70 : decode cX4_round 70 = .ok (.aload_n 0, 1) := by decide +kernel
theorem dX4_round_71 : decode cX4_round 71 = .ok (.iload_n 3, 1) := by decide +kernel
theorem dX4_round_72 : decode cX4_round 72 = .ok (.iload 4, 2) := by decide +kernel
theorem dX4_round_74 : decode cX4_round 74 = .ok (.invokevirtual 71, 3) := by decide +kernel
theorem dX4_round_77 : decode cX4_round 77 = .ok (.goto 27, 3) := by decide +kernel
theorem dX4_round_80 : decode cX4_round 80 = .ok (.aload_n 0, 1) := by decide +kernel
theorem dX4_round_81 : decode cX4_round 81 = .ok (.iload_n 3, 1) := by decide +kernel
theorem dX4_round_82 : decode cX4_round 82 = .ok (.invokevirtual 50, 3) := by decide +kernel
theorem dX4_round_85 : decode cX4_round 85 = .ok (.ifCond .eq 19, 3) := by decide +kernel
theorem dX4_round_88 : decode cX4_round 88 = .ok (.aload_n 0, 1) := by decide +kernel
theorem dX4_round_89 : decode cX4_round 89 = .ok (.iload_n 3, 1) := by decide +kernel
theorem dX4_round_90 : decode cX4_round 90 = .ok (.iload 4, 2) := by decide +kernel
theorem dX4_round_92 : decode cX4_round 92 = .ok (.iload_n 3, 1) := by decide +kernel
theorem dX4_round_93 : decode cX4_round 93 = .ok (.if_icmp .eq 7, 3) := by decide +kernel
theorem dX4_round_96 : decode cX4_round 96 = .ok (.iconst 1, 1) := by decide +kernel
theorem dX4_round_97 : decode cX4_round 97 = .ok (.goto 4, 3) := by decide +kernel
theorem dX4_round_100 : decode cX4_round 100 = .ok (.iconst 0, 1) := by decide +kernel
theorem dX4_round_101 : decode cX4_round 101 = .ok (.invokevirtual 75, 3) := by decide +kernel
theorem dX4_round_104 : decode cX4_round 104 = .ok (.iinc 3 1, 3) := by decide +kernel
theorem dX4_round_107 : decode cX4_round 107 = .ok (.goto (-60), 3) := by decide +kernel
theorem dX4_round_110 : decode cX4_round 110 = .ok (.aload_n 0, 1) := by decide +kernel
theorem dX4_round_111 : decode cX4_round 111 = .ok (.getfield 7, 3) := by decide +kernel
theorem dX4_round_114 : decode cX4_round 114 = .ok (.iconst 4, 1) := by decide +kernel
theorem dX4_round_115 : decode cX4_round 115 = .ok (.dup2, 1) := by decide +kernel
theorem dX4_round_116 : decode cX4_round 116 = .ok (.iaload, 1) := by decide +kernel
theorem dX4_round_117 : decode cX4_round 117 = .ok (.iload_n 2, 1) := by decide +kernel
theorem dX4_round_118 : decode cX4_round 118 = .ok (.iconst 2, 1) := by decide +kernel
theorem dX4_round_119 : decode cX4_round 119 = .ok (.idiv, 1) := by decide +kernel
theorem dX4_round_120 : decode cX4_round 120 = .ok (.iadd, 1) := by decide +kernel
theorem dX4_round_121 : decode cX4_round 121 = .ok (.iastore, 1) := by decide +kernel
theorem dX4_round_122 : decode cX4_round 122 = .ok (.aload_n 0, 1) := by decide +kernel
theorem dX4_round_123 : decode cX4_round 123 = .ok (.getfield 7, 3) := by decide +kernel
theorem dX4_round_126 : decode cX4_round 126 = .ok (.bipush 6, 2) := by decide +kernel
theorem dX4_round_128 : decode cX4_round 128 = .ok (.iload_n 1, 1) := by decide +kernel
theorem dX4_round_129 : decode cX4_round 129 = .ok (.bipush 9, 2) := by decide +kernel
theorem dX4_round_131 : decode cX4_round 131 = .ok (.irem, 1) := by decide +kernel
theorem dX4_round_132 : decode cX4_round 132 = .ok (.iadd, 1) := by decide +kernel
theorem dX4_round_133 : decode cX4_round 133 = .ok (.dup2, 1) := by decide +kernel
theorem dX4_round_134 : decode cX4_round 134 = .ok (.iaload, 1) := by decide +kernel
theorem dX4_round_135 : decode cX4_round 135 = .ok (.iconst 1, 1) := by decide +kernel
theorem dX4_round_136 : decode cX4_round 136 = .ok (.iadd, 1) := by decide +kernel
theorem dX4_round_137 : decode cX4_round 137 = .ok (.iastore, 1) := by decide +kernel
theorem dX4_round_138 : decode cX4_round 138 = .ok (.aload_n 0, 1) := by decide +kernel
theorem dX4_round_139 : decode cX4_round 139 = .ok (.getfield 7, 3) := by decide +kernel
theorem dX4_round_142 : decode cX4_round 142 = .ok (.iconst 5, 1) := by decide +kernel
theorem dX4_round_143 : decode cX4_round 143 = .ok (.iload_n 1, 1) := by decide +kernel
theorem dX4_round_144 : decode cX4_round 144 = .ok (.iastore, 1) := by decide +kernel
theorem dX4_round_145 : decode cX4_round 145 = .ok (.aload_n 0, 1) := by decide +kernel
theorem dX4_round_146 : decode cX4_round 146 = .ok (.getfield 7, 3) := by decide +kernel
theorem dX4_round_149 : decode cX4_round 149 = .ok (.iconst 3, 1) := by decide +kernel
theorem dX4_round_150 : decode cX4_round 150 = .ok (.dup2, 1) := by decide +kernel
theorem dX4_round_151 : decode cX4_round 151 = .ok (.iaload, 1) := by decide +kernel
theorem dX4_round_152 : decode cX4_round 152 = .ok (.iconst 1, 1) := by decide +kernel
theorem dX4_round_153 : decode cX4_round 153 = .ok (.iadd, 1) := by decide +kernel
theorem dX4_round_154 : decode cX4_round 154 = .ok (.iastore, 1) := by decide +kernel
theorem dX4_round_155 : decode cX4_round 155 = .ok (.iload_n 2, 1) := by decide +kernel
theorem dX4_round_156 : decode cX4_round 156 = .ok (.iconst 2, 1) := by decide +kernel
theorem dX4_round_157 : decode cX4_round 157 = .ok (.idiv, 1) := by decide +kernel
theorem dX4_round_158 : decode cX4_round 158 = .ok (.ireturn, 1) := by decide +kernel
theorem dX4_sum_0 : decode cX4_sum 0 = .ok (.iconst 0, 1) := by decide +kernel
theorem dX4_sum_1 : decode cX4_sum 1 = .ok (.istore_n 2, 1) := by decide +kernel
theorem dX4_sum_2 : decode cX4_sum 2 = .ok (.iconst 0, 1) := by decide +kernel
theorem dX4_sum_3 : decode cX4_sum 3 = .ok (.istore_n 3, 1) := by decide +kernel
theorem dX4_sum_4 : decode cX4_sum 4 = .ok (.iload_n 3, 1) := by decide +kernel
theorem dX4_sum_5 : decode cX4_sum 5 = .ok (.bipush 9, 2) := by decide +kernel
theorem dX4_sum_7 : decode cX4_sum 7 = .ok (.if_icmp .ge 20, 3) := by decide +kernel
theorem dX4_sum_10 : decode cX4_sum 10 = .ok (.iload_n 2, 1) := by decide +kernel
theorem dX4_sum_11 : decode cX4_sum 11 = .ok (.aload_n 0, 1) := by decide +kernel
theorem dX4_sum_12 : decode cX4_sum 12 = .ok (.getfield 7, 3) := by decide +kernel
theorem dX4_sum_15 : decode cX4_sum 15 = .ok (.iload_n 1, 1) := by decide +kernel
theorem dX4_sum_16 : decode cX4_sum 16 = .ok (.iload_n 3, 1) := by decide +kernel
theorem dX4_sum_17 : decode cX4_sum 17 = .ok (.iadd, 1) := by decide +kernel
theorem dX4_sum_18 : decode cX4_sum 18 = .ok (.iaload, 1) := by decide +kernel
theorem dX4_sum_19 : decode cX4_sum 19 = .ok (.iadd, 1) := by decide +kernel
theorem dX4_sum_20 : decode cX4_sum 20 = .ok (.istore_n 2, 1) := by decide +kernel
theorem dX4_sum_21 : decode cX4_sum 21 = .ok (.iinc 3 1, 3) := by decide +kernel
theorem dX4_sum_24 : decode cX4_sum 24 = .ok (.goto (-20), 3) := by decide +kernel
theorem dX4_sum_27 : decode cX4_sum 27 = .ok (.iload_n 2, 1) := by decide +kernel
theorem dX4_sum_28 : decode cX4_sum 28 = .ok (.ireturn, 1) := by decide +kernel
set_option maxRecDepth 20000 in
theorem ggX4_isNew_X4_isThere : GoodIn wsX4_isNew wsX4_isThere := goodIn_r _ [6, 1, 10, 11, 12, 13, 14, 15, 16, 17, 18, 19, 20, 21, 22] (by decide +kernel) (by decide +kernel)
set_option maxRecDepth 20000 in
theorem gX4_isNew_X4_isThere : GoodIn wsX4_isNew (wsV RX4 50 RX4 yX4_isThere wsX4_isThere) := goodIn_app (goodIn_of _ (by decide +kernel)) ggX4_isNew_X4_isThere
set_option maxRecDepth 20000 in
theorem ggX4_isNew_X4_pairAt : GoodIn wsX4_isNew wsX4_pairAt := goodIn_r _ [9] (by decide +kernel) (by decide +kernel)
set_option maxRecDepth 20000 in
theorem gX4_isNew_X4_pairAt : GoodIn wsX4_isNew (va_wsS RX4 61 yX4_pairAt wsX4_pairAt) := goodIn_app (goodIn_of _ (by decide +kernel)) ggX4_isNew_X4_pairAt
theorem dX4_isNew_0 : decode cX4_isNew 0 = .ok (.aload_n 0, 1) := by decide +kernel
theorem dX4_isNew_1 : decode cX4_isNew 1 = .ok (.iload_n 1, 1) := by decide +kernel
theorem dX4_isNew_2 : decode cX4_isNew 2 = .ok (.invokevirtual 50, 3) := by decide +kernel
theorem dX4_isNew_5 : decode cX4_isNew 5 = .ok (.ifCond .eq 32, 3) := by decide +kernel
theorem dX4_isNew_8 : decode cX4_isNew 8 = .ok (.aload_n 0, 1) := by decide +kernel
theorem dX4_isNew_9 : decode cX4_isNew 9 = .ok (.iload_n 2, 1) := by decide +kernel
theorem dX4_isNew_10 : decode cX4_isNew 10 = .ok (.invokevirtual 50, 3) := by decide +kernel
theorem dX4_isNew_13 : decode cX4_isNew 13 = .ok (.ifCond .eq 24, 3) := by decide +kernel
theorem dX4_isNew_16 : decode cX4_isNew 16 = .ok (.aload_n 0, 1) := by decide +kernel
theorem dX4_isNew_17 : decode cX4_isNew 17 = .ok (.getfield 7, 3) := by decide +kernel
theorem dX4_isNew_20 : decode cX4_isNew 20 = .ok (.sipush 150, 3) := by decide +kernel
theorem dX4_isNew_23 : decode cX4_isNew 23 = .ok (.iload_n 1, 1) := by decide +kernel
theorem dX4_isNew_24 : decode cX4_isNew 24 = .ok (.iload_n 2, 1) := by decide +kernel
theorem dX4_isNew_25 : decode cX4_isNew 25 = .ok (.invokestatic 61, 3) := by decide +kernel
theorem dX4_isNew_28 : decode cX4_isNew 28 = .ok (.iadd, 1) := by decide +kernel
theorem dX4_isNew_29 : decode cX4_isNew 29 = .ok (.iaload, 1) := by decide +kernel
theorem dX4_isNew_30 : decode cX4_isNew 30 = .ok (.ifCond .ne 7, 3) := by decide +kernel
theorem dX4_isNew_33 : decode cX4_isNew 33 = .ok (.iconst 1, 1) := by decide +kernel
theorem dX4_isNew_34 : decode cX4_isNew 34 = .ok (.goto 4, 3) := by decide +kernel
theorem dX4_isNew_37 : decode cX4_isNew 37 = .ok (.iconst 0, 1) := by decide +kernel
theorem dX4_isNew_38 : decode cX4_isNew 38 = .ok (.ireturn, 1) := by decide +kernel
set_option maxRecDepth 20000 in
theorem ggX4_newPairs_X4_isNew : GoodIn wsX4_newPairs wsX4_isNew := goodIn_r _ [5, 6, 7, 8, 9, 4, 10, 11, 12, 13, 14, 15, 16, 17, 18, 19, 20, 21, 22, 23, 24, 25, 26] (by decide +kernel) (by decide +kernel)
set_option maxRecDepth 20000 in
theorem gX4_newPairs_X4_isNew : GoodIn wsX4_newPairs (wsV RX4 79 RX4 yX4_isNew wsX4_isNew) := goodIn_app (goodIn_of _ (by decide +kernel)) ggX4_newPairs_X4_isNew
theorem dX4_newPairs_0 : decode cX4_newPairs 0 = .ok (.iconst 0, 1) := by decide +kernel
theorem dX4_newPairs_1 : decode cX4_newPairs 1 = .ok (.istore_n 1, 1) := by decide +kernel
theorem dX4_newPairs_2 : decode cX4_newPairs 2 = .ok (.iconst 0, 1) := by decide +kernel
theorem dX4_newPairs_3 : decode cX4_newPairs 3 = .ok (.istore_n 2, 1) := by decide +kernel
theorem dX4_newPairs_4 : decode cX4_newPairs 4 = .ok (.iload_n 2, 1) := by decide +kernel
theorem dX4_newPairs_5 : decode cX4_newPairs 5 = .ok (.bipush 9, 2) := by decide +kernel
theorem dX4_newPairs_7 : decode cX4_newPairs 7 = .ok (.if_icmp .ge 42, 3) := by decide +kernel
theorem dX4_newPairs_10 : decode cX4_newPairs 10 = .ok (.iload_n 2, 1) := by decide +kernel
theorem dX4_newPairs_11 : decode cX4_newPairs 11 = .ok (.iconst 1, 1) := by decide +kernel
theorem dX4_newPairs_12 : decode cX4_newPairs 12 = .ok (.iadd, 1) := by decide +kernel
theorem dX4_newPairs_13 : decode cX4_newPairs 13 = .ok (.istore_n 3, 1) := by decide +kernel
theorem dX4_newPairs_14 : decode cX4_newPairs 14 = .ok (.iload_n 3, 1) := by decide +kernel
theorem dX4_newPairs_15 : decode cX4_newPairs 15 = .ok (.bipush 9, 2) := by decide +kernel
theorem dX4_newPairs_17 : decode cX4_newPairs 17 = .ok (.if_icmp .ge 26, 3) := by decide +kernel
theorem dX4_newPairs_20 : decode cX4_newPairs 20 = .ok (.iload_n 1, 1) := by decide +kernel
theorem dX4_newPairs_21 : decode cX4_newPairs 21 = .ok (.aload_n 0, 1) := by decide +kernel
theorem dX4_newPairs_22 : decode cX4_newPairs 22 = .ok (.iload_n 2, 1) := by decide +kernel
theorem dX4_newPairs_23 : decode cX4_newPairs 23 = .ok (.iload_n 3, 1) := by decide +kernel
theorem dX4_newPairs_24 : decode cX4_newPairs 24 = .ok (.invokevirtual 79, 3) := by decide +kernel
theorem dX4_newPairs_27 : decode cX4_newPairs 27 = .ok (.ifCond .eq 7, 3) := by decide +kernel
theorem dX4_newPairs_30 : decode cX4_newPairs 30 = .ok (.iconst 1, 1) := by decide +kernel
theorem dX4_newPairs_31 : decode cX4_newPairs 31 = .ok (.goto 4, 3) := by decide +kernel
theorem dX4_newPairs_34 : decode cX4_newPairs 34 = .ok (.iconst 0, 1) := by decide +kernel
theorem dX4_newPairs_35 : decode cX4_newPairs 35 = .ok (.iadd, 1) := by decide +kernel
theorem dX4_newPairs_36 : decode cX4_newPairs 36 = .ok (.istore_n 1, 1) := by decide +kernel
theorem dX4_newPairs_37 : decode cX4_newPairs 37 = .ok (.iinc 3 1, 3) := by decide +kernel
theorem dX4_newPairs_40 : decode cX4_newPairs 40 = .ok (.goto (-26), 3) := by decide +kernel
theorem dX4_newPairs_43 : decode cX4_newPairs 43 = .ok (.iinc 2 1, 3) := by decide +kernel
theorem dX4_newPairs_46 : decode cX4_newPairs 46 = .ok (.goto (-42), 3) := by decide +kernel
theorem dX4_newPairs_49 : decode cX4_newPairs 49 = .ok (.iload_n 1, 1) := by decide +kernel
theorem dX4_newPairs_50 : decode cX4_newPairs 50 = .ok (.ireturn, 1) := by decide +kernel
set_option maxRecDepth 20000 in
theorem ggX4_isSetting_X4_in : GoodIn wsX4_isSetting wsX4_in := goodIn_r _ [7] (by decide +kernel) (by decide +kernel)
set_option maxRecDepth 20000 in
theorem gX4_isSetting_X4_in : GoodIn wsX4_isSetting (va_wsS RX4 44 yX4_in wsX4_in) := goodIn_app (goodIn_of _ (by decide +kernel)) ggX4_isSetting_X4_in
theorem dX4_isSetting_0 : decode cX4_isSetting 0 = .ok (.iload_n 0, 1) := by decide +kernel
theorem dX4_isSetting_1 : decode cX4_isSetting 1 = .ok (.i2l, 1) := by decide +kernel
theorem dX4_isSetting_2 : decode cX4_isSetting 2 = .ok (.lconst 0, 1) := by decide +kernel
theorem dX4_isSetting_3 : decode cX4_isSetting 3 = .ok (.ldc2_w 82, 3) := by decide +kernel
theorem dX4_isSetting_6 : decode cX4_isSetting 6 = .ok (.invokestatic 44, 3) := by decide +kernel
theorem dX4_isSetting_9 : decode cX4_isSetting 9 = .ok (.ifCond .eq 30, 3) := by decide +kernel
theorem dX4_isSetting_12 : decode cX4_isSetting 12 = .ok (.iload_n 1, 1) := by decide +kernel
theorem dX4_isSetting_13 : decode cX4_isSetting 13 = .ok (.i2l, 1) := by decide +kernel
theorem dX4_isSetting_14 : decode cX4_isSetting 14 = .ok (.iload_n 0, 1) := by decide +kernel
theorem dX4_isSetting_15 : decode cX4_isSetting 15 = .ok (.iconst 2, 1) := by decide +kernel
theorem dX4_isSetting_16 : decode cX4_isSetting 16 = .ok (.if_icmp .ne 9, 3) := by decide +kernel
theorem dX4_isSetting_19 : decode cX4_isSetting 19 = .ok (.ldc2_w 84, 3) := by decide +kernel
theorem dX4_isSetting_22 : decode cX4_isSetting 22 = .ok (.goto 4, 3) := by decide +kernel
theorem dX4_isSetting_25 : decode cX4_isSetting 25 = .ok (.lconst 0, 1) := by decide +kernel
theorem dX4_isSetting_26 : decode cX4_isSetting 26 = .ok (.ldc2_w 86, 3) := by decide +kernel
theorem dX4_isSetting_29 : decode cX4_isSetting 29 = .ok (.invokestatic 44, 3) := by decide +kernel
theorem dX4_isSetting_32 : decode cX4_isSetting 32 = .ok (.ifCond .eq 7, 3) := by decide +kernel
theorem dX4_isSetting_35 : decode cX4_isSetting 35 = .ok (.iconst 1, 1) := by decide +kernel
theorem dX4_isSetting_36 : decode cX4_isSetting 36 = .ok (.goto 4, 3) := by decide +kernel
theorem dX4_isSetting_39 : decode cX4_isSetting 39 = .ok (.iconst 0, 1) := by decide +kernel
theorem dX4_isSetting_40 : decode cX4_isSetting 40 = .ok (.ireturn, 1) := by decide +kernel
set_option maxRecDepth 20000 in
theorem ggX4_set_X4_isSetting : GoodIn wsX4_set wsX4_isSetting := goodIn_r _ [6, 7, 8, 9, 10, 11, 5, 12] (by decide +kernel) (by decide +kernel)
set_option maxRecDepth 20000 in
theorem gX4_set_X4_isSetting : GoodIn wsX4_set (va_wsS RX4 88 yX4_isSetting wsX4_isSetting) := goodIn_app (goodIn_of _ (by decide +kernel)) ggX4_set_X4_isSetting
set_option maxRecDepth 20000 in
theorem ggX4_set_X4_changes : GoodIn wsX4_set wsX4_changes := goodIn_r _ [16, 17, 18, 2, 19, 20, 21, 22, 23, 24, 25, 26, 27, 28, 29, 30, 31] (by decide +kernel) (by decide +kernel)
set_option maxRecDepth 20000 in
theorem gX4_set_X4_changes : GoodIn wsX4_set (wsV RX4 92 RX4 yX4_changes wsX4_changes) := goodIn_app (goodIn_of _ (by decide +kernel)) ggX4_set_X4_changes
theorem dX4_set_0 : decode cX4_set 0 = .ok (.iload_n 1, 1) := by decide +kernel
theorem dX4_set_1 : decode cX4_set 1 = .ok (.iload_n 2, 1) := by decide +kernel
theorem dX4_set_2 : decode cX4_set 2 = .ok (.invokestatic 88, 3) := by decide +kernel
theorem dX4_set_5 : decode cX4_set 5 = .ok (.ifCond .ne 6, 3) := by decide +kernel
theorem dX4_set_8 : decode cX4_set 8 = .ok (.ldc 91, 2) := by decide +kernel
theorem dX4_set_10 : decode cX4_set 10 = .ok (.ireturn, 1) := by decide +kernel
theorem dX4_set_11 : decode cX4_set 11 = .ok (.aload_n 0, 1) := by decide +kernel
theorem dX4_set_12 : decode cX4_set 12 = .ok (.invokevirtual 92, 3) := by decide +kernel
theorem dX4_set_15 : decode cX4_set 15 = .ok (.aload_n 0, 1) := by decide +kernel
theorem dX4_set_16 : decode cX4_set 16 = .ok (.getfield 7, 3) := by decide +kernel
theorem dX4_set_19 : decode cX4_set 19 = .ok (.iload_n 1, 1) := by decide +kernel
theorem dX4_set_20 : decode cX4_set 20 = .ok (.iaload, 1) := by decide +kernel
theorem dX4_set_21 : decode cX4_set 21 = .ok (.istore_n 3, 1) := by decide +kernel
theorem dX4_set_22 : decode cX4_set 22 = .ok (.aload_n 0, 1) := by decide +kernel
theorem dX4_set_23 : decode cX4_set 23 = .ok (.getfield 7, 3) := by decide +kernel
theorem dX4_set_26 : decode cX4_set 26 = .ok (.iload_n 1, 1) := by decide +kernel
theorem dX4_set_27 : decode cX4_set 27 = .ok (.iload_n 2, 1) := by decide +kernel
theorem dX4_set_28 : decode cX4_set 28 = .ok (.iastore, 1) := by decide +kernel
theorem dX4_set_29 : decode cX4_set 29 = .ok (.iload_n 3, 1) := by decide +kernel
theorem dX4_set_30 : decode cX4_set 30 = .ok (.ireturn, 1) := by decide +kernel
set_option maxRecDepth 20000 in
theorem ggX4_like_X4_isVillager : GoodIn wsX4_like wsX4_isVillager := goodIn_r _ [9, 10, 11, 12, 8, 13] (by decide +kernel) (by decide +kernel)
set_option maxRecDepth 20000 in
theorem gX4_like_X4_isVillager : GoodIn wsX4_like (va_wsS RX4 95 yX4_isVillager wsX4_isVillager) := goodIn_app (goodIn_of _ (by decide +kernel)) ggX4_like_X4_isVillager
set_option maxRecDepth 20000 in
theorem ggX4_like_X4_in : GoodIn wsX4_like wsX4_in := goodIn_r _ [13] (by decide +kernel) (by decide +kernel)
set_option maxRecDepth 20000 in
theorem gX4_like_X4_in : GoodIn wsX4_like (va_wsS RX4 44 yX4_in wsX4_in) := goodIn_app (goodIn_of _ (by decide +kernel)) ggX4_like_X4_in
set_option maxRecDepth 20000 in
theorem ggX4_like_X4_changes : GoodIn wsX4_like wsX4_changes := goodIn_r _ [17, 18, 19, 5, 23, 24, 25, 26, 27, 28, 29, 30, 31, 32, 33, 34, 35] (by decide +kernel) (by decide +kernel)
set_option maxRecDepth 20000 in
theorem gX4_like_X4_changes : GoodIn wsX4_like (wsV RX4 92 RX4 yX4_changes wsX4_changes) := goodIn_app (goodIn_of _ (by decide +kernel)) ggX4_like_X4_changes
set_option maxRecDepth 20000 in
theorem ggX4_like_X4_pairAt : GoodIn wsX4_like wsX4_pairAt := goodIn_r _ [22] (by decide +kernel) (by decide +kernel)
set_option maxRecDepth 20000 in
theorem gX4_like_X4_pairAt : GoodIn wsX4_like (va_wsS RX4 61 yX4_pairAt wsX4_pairAt) := goodIn_app (goodIn_of _ (by decide +kernel)) ggX4_like_X4_pairAt
theorem dX4_like_0 : decode cX4_like 0 = .ok (.iload_n 1, 1) := by decide +kernel
theorem dX4_like_1 : decode cX4_like 1 = .ok (.invokestatic 95, 3) := by decide +kernel
theorem dX4_like_4 : decode cX4_like 4 = .ok (.ifCond .eq 10, 3) := by decide +kernel
theorem dX4_like_7 : decode cX4_like 7 = .ok (.iload_n 2, 1) := by decide +kernel
theorem dX4_like_8 : decode cX4_like 8 = .ok (.invokestatic 95, 3) := by decide +kernel
theorem dX4_like_11 : decode cX4_like 11 = .ok (.ifCond .ne 6, 3) := by decide +kernel
theorem dX4_like_14 : decode cX4_like 14 = .ok (.ldc 98, 2) := by decide +kernel
theorem dX4_like_16 : decode cX4_like 16 = .ok (.ireturn, 1) := by decide +kernel
theorem dX4_like_17 : decode cX4_like 17 = .ok (.iload_n 1, 1) := by decide +kernel
theorem dX4_like_18 : decode cX4_like 18 = .ok (.iload_n 2, 1) := by decide +kernel
theorem dX4_like_19 : decode cX4_like 19 = .ok (.if_icmp .eq 17, 3) := by decide +kernel
theorem dX4_like_22 : decode cX4_like 22 = .ok (.iload_n 3, 1) := by decide +kernel
theorem dX4_like_23 : decode cX4_like 23 = .ok (.i2l, 1) := by decide +kernel
theorem dX4_like_24 : decode cX4_like 24 = .ok (.ldc2_w 84, 3) := by decide +kernel
theorem dX4_like_27 : decode cX4_like 27 = .ok (.ldc2_w 86, 3) := by decide +kernel
theorem dX4_like_30 : decode cX4_like 30 = .ok (.invokestatic 44, 3) := by decide +kernel
theorem dX4_like_33 : decode cX4_like 33 = .ok (.ifCond .ne 6, 3) := by decide +kernel
theorem dX4_like_36 : decode cX4_like 36 = .ok (.ldc 91, 2) := by decide +kernel
theorem dX4_like_38 : decode cX4_like 38 = .ok (.ireturn, 1) := by decide +kernel
theorem dX4_like_39 : decode cX4_like 39 = .ok (.aload_n 0, 1) := by decide +kernel
theorem dX4_like_40 : decode cX4_like 40 = .ok (.invokevirtual 92, 3) := by decide +kernel
theorem dX4_like_43 : decode cX4_like 43 = .ok (.aload_n 0, 1) := by decide +kernel
theorem dX4_like_44 : decode cX4_like 44 = .ok (.getfield 7, 3) := by decide +kernel
theorem dX4_like_47 : decode cX4_like 47 = .ok (.bipush 69, 2) := by decide +kernel
theorem dX4_like_49 : decode cX4_like 49 = .ok (.iload_n 1, 1) := by decide +kernel
theorem dX4_like_50 : decode cX4_like 50 = .ok (.iload_n 2, 1) := by decide +kernel
theorem dX4_like_51 : decode cX4_like 51 = .ok (.invokestatic 61, 3) := by decide +kernel
theorem dX4_like_54 : decode cX4_like 54 = .ok (.iadd, 1) := by decide +kernel
theorem dX4_like_55 : decode cX4_like 55 = .ok (.iaload, 1) := by decide +kernel
theorem dX4_like_56 : decode cX4_like 56 = .ok (.istore 4, 2) := by decide +kernel
theorem dX4_like_58 : decode cX4_like 58 = .ok (.aload_n 0, 1) := by decide +kernel
theorem dX4_like_59 : decode cX4_like 59 = .ok (.getfield 7, 3) := by decide +kernel
theorem dX4_like_62 : decode cX4_like 62 = .ok (.bipush 69, 2) := by decide +kernel
theorem dX4_like_64 : decode cX4_like 64 = .ok (.iload_n 1, 1) := by decide +kernel
theorem dX4_like_65 : decode cX4_like 65 = .ok (.iload_n 2, 1) := by decide +kernel
theorem dX4_like_66 : decode cX4_like 66 = .ok (.invokestatic 61, 3) := by decide +kernel
theorem dX4_like_69 : decode cX4_like 69 = .ok (.iadd, 1) := by decide +kernel
theorem dX4_like_70 : decode cX4_like 70 = .ok (.iload_n 3, 1) := by decide +kernel
theorem dX4_like_71 : decode cX4_like 71 = .ok (.iastore, 1) := by decide +kernel
theorem dX4_like_72 : decode cX4_like 72 = .ok (.aload_n 0, 1) := by decide +kernel
theorem dX4_like_73 : decode cX4_like 73 = .ok (.getfield 7, 3) := by decide +kernel
theorem dX4_like_76 : decode cX4_like 76 = .ok (.bipush 69, 2) := by decide +kernel
theorem dX4_like_78 : decode cX4_like 78 = .ok (.iload_n 2, 1) := by decide +kernel
theorem dX4_like_79 : decode cX4_like 79 = .ok (.iload_n 1, 1) := by decide +kernel
theorem dX4_like_80 : decode cX4_like 80 = .ok (.invokestatic 61, 3) := by decide +kernel
theorem dX4_like_83 : decode cX4_like 83 = .ok (.iadd, 1) := by decide +kernel
theorem dX4_like_84 : decode cX4_like 84 = .ok (.iload_n 3, 1) := by decide +kernel
theorem dX4_like_85 : decode cX4_like 85 = .ok (.iastore, 1) := by decide +kernel
theorem dX4_like_86 : decode cX4_like 86 = .ok (.iload 4, 2) := by decide +kernel
theorem dX4_like_88 : decode cX4_like 88 = .ok (.ireturn, 1) := by decide +kernel
set_option maxRecDepth 20000 in
theorem ggX4_away_X4_isVillager : GoodIn wsX4_away wsX4_isVillager := goodIn_r _ [7, 8, 9, 10, 6, 11] (by decide +kernel) (by decide +kernel)
set_option maxRecDepth 20000 in
theorem gX4_away_X4_isVillager : GoodIn wsX4_away (va_wsS RX4 95 yX4_isVillager wsX4_isVillager) := goodIn_app (goodIn_of _ (by decide +kernel)) ggX4_away_X4_isVillager
set_option maxRecDepth 20000 in
theorem ggX4_away_X4_isThere : GoodIn wsX4_away wsX4_isThere := goodIn_r _ [15, 3, 26, 27, 28, 29, 30, 31, 32, 33, 34, 35, 36, 37, 38] (by decide +kernel) (by decide +kernel)
set_option maxRecDepth 20000 in
theorem gX4_away_X4_isThere : GoodIn wsX4_away (wsV RX4 50 RX4 yX4_isThere wsX4_isThere) := goodIn_app (goodIn_of _ (by decide +kernel)) ggX4_away_X4_isThere
set_option maxRecDepth 20000 in
theorem ggX4_away_X4_changes : GoodIn wsX4_away wsX4_changes := goodIn_r _ [19, 20, 21, 3, 26, 27, 28, 29, 30, 31, 32, 33, 34, 35, 36, 37, 38] (by decide +kernel) (by decide +kernel)
set_option maxRecDepth 20000 in
theorem gX4_away_X4_changes : GoodIn wsX4_away (wsV RX4 92 RX4 yX4_changes wsX4_changes) := goodIn_app (goodIn_of _ (by decide +kernel)) ggX4_away_X4_changes
set_option maxRecDepth 20000 in
theorem ggX4_away_X4_sum : GoodIn wsX4_away wsX4_sum := goodIn_r _ [25, 3, 26, 27, 28, 29, 30, 31, 32, 33, 34, 35, 36, 37, 38] (by decide +kernel) (by decide +kernel)
set_option maxRecDepth 20000 in
theorem gX4_away_X4_sum : GoodIn wsX4_away (wsV RX4 100 RX4 yX4_sum wsX4_sum) := goodIn_app (goodIn_of _ (by decide +kernel)) ggX4_away_X4_sum
theorem dX4_away_0 : decode cX4_away 0 = .ok (.iload_n 1, 1) := by decide +kernel
theorem dX4_away_1 : decode cX4_away 1 = .ok (.invokestatic 95, 3) := by decide +kernel
theorem dX4_away_4 : decode cX4_away 4 = .ok (.ifCond .ne 6, 3) := by decide +kernel
theorem dX4_away_7 : decode cX4_away 7 = .ok (.ldc 98, 2) := by decide +kernel
theorem dX4_away_9 : decode cX4_away 9 = .ok (.ireturn, 1) := by decide +kernel
theorem dX4_away_10 : decode cX4_away 10 = .ok (.aload_n 0, 1) := by decide +kernel
theorem dX4_away_11 : decode cX4_away 11 = .ok (.iload_n 1, 1) := by decide +kernel
theorem dX4_away_12 : decode cX4_away 12 = .ok (.invokevirtual 50, 3) := by decide +kernel
theorem dX4_away_15 : decode cX4_away 15 = .ok (.iload_n 2, 1) := by decide +kernel
theorem dX4_away_16 : decode cX4_away 16 = .ok (.if_icmp .eq 6, 3) := by decide +kernel
theorem dX4_away_19 : decode cX4_away 19 = .ok (.ldc 99, 2) := by decide +kernel
theorem dX4_away_21 : decode cX4_away 21 = .ok (.ireturn, 1) := by decide +kernel
theorem dX4_away_22 : decode cX4_away 22 = .ok (.aload_n 0, 1) := by decide +kernel
theorem dX4_away_23 : decode cX4_away 23 = .ok (.invokevirtual 92, 3) := by decide +kernel
theorem dX4_away_26 : decode cX4_away 26 = .ok (.aload_n 0, 1) := by decide +kernel
theorem dX4_away_27 : decode cX4_away 27 = .ok (.getfield 7, 3) := by decide +kernel
theorem dX4_away_30 : decode cX4_away 30 = .ok (.bipush 15, 2) := by decide +kernel
theorem dX4_away_32 : decode cX4_away 32 = .ok (.iload_n 1, 1) := by decide +kernel
theorem dX4_away_33 : decode cX4_away 33 = .ok (.iadd, 1) := by decide +kernel
theorem dX4_away_34 : decode cX4_away 34 = .ok (.iload_n 2, 1) := by decide +kernel
theorem dX4_away_35 : decode cX4_away 35 = .ok (.ifCond .eq 7, 3) := by decide +kernel
theorem dX4_away_38 : decode cX4_away 38 = .ok (.iconst 0, 1) := by decide +kernel
theorem dX4_away_39 : decode cX4_away 39 = .ok (.goto 4, 3) := by decide +kernel
theorem dX4_away_42 : decode cX4_away 42 = .ok (.iconst 1, 1) := by decide +kernel
theorem dX4_away_43 : decode cX4_away 43 = .ok (.iastore, 1) := by decide +kernel
theorem dX4_away_44 : decode cX4_away 44 = .ok (.aload_n 0, 1) := by decide +kernel
theorem dX4_away_45 : decode cX4_away 45 = .ok (.bipush 15, 2) := by decide +kernel
theorem dX4_away_47 : decode cX4_away 47 = .ok (.invokevirtual 100, 3) := by decide +kernel
theorem dX4_away_50 : decode cX4_away 50 = .ok (.ireturn, 1) := by decide +kernel
set_option maxRecDepth 20000 in
theorem ggX4_call_X4_isNumber : GoodIn wsX4_call wsX4_isNumber := goodIn_r _ [7, 8, 9, 10, 6, 11] (by decide +kernel) (by decide +kernel)
set_option maxRecDepth 20000 in
theorem gX4_call_X4_isNumber : GoodIn wsX4_call (va_wsS RX4 104 yX4_isNumber wsX4_isNumber) := goodIn_app (goodIn_of _ (by decide +kernel)) ggX4_call_X4_isNumber
set_option maxRecDepth 20000 in
theorem ggX4_call_X4_changes : GoodIn wsX4_call wsX4_changes := goodIn_r _ [15, 16, 17, 2, 53, 54, 55, 56, 57, 58, 59, 60, 61, 62, 63, 64, 65] (by decide +kernel) (by decide +kernel)
set_option maxRecDepth 20000 in
theorem gX4_call_X4_changes : GoodIn wsX4_call (wsV RX4 92 RX4 yX4_changes wsX4_changes) := goodIn_app (goodIn_of _ (by decide +kernel)) ggX4_call_X4_changes
set_option maxRecDepth 20000 in
theorem ggX4_call_X4_round : GoodIn wsX4_call wsX4_round := goodIn_r _ [21, 22, 2, 23, 24, 25, 6, 26, 27, 28, 29, 30, 31, 32, 33, 34, 35, 36, 37, 38, 39, 40, 41, 42, 43, 44, 45, 46, 47, 48, 49, 50, 51, 52, 53, 54, 55, 56, 57, 58, 59, 60, 61, 62, 63, 64, 65] (by decide +kernel) (by decide +kernel)
set_option maxRecDepth 20000 in
theorem gX4_call_X4_round : GoodIn wsX4_call (wsV RX4 108 RX4 yX4_round wsX4_round) := goodIn_app (goodIn_of _ (by decide +kernel)) ggX4_call_X4_round
theorem dX4_call_0 : decode cX4_call 0 = .ok (.iload_n 1, 1) := by decide +kernel
theorem dX4_call_1 : decode cX4_call 1 = .ok (.invokestatic 104, 3) := by decide +kernel
theorem dX4_call_4 : decode cX4_call 4 = .ok (.ifCond .ne 6, 3) := by decide +kernel
theorem dX4_call_7 : decode cX4_call 7 = .ok (.ldc 91, 2) := by decide +kernel
theorem dX4_call_9 : decode cX4_call 9 = .ok (.ireturn, 1) := by decide +kernel
theorem dX4_call_10 : decode cX4_call 10 = .ok (.aload_n 0, 1) := by decide +kernel
theorem dX4_call_11 : decode cX4_call 11 = .ok (.getfield 7, 3) := by decide +kernel
theorem dX4_call_14 : decode cX4_call 14 = .ok (.iconst 3, 1) := by decide +kernel
theorem dX4_call_15 : decode cX4_call 15 = .ok (.iaload, 1) := by decide +kernel
theorem dX4_call_16 : decode cX4_call 16 = .ok (.sipush 9999, 3) := by decide +kernel
theorem dX4_call_19 : decode cX4_call 19 = .ok (.if_icmp .ne 6, 3) := by decide +kernel
theorem dX4_call_22 : decode cX4_call 22 = .ok (.ldc 107, 2) := by decide +kernel
theorem dX4_call_24 : decode cX4_call 24 = .ok (.ireturn, 1) := by decide +kernel
theorem dX4_call_25 : decode cX4_call 25 = .ok (.aload_n 0, 1) := by decide +kernel
theorem dX4_call_26 : decode cX4_call 26 = .ok (.invokevirtual 92, 3) := by decide +kernel
theorem dX4_call_29 : decode cX4_call 29 = .ok (.aload_n 0, 1) := by decide +kernel
theorem dX4_call_30 : decode cX4_call 30 = .ok (.iload_n 1, 1) := by decide +kernel
theorem dX4_call_31 : decode cX4_call 31 = .ok (.invokevirtual 108, 3) := by decide +kernel
theorem dX4_call_34 : decode cX4_call 34 = .ok (.ireturn, 1) := by decide +kernel
set_option maxRecDepth 20000 in
theorem ggX4_feed_X4_isVillager : GoodIn wsX4_feed wsX4_isVillager := goodIn_r _ [8, 9, 10, 11, 7, 12] (by decide +kernel) (by decide +kernel)
set_option maxRecDepth 20000 in
theorem gX4_feed_X4_isVillager : GoodIn wsX4_feed (va_wsS RX4 95 yX4_isVillager wsX4_isVillager) := goodIn_app (goodIn_of _ (by decide +kernel)) ggX4_feed_X4_isVillager
set_option maxRecDepth 20000 in
theorem ggX4_feed_X4_in : GoodIn wsX4_feed wsX4_in := goodIn_r _ [12] (by decide +kernel) (by decide +kernel)
set_option maxRecDepth 20000 in
theorem gX4_feed_X4_in : GoodIn wsX4_feed (va_wsS RX4 44 yX4_in wsX4_in) := goodIn_app (goodIn_of _ (by decide +kernel)) ggX4_feed_X4_in
set_option maxRecDepth 20000 in
theorem ggX4_feed_X4_changes : GoodIn wsX4_feed wsX4_changes := goodIn_r _ [16, 17, 18, 4, 19, 20, 21, 22, 23, 24, 25, 26, 27, 28, 29, 30, 31] (by decide +kernel) (by decide +kernel)
set_option maxRecDepth 20000 in
theorem gX4_feed_X4_changes : GoodIn wsX4_feed (wsV RX4 92 RX4 yX4_changes wsX4_changes) := goodIn_app (goodIn_of _ (by decide +kernel)) ggX4_feed_X4_changes
theorem dX4_feed_0 : decode cX4_feed 0 = .ok (.iload_n 1, 1) := by decide +kernel
theorem dX4_feed_1 : decode cX4_feed 1 = .ok (.invokestatic 95, 3) := by decide +kernel
theorem dX4_feed_4 : decode cX4_feed 4 = .ok (.ifCond .ne 6, 3) := by decide +kernel
theorem dX4_feed_7 : decode cX4_feed 7 = .ok (.ldc 98, 2) := by decide +kernel
theorem dX4_feed_9 : decode cX4_feed 9 = .ok (.ireturn, 1) := by decide +kernel
theorem dX4_feed_10 : decode cX4_feed 10 = .ok (.iload_n 2, 1) := by decide +kernel
theorem dX4_feed_11 : decode cX4_feed 11 = .ok (.i2l, 1) := by decide +kernel
theorem dX4_feed_12 : decode cX4_feed 12 = .ok (.lconst 0, 1) := by decide +kernel
theorem dX4_feed_13 : decode cX4_feed 13 = .ok (.ldc2_w 111, 3) := by decide +kernel
theorem dX4_feed_16 : decode cX4_feed 16 = .ok (.invokestatic 44, 3) := by decide +kernel
theorem dX4_feed_19 : decode cX4_feed 19 = .ok (.ifCond .ne 6, 3) := by decide +kernel
theorem dX4_feed_22 : decode cX4_feed 22 = .ok (.ldc 91, 2) := by decide +kernel
theorem dX4_feed_24 : decode cX4_feed 24 = .ok (.ireturn, 1) := by decide +kernel
theorem dX4_feed_25 : decode cX4_feed 25 = .ok (.aload_n 0, 1) := by decide +kernel
theorem dX4_feed_26 : decode cX4_feed 26 = .ok (.invokevirtual 92, 3) := by decide +kernel
theorem dX4_feed_29 : decode cX4_feed 29 = .ok (.aload_n 0, 1) := by decide +kernel
theorem dX4_feed_30 : decode cX4_feed 30 = .ok (.getfield 7, 3) := by decide +kernel
theorem dX4_feed_33 : decode cX4_feed 33 = .ok (.bipush 24, 2) := by decide +kernel
theorem dX4_feed_35 : decode cX4_feed 35 = .ok (.iload_n 1, 1) := by decide +kernel
theorem dX4_feed_36 : decode cX4_feed 36 = .ok (.iadd, 1) := by decide +kernel
theorem dX4_feed_37 : decode cX4_feed 37 = .ok (.iaload, 1) := by decide +kernel
theorem dX4_feed_38 : decode cX4_feed 38 = .ok (.istore_n 3, 1) := by decide +kernel
theorem dX4_feed_39 : decode cX4_feed 39 = .ok (.aload_n 0, 1) := by decide +kernel
theorem dX4_feed_40 : decode cX4_feed 40 = .ok (.getfield 7, 3) := by decide +kernel
theorem dX4_feed_43 : decode cX4_feed 43 = .ok (.bipush 24, 2) := by decide +kernel
theorem dX4_feed_45 : decode cX4_feed 45 = .ok (.iload_n 1, 1) := by decide +kernel
theorem dX4_feed_46 : decode cX4_feed 46 = .ok (.iadd, 1) := by decide +kernel
theorem dX4_feed_47 : decode cX4_feed 47 = .ok (.iload_n 2, 1) := by decide +kernel
theorem dX4_feed_48 : decode cX4_feed 48 = .ok (.iastore, 1) := by decide +kernel
theorem dX4_feed_49 : decode cX4_feed 49 = .ok (.iload_n 3, 1) := by decide +kernel
theorem dX4_feed_50 : decode cX4_feed 50 = .ok (.ireturn, 1) := by decide +kernel
set_option maxRecDepth 20000 in
theorem ggX4_metBy_X4_pairAt : GoodIn wsX4_metBy wsX4_pairAt := goodIn_r _ [5] (by decide +kernel) (by decide +kernel)
set_option maxRecDepth 20000 in
theorem gX4_metBy_X4_pairAt : GoodIn wsX4_metBy (va_wsS RX4 61 yX4_pairAt wsX4_pairAt) := goodIn_app (goodIn_of _ (by decide +kernel)) ggX4_metBy_X4_pairAt
theorem dX4_metBy_0 : decode cX4_metBy 0 = .ok (.iconst 0, 1) := by decide +kernel
theorem dX4_metBy_1 : decode cX4_metBy 1 = .ok (.istore_n 2, 1) := by decide +kernel
theorem dX4_metBy_2 : decode cX4_metBy 2 = .ok (.iconst 0, 1) := by decide +kernel
theorem dX4_metBy_3 : decode cX4_metBy 3 = .ok (.istore_n 3, 1) := by decide +kernel
theorem dX4_metBy_4 : decode cX4_metBy 4 = .ok (.iload_n 3, 1) := by decide +kernel
theorem dX4_metBy_5 : decode cX4_metBy 5 = .ok (.bipush 9, 2) := by decide +kernel
theorem dX4_metBy_7 : decode cX4_metBy 7 = .ok (.if_icmp .ge 36, 3) := by decide +kernel
theorem dX4_metBy_10 : decode cX4_metBy 10 = .ok (.iload_n 2, 1) := by decide +kernel
theorem dX4_metBy_11 : decode cX4_metBy 11 = .ok (.aload_n 0, 1) := by decide +kernel
theorem dX4_metBy_12 : decode cX4_metBy 12 = .ok (.getfield 7, 3) := by decide +kernel
theorem dX4_metBy_15 : decode cX4_metBy 15 = .ok (.sipush 150, 3) := by decide +kernel
theorem dX4_metBy_18 : decode cX4_metBy 18 = .ok (.iload_n 1, 1) := by decide +kernel
theorem dX4_metBy_19 : decode cX4_metBy 19 = .ok (.iload_n 3, 1) := by decide +kernel
theorem dX4_metBy_20 : decode cX4_metBy 20 = .ok (.invokestatic 61, 3) := by decide +kernel
theorem dX4_metBy_23 : decode cX4_metBy 23 = .ok (.iadd, 1) := by decide +kernel
theorem dX4_metBy_24 : decode cX4_metBy 24 = .ok (.iaload, 1) := by decide +kernel
theorem dX4_metBy_25 : decode cX4_metBy 25 = .ok (.ifCond .le 9, 3) := by decide +kernel
theorem dX4_metBy_28 : decode cX4_metBy 28 = .ok (.iconst 1, 1) := by decide +kernel
theorem dX4_metBy_29 : decode cX4_metBy 29 = .ok (.iload_n 3, 1) := by decide +kernel
theorem dX4_metBy_30 : decode cX4_metBy 30 = .ok (.ishl, 1) := by decide +kernel
theorem dX4_metBy_31 : decode cX4_metBy 31 = .ok (.goto 4, 3) := by decide +kernel
theorem dX4_metBy_34 : decode cX4_metBy 34 = .ok (.iconst 0, 1) := by decide +kernel
theorem dX4_metBy_35 : decode cX4_metBy 35 = .ok (.ior, 1) := by decide +kernel
theorem dX4_metBy_36 : decode cX4_metBy 36 = .ok (.istore_n 2, 1) := by decide +kernel
theorem dX4_metBy_37 : decode cX4_metBy 37 = .ok (.iinc 3 1, 3) := by decide +kernel
theorem dX4_metBy_40 : decode cX4_metBy 40 = .ok (.goto (-36), 3) := by decide +kernel
theorem dX4_metBy_43 : decode cX4_metBy 43 = .ok (.iload_n 2, 1) := by decide +kernel
theorem dX4_metBy_44 : decode cX4_metBy 44 = .ok (.ireturn, 1) := by decide +kernel
set_option maxRecDepth 20000 in
theorem ggX4_mostOften_X4_pairAt : GoodIn wsX4_mostOften wsX4_pairAt := goodIn_r _ [6] (by decide +kernel) (by decide +kernel)
set_option maxRecDepth 20000 in
theorem gX4_mostOften_X4_pairAt : GoodIn wsX4_mostOften (va_wsS RX4 61 yX4_pairAt wsX4_pairAt) := goodIn_app (goodIn_of _ (by decide +kernel)) ggX4_mostOften_X4_pairAt
theorem dX4_mostOften_0 : decode cX4_mostOften 0 = .ok (.ldc 37, 2) := by decide +kernel
theorem dX4_mostOften_2 : decode cX4_mostOften 2 = .ok (.istore_n 2, 1) := by decide +kernel
theorem dX4_mostOften_3 : decode cX4_mostOften 3 = .ok (.iconst 0, 1) := by decide +kernel
theorem dX4_mostOften_4 : decode cX4_mostOften 4 = .ok (.istore_n 3, 1) := by decide +kernel
theorem dX4_mostOften_5 : decode cX4_mostOften 5 = .ok (.iconst 0, 1) := by decide +kernel
theorem dX4_mostOften_6 : decode cX4_mostOften 6 = .ok (.istore 4, 2) := by decide +kernel
theorem dX4_mostOften_8 : decode cX4_mostOften 8 = .ok (.iload 4, 2) := by decide +kernel
theorem dX4_mostOften_10 : decode cX4_mostOften 10 = .ok (.bipush 9, 2) := by decide +kernel
theorem dX4_mostOften_12 : decode cX4_mostOften 12 = .ok (.if_icmp .ge 52, 3) := by decide +kernel
theorem dX4_mostOften_15 : decode cX4_mostOften 15 = .ok (.aload_n 0, 1) := by decide +kernel
theorem dX4_mostOften_16 : decode cX4_mostOften 16 = .ok (.getfield 7, 3) := by decide +kernel
theorem dX4_mostOften_19 : decode cX4_mostOften 19 = .ok (.sipush 150, 3) := by decide +kernel
theorem dX4_mostOften_22 : decode cX4_mostOften 22 = .ok (.iload_n 1, 1) := by decide +kernel
theorem dX4_mostOften_23 : decode cX4_mostOften 23 = .ok (.iload 4, 2) := by decide +kernel
theorem dX4_mostOften_25 : decode cX4_mostOften 25 = .ok (.invokestatic 61, 3) := by decide +kernel
theorem dX4_mostOften_28 : decode cX4_mostOften 28 = .ok (.iadd, 1) := by decide +kernel
theorem dX4_mostOften_29 : decode cX4_mostOften 29 = .ok (.iaload, 1) := by decide +kernel
theorem dX4_mostOften_30 : decode cX4_mostOften 30 = .ok (.istore 5, 2) := by decide +kernel
theorem dX4_mostOften_32 : decode cX4_mostOften 32 = .ok (.iload 5, 2) := by decide +kernel
theorem dX4_mostOften_34 : decode cX4_mostOften 34 = .ok (.iload_n 3, 1) := by decide +kernel
theorem dX4_mostOften_35 : decode cX4_mostOften 35 = .ok (.if_icmp .le 8, 3) := by decide +kernel
theorem dX4_mostOften_38 : decode cX4_mostOften 38 = .ok (.iload 4, 2) := by decide +kernel
theorem dX4_mostOften_40 : decode cX4_mostOften 40 = .ok (.goto 4, 3) := by decide +kernel
theorem dX4_mostOften_43 : decode cX4_mostOften 43 = .ok (.iload_n 2, 1) := by decide +kernel
theorem dX4_mostOften_44 : decode cX4_mostOften 44 = .ok (.istore_n 2, 1) := by decide +kernel
theorem dX4_mostOften_45 : decode cX4_mostOften 45 = .ok (.iload 5, 2) := by decide +kernel
theorem dX4_mostOften_47 : decode cX4_mostOften 47 = .ok (.iload_n 3, 1) := by decide +kernel
theorem dX4_mostOften_48 : decode cX4_mostOften 48 = .ok (.if_icmp .le 8, 3) := by decide +kernel
theorem dX4_mostOften_51 : decode cX4_mostOften 51 = .ok (.iload 5, 2) := by decide +kernel
theorem dX4_mostOften_53 : decode cX4_mostOften 53 = .ok (.goto 4, 3) := by decide +kernel
theorem dX4_mostOften_56 : decode cX4_mostOften 56 = .ok (.iload_n 3, 1) := by decide +kernel
theorem dX4_mostOften_57 : decode cX4_mostOften 57 = .ok (.istore_n 3, 1) := by decide +kernel
theorem dX4_mostOften_58 : decode cX4_mostOften 58 = .ok (.iinc 4 1, 3) := by decide +kernel
theorem dX4_mostOften_61 : decode cX4_mostOften 61 = .ok (.goto (-53), 3) := by decide +kernel
theorem dX4_mostOften_64 : decode cX4_mostOften 64 = .ok (.iload_n 2, 1) := by decide +kernel
theorem dX4_mostOften_65 : decode cX4_mostOften 65 = .ok (.ireturn, 1) := by decide +kernel
set_option maxRecDepth 20000 in
theorem ggX4_villager_X4_isVillager : GoodIn wsX4_villager wsX4_isVillager := goodIn_r _ [7, 8, 9, 10, 6, 11] (by decide +kernel) (by decide +kernel)
set_option maxRecDepth 20000 in
theorem gX4_villager_X4_isVillager : GoodIn wsX4_villager (va_wsS RX4 95 yX4_isVillager wsX4_isVillager) := goodIn_app (goodIn_of _ (by decide +kernel)) ggX4_villager_X4_isVillager
set_option maxRecDepth 20000 in
theorem ggX4_villager_X4_metBy : GoodIn wsX4_villager wsX4_metBy := goodIn_r _ [15, 2, 16, 17, 6, 18, 24, 25, 26, 27, 28, 29, 30, 31, 32, 33, 34, 35, 36] (by decide +kernel) (by decide +kernel)
set_option maxRecDepth 20000 in
theorem gX4_villager_X4_metBy : GoodIn wsX4_villager (wsV RX4 113 RX4 yX4_metBy wsX4_metBy) := goodIn_app (goodIn_of _ (by decide +kernel)) ggX4_villager_X4_metBy
set_option maxRecDepth 20000 in
theorem ggX4_villager_X4_mostOften : GoodIn wsX4_villager wsX4_mostOften := goodIn_r _ [22, 23, 2, 16, 17, 6, 18, 24, 25, 26, 27, 28, 29, 30, 31, 32, 33, 34, 35, 36] (by decide +kernel) (by decide +kernel)
set_option maxRecDepth 20000 in
theorem gX4_villager_X4_mostOften : GoodIn wsX4_villager (wsV RX4 116 RX4 yX4_mostOften wsX4_mostOften) := goodIn_app (goodIn_of _ (by decide +kernel)) ggX4_villager_X4_mostOften
theorem dX4_villager_0 : decode cX4_villager 0 = .ok (.iload_n 1, 1) := by decide +kernel
theorem dX4_villager_1 : decode cX4_villager 1 = .ok (.invokestatic 95, 3) := by decide +kernel
theorem dX4_villager_4 : decode cX4_villager 4 = .ok (.ifCond .ne 6, 3) := by decide +kernel
theorem dX4_villager_7 : decode cX4_villager 7 = .ok (.ldc 98, 2) := by decide +kernel
theorem dX4_villager_9 : decode cX4_villager 9 = .ok (.ireturn, 1) := by decide +kernel
theorem dX4_villager_10 : decode cX4_villager 10 = .ok (.iload_n 2, 1) := by decide +kernel
theorem dX4_villager_11 : decode cX4_villager 11 = .ok (.tableswitch 72 0 7 #[45, 45, 45, 45, 45, 45, 60, 66], 45) := by decide +kernel
theorem dX4_villager_56 : decode cX4_villager 56 = .ok (.aload_n 0, 1) := by decide +kernel
theorem dX4_villager_57 : decode cX4_villager 57 = .ok (.getfield 7, 3) := by decide +kernel
theorem dX4_villager_60 : decode cX4_villager 60 = .ok (.bipush 15, 2) := by decide +kernel
theorem dX4_villager_62 : decode cX4_villager 62 = .ok (.bipush 9, 2) := by decide +kernel
theorem dX4_villager_64 : decode cX4_villager 64 = .ok (.iload_n 2, 1) := by decide +kernel
theorem dX4_villager_65 : decode cX4_villager 65 = .ok (.imul, 1) := by decide +kernel
theorem dX4_villager_66 : decode cX4_villager 66 = .ok (.iadd, 1) := by decide +kernel
theorem dX4_villager_67 : decode cX4_villager 67 = .ok (.iload_n 1, 1) := by decide +kernel
theorem dX4_villager_68 : decode cX4_villager 68 = .ok (.iadd, 1) := by decide +kernel
theorem dX4_villager_69 : decode cX4_villager 69 = .ok (.iaload, 1) := by decide +kernel
theorem dX4_villager_70 : decode cX4_villager 70 = .ok (.ireturn, 1) := by decide +kernel
theorem dX4_villager_71 : decode cX4_villager 71 = .ok (.aload_n 0, 1) := by decide +kernel
theorem dX4_villager_72 : decode cX4_villager 72 = .ok (.iload_n 1, 1) := by decide +kernel
theorem dX4_villager_73 : decode cX4_villager 73 = .ok (.invokevirtual 113, 3) := by decide +kernel
theorem dX4_villager_76 : decode cX4_villager 76 = .ok (.ireturn, 1) := by decide +kernel
theorem dX4_villager_77 : decode cX4_villager 77 = .ok (.aload_n 0, 1) := by decide +kernel
theorem dX4_villager_78 : decode cX4_villager 78 = .ok (.iload_n 1, 1) := by decide +kernel
theorem dX4_villager_79 : decode cX4_villager 79 = .ok (.invokevirtual 116, 3) := by decide +kernel
theorem dX4_villager_82 : decode cX4_villager 82 = .ok (.ireturn, 1) := by decide +kernel
theorem dX4_villager_83 : decode cX4_villager 83 = .ok (.ldc 91, 2) := by decide +kernel
theorem dX4_villager_85 : decode cX4_villager 85 = .ok (.ireturn, 1) := by decide +kernel
set_option maxRecDepth 20000 in
theorem ggX4_pair_X4_isVillager : GoodIn wsX4_pair wsX4_isVillager := goodIn_r _ [7, 8, 9, 10, 6, 11] (by decide +kernel) (by decide +kernel)
set_option maxRecDepth 20000 in
theorem gX4_pair_X4_isVillager : GoodIn wsX4_pair (va_wsS RX4 95 yX4_isVillager wsX4_isVillager) := goodIn_app (goodIn_of _ (by decide +kernel)) ggX4_pair_X4_isVillager
set_option maxRecDepth 20000 in
theorem ggX4_pair_X4_pairAt : GoodIn wsX4_pair wsX4_pairAt := goodIn_r _ [14] (by decide +kernel) (by decide +kernel)
set_option maxRecDepth 20000 in
theorem gX4_pair_X4_pairAt : GoodIn wsX4_pair (va_wsS RX4 61 yX4_pairAt wsX4_pairAt) := goodIn_app (goodIn_of _ (by decide +kernel)) ggX4_pair_X4_pairAt
theorem dX4_pair_0 : decode cX4_pair 0 = .ok (.iload_n 1, 1) := by decide +kernel
theorem dX4_pair_1 : decode cX4_pair 1 = .ok (.invokestatic 95, 3) := by decide +kernel
theorem dX4_pair_4 : decode cX4_pair 4 = .ok (.ifCond .eq 10, 3) := by decide +kernel
theorem dX4_pair_7 : decode cX4_pair 7 = .ok (.iload_n 2, 1) := by decide +kernel
theorem dX4_pair_8 : decode cX4_pair 8 = .ok (.invokestatic 95, 3) := by decide +kernel
theorem dX4_pair_11 : decode cX4_pair 11 = .ok (.ifCond .ne 6, 3) := by decide +kernel
theorem dX4_pair_14 : decode cX4_pair 14 = .ok (.ldc 98, 2) := by decide +kernel
theorem dX4_pair_16 : decode cX4_pair 16 = .ok (.ireturn, 1) := by decide +kernel
theorem dX4_pair_17 : decode cX4_pair 17 = .ok (.iload_n 1, 1) := by decide +kernel
theorem dX4_pair_18 : decode cX4_pair 18 = .ok (.iload_n 2, 1) := by decide +kernel
theorem dX4_pair_19 : decode cX4_pair 19 = .ok (.if_icmp .ne 6, 3) := by decide +kernel
theorem dX4_pair_22 : decode cX4_pair 22 = .ok (.ldc 91, 2) := by decide +kernel
theorem dX4_pair_24 : decode cX4_pair 24 = .ok (.ireturn, 1) := by decide +kernel
theorem dX4_pair_25 : decode cX4_pair 25 = .ok (.iload_n 1, 1) := by decide +kernel
theorem dX4_pair_26 : decode cX4_pair 26 = .ok (.iload_n 2, 1) := by decide +kernel
theorem dX4_pair_27 : decode cX4_pair 27 = .ok (.invokestatic 61, 3) := by decide +kernel
theorem dX4_pair_30 : decode cX4_pair 30 = .ok (.istore 4, 2) := by decide +kernel
theorem dX4_pair_32 : decode cX4_pair 32 = .ok (.iload_n 3, 1) := by decide +kernel
theorem dX4_pair_33 : decode cX4_pair 33 = .ok (.tableswitch 92 0 4 #[35, 46, 58, 65, 80], 35) := by decide +kernel
theorem dX4_pair_68 : decode cX4_pair 68 = .ok (.aload_n 0, 1) := by decide +kernel
theorem dX4_pair_69 : decode cX4_pair 69 = .ok (.getfield 7, 3) := by decide +kernel
theorem dX4_pair_72 : decode cX4_pair 72 = .ok (.bipush 69, 2) := by decide +kernel
theorem dX4_pair_74 : decode cX4_pair 74 = .ok (.iload 4, 2) := by decide +kernel
theorem dX4_pair_76 : decode cX4_pair 76 = .ok (.iadd, 1) := by decide +kernel
theorem dX4_pair_77 : decode cX4_pair 77 = .ok (.iaload, 1) := by decide +kernel
theorem dX4_pair_78 : decode cX4_pair 78 = .ok (.ireturn, 1) := by decide +kernel
theorem dX4_pair_79 : decode cX4_pair 79 = .ok (.aload_n 0, 1) := by decide +kernel
theorem dX4_pair_80 : decode cX4_pair 80 = .ok (.getfield 7, 3) := by decide +kernel
theorem dX4_pair_83 : decode cX4_pair 83 = .ok (.sipush 150, 3) := by decide +kernel
theorem dX4_pair_86 : decode cX4_pair 86 = .ok (.iload 4, 2) := by decide +kernel
theorem dX4_pair_88 : decode cX4_pair 88 = .ok (.iadd, 1) := by decide +kernel
theorem dX4_pair_89 : decode cX4_pair 89 = .ok (.iaload, 1) := by decide +kernel
theorem dX4_pair_90 : decode cX4_pair 90 = .ok (.ireturn, 1) := by decide +kernel
theorem dX4_pair_91 : decode cX4_pair 91 = .ok (.iload_n 1, 1) := by decide +kernel
theorem dX4_pair_92 : decode cX4_pair 92 = .ok (.iload_n 2, 1) := by decide +kernel
theorem dX4_pair_93 : decode cX4_pair 93 = .ok (.iadd, 1) := by decide +kernel
theorem dX4_pair_94 : decode cX4_pair 94 = .ok (.bipush 9, 2) := by decide +kernel
theorem dX4_pair_96 : decode cX4_pair 96 = .ok (.irem, 1) := by decide +kernel
theorem dX4_pair_97 : decode cX4_pair 97 = .ok (.ireturn, 1) := by decide +kernel
theorem dX4_pair_98 : decode cX4_pair 98 = .ok (.aload_n 0, 1) := by decide +kernel
theorem dX4_pair_99 : decode cX4_pair 99 = .ok (.getfield 7, 3) := by decide +kernel
theorem dX4_pair_102 : decode cX4_pair 102 = .ok (.bipush 6, 2) := by decide +kernel
theorem dX4_pair_104 : decode cX4_pair 104 = .ok (.iload_n 1, 1) := by decide +kernel
theorem dX4_pair_105 : decode cX4_pair 105 = .ok (.iload_n 2, 1) := by decide +kernel
theorem dX4_pair_106 : decode cX4_pair 106 = .ok (.iadd, 1) := by decide +kernel
theorem dX4_pair_107 : decode cX4_pair 107 = .ok (.bipush 9, 2) := by decide +kernel
theorem dX4_pair_109 : decode cX4_pair 109 = .ok (.irem, 1) := by decide +kernel
theorem dX4_pair_110 : decode cX4_pair 110 = .ok (.iadd, 1) := by decide +kernel
theorem dX4_pair_111 : decode cX4_pair 111 = .ok (.iaload, 1) := by decide +kernel
theorem dX4_pair_112 : decode cX4_pair 112 = .ok (.ireturn, 1) := by decide +kernel
theorem dX4_pair_113 : decode cX4_pair 113 = .ok (.aload_n 0, 1) := by decide +kernel
theorem dX4_pair_114 : decode cX4_pair 114 = .ok (.getfield 7, 3) := by decide +kernel
theorem dX4_pair_117 : decode cX4_pair 117 = .ok (.sipush 231, 3) := by decide +kernel
theorem dX4_pair_120 : decode cX4_pair 120 = .ok (.iload 4, 2) := by decide +kernel
theorem dX4_pair_122 : decode cX4_pair 122 = .ok (.iadd, 1) := by decide +kernel
theorem dX4_pair_123 : decode cX4_pair 123 = .ok (.iaload, 1) := by decide +kernel
theorem dX4_pair_124 : decode cX4_pair 124 = .ok (.ireturn, 1) := by decide +kernel
theorem dX4_pair_125 : decode cX4_pair 125 = .ok (.ldc 91, 2) := by decide +kernel
theorem dX4_pair_127 : decode cX4_pair 127 = .ok (.ireturn, 1) := by decide +kernel
set_option maxRecDepth 20000 in
theorem ggX4_partner_X4_isVillager : GoodIn wsX4_partner wsX4_isVillager := goodIn_r _ [7, 8, 9, 10, 6, 11] (by decide +kernel) (by decide +kernel)
set_option maxRecDepth 20000 in
theorem gX4_partner_X4_isVillager : GoodIn wsX4_partner (va_wsS RX4 95 yX4_isVillager wsX4_isVillager) := goodIn_app (goodIn_of _ (by decide +kernel)) ggX4_partner_X4_isVillager
set_option maxRecDepth 20000 in
theorem ggX4_partner_X4_isNumber : GoodIn wsX4_partner wsX4_isNumber := goodIn_r _ [14, 15, 9, 10, 6, 11] (by decide +kernel) (by decide +kernel)
set_option maxRecDepth 20000 in
theorem gX4_partner_X4_isNumber : GoodIn wsX4_partner (va_wsS RX4 104 yX4_isNumber wsX4_isNumber) := goodIn_app (goodIn_of _ (by decide +kernel)) ggX4_partner_X4_isNumber
set_option maxRecDepth 20000 in
theorem ggX4_partner_X4_partnerBy : GoodIn wsX4_partner wsX4_partnerBy := goodIn_r _ [18] (by decide +kernel) (by decide +kernel)
set_option maxRecDepth 20000 in
theorem gX4_partner_X4_partnerBy : GoodIn wsX4_partner (va_wsS RX4 54 yX4_partnerBy wsX4_partnerBy) := goodIn_app (goodIn_of _ (by decide +kernel)) ggX4_partner_X4_partnerBy
theorem dX4_partner_0 : decode cX4_partner 0 = .ok (.iload_n 1, 1) := by decide +kernel
theorem dX4_partner_1 : decode cX4_partner 1 = .ok (.invokestatic 95, 3) := by decide +kernel
theorem dX4_partner_4 : decode cX4_partner 4 = .ok (.ifCond .ne 6, 3) := by decide +kernel
theorem dX4_partner_7 : decode cX4_partner 7 = .ok (.ldc 98, 2) := by decide +kernel
theorem dX4_partner_9 : decode cX4_partner 9 = .ok (.ireturn, 1) := by decide +kernel
theorem dX4_partner_10 : decode cX4_partner 10 = .ok (.iload_n 2, 1) := by decide +kernel
theorem dX4_partner_11 : decode cX4_partner 11 = .ok (.invokestatic 104, 3) := by decide +kernel
theorem dX4_partner_14 : decode cX4_partner 14 = .ok (.ifCond .ne 6, 3) := by decide +kernel
theorem dX4_partner_17 : decode cX4_partner 17 = .ok (.ldc 91, 2) := by decide +kernel
theorem dX4_partner_19 : decode cX4_partner 19 = .ok (.ireturn, 1) := by decide +kernel
theorem dX4_partner_20 : decode cX4_partner 20 = .ok (.iload_n 1, 1) := by decide +kernel
theorem dX4_partner_21 : decode cX4_partner 21 = .ok (.iload_n 2, 1) := by decide +kernel
theorem dX4_partner_22 : decode cX4_partner 22 = .ok (.invokestatic 54, 3) := by decide +kernel
theorem dX4_partner_25 : decode cX4_partner 25 = .ok (.istore_n 3, 1) := by decide +kernel
theorem dX4_partner_26 : decode cX4_partner 26 = .ok (.iload_n 3, 1) := by decide +kernel
theorem dX4_partner_27 : decode cX4_partner 27 = .ok (.iload_n 1, 1) := by decide +kernel
theorem dX4_partner_28 : decode cX4_partner 28 = .ok (.if_icmp .ne 8, 3) := by decide +kernel
theorem dX4_partner_31 : decode cX4_partner 31 = .ok (.ldc 37, 2) := by decide +kernel
theorem dX4_partner_33 : decode cX4_partner 33 = .ok (.goto 4, 3) := by decide +kernel
theorem dX4_partner_36 : decode cX4_partner 36 = .ok (.iload_n 3, 1) := by decide +kernel
theorem dX4_partner_37 : decode cX4_partner 37 = .ok (.ireturn, 1) := by decide +kernel
theorem dX4_thoseThere_0 : decode cX4_thoseThere 0 = .ok (.iconst 0, 1) := by decide +kernel
theorem dX4_thoseThere_1 : decode cX4_thoseThere 1 = .ok (.istore_n 1, 1) := by decide +kernel
theorem dX4_thoseThere_2 : decode cX4_thoseThere 2 = .ok (.iconst 0, 1) := by decide +kernel
theorem dX4_thoseThere_3 : decode cX4_thoseThere 3 = .ok (.istore_n 2, 1) := by decide +kernel
theorem dX4_thoseThere_4 : decode cX4_thoseThere 4 = .ok (.iload_n 2, 1) := by decide +kernel
theorem dX4_thoseThere_5 : decode cX4_thoseThere 5 = .ok (.bipush 9, 2) := by decide +kernel
theorem dX4_thoseThere_7 : decode cX4_thoseThere 7 = .ok (.if_icmp .ge 23, 3) := by decide +kernel
theorem dX4_thoseThere_10 : decode cX4_thoseThere 10 = .ok (.iload_n 1, 1) := by decide +kernel
theorem dX4_thoseThere_11 : decode cX4_thoseThere 11 = .ok (.aload_n 0, 1) := by decide +kernel
theorem dX4_thoseThere_12 : decode cX4_thoseThere 12 = .ok (.getfield 7, 3) := by decide +kernel
theorem dX4_thoseThere_15 : decode cX4_thoseThere 15 = .ok (.bipush 15, 2) := by decide +kernel
theorem dX4_thoseThere_17 : decode cX4_thoseThere 17 = .ok (.iload_n 2, 1) := by decide +kernel
theorem dX4_thoseThere_18 : decode cX4_thoseThere 18 = .ok (.iadd, 1) := by decide +kernel
theorem dX4_thoseThere_19 : decode cX4_thoseThere 19 = .ok (.iaload, 1) := by decide +kernel
theorem dX4_thoseThere_20 : decode cX4_thoseThere 20 = .ok (.iload_n 2, 1) := by decide +kernel
theorem dX4_thoseThere_21 : decode cX4_thoseThere 21 = .ok (.ishl, 1) := by decide +kernel
theorem dX4_thoseThere_22 : decode cX4_thoseThere 22 = .ok (.ior, 1) := by decide +kernel
theorem dX4_thoseThere_23 : decode cX4_thoseThere 23 = .ok (.istore_n 1, 1) := by decide +kernel
theorem dX4_thoseThere_24 : decode cX4_thoseThere 24 = .ok (.iinc 2 1, 3) := by decide +kernel
theorem dX4_thoseThere_27 : decode cX4_thoseThere 27 = .ok (.goto (-23), 3) := by decide +kernel
theorem dX4_thoseThere_30 : decode cX4_thoseThere 30 = .ok (.iload_n 1, 1) := by decide +kernel
theorem dX4_thoseThere_31 : decode cX4_thoseThere 31 = .ok (.ireturn, 1) := by decide +kernel
set_option maxRecDepth 20000 in
theorem ggX4_count_X4_thoseThere : GoodIn wsX4_count wsX4_thoseThere := goodIn_r _ [10, 1, 33, 34, 35, 36, 37, 38, 39, 40, 41, 42, 43, 44, 45] (by decide +kernel) (by decide +kernel)
set_option maxRecDepth 20000 in
theorem gX4_count_X4_thoseThere : GoodIn wsX4_count (wsV RX4 119 RX4 yX4_thoseThere wsX4_thoseThere) := goodIn_app (goodIn_of _ (by decide +kernel)) ggX4_count_X4_thoseThere
set_option maxRecDepth 20000 in
theorem ggX4_count_X4_sum : GoodIn wsX4_count wsX4_sum := goodIn_r _ [14, 1, 33, 34, 35, 36, 37, 38, 39, 40, 41, 42, 43, 44, 45] (by decide +kernel) (by decide +kernel)
set_option maxRecDepth 20000 in
theorem gX4_count_X4_sum : GoodIn wsX4_count (wsV RX4 100 RX4 yX4_sum wsX4_sum) := goodIn_app (goodIn_of _ (by decide +kernel)) ggX4_count_X4_sum
set_option maxRecDepth 20000 in
theorem ggX4_count_X4_newPairs : GoodIn wsX4_count wsX4_newPairs := goodIn_r _ [18, 19, 20, 21, 9, 22, 1, 23, 24, 25, 26, 27, 28, 29, 33, 34, 35, 36, 37, 38, 39, 40, 41, 42, 43, 44, 45] (by decide +kernel) (by decide +kernel)
set_option maxRecDepth 20000 in
theorem gX4_count_X4_newPairs : GoodIn wsX4_count (wsV RX4 123 RX4 yX4_newPairs wsX4_newPairs) := goodIn_app (goodIn_of _ (by decide +kernel)) ggX4_count_X4_newPairs
set_option maxRecDepth 20000 in
theorem ggX4_count_X4_in : GoodIn wsX4_count wsX4_in := goodIn_r _ [32] (by decide +kernel) (by decide +kernel)
set_option maxRecDepth 20000 in
theorem gX4_count_X4_in : GoodIn wsX4_count (va_wsS RX4 44 yX4_in wsX4_in) := goodIn_app (goodIn_of _ (by decide +kernel)) ggX4_count_X4_in
theorem dX4_count_0 : decode cX4_count 0 = .ok (.iload_n 1, 1) := by decide +kernel
theorem dX4_count_1 : decode cX4_count 1 = .ok (.tableswitch 106 4 12 #[51, 56, 63, 70, 75, 82, 89, 96, 101], 51) := by decide +kernel
theorem dX4_count_52 : decode cX4_count 52 = .ok (.aload_n 0, 1) := by decide +kernel
theorem dX4_count_53 : decode cX4_count 53 = .ok (.invokevirtual 119, 3) := by decide +kernel
theorem dX4_count_56 : decode cX4_count 56 = .ok (.ireturn, 1) := by decide +kernel
theorem dX4_count_57 : decode cX4_count 57 = .ok (.aload_n 0, 1) := by decide +kernel
theorem dX4_count_58 : decode cX4_count 58 = .ok (.getfield 7, 3) := by decide +kernel
theorem dX4_count_61 : decode cX4_count 61 = .ok (.iconst 4, 1) := by decide +kernel
theorem dX4_count_62 : decode cX4_count 62 = .ok (.iaload, 1) := by decide +kernel
theorem dX4_count_63 : decode cX4_count 63 = .ok (.ireturn, 1) := by decide +kernel
theorem dX4_count_64 : decode cX4_count 64 = .ok (.aload_n 0, 1) := by decide +kernel
theorem dX4_count_65 : decode cX4_count 65 = .ok (.bipush 33, 2) := by decide +kernel
theorem dX4_count_67 : decode cX4_count 67 = .ok (.invokevirtual 100, 3) := by decide +kernel
theorem dX4_count_70 : decode cX4_count 70 = .ok (.ireturn, 1) := by decide +kernel
theorem dX4_count_71 : decode cX4_count 71 = .ok (.aload_n 0, 1) := by decide +kernel
theorem dX4_count_72 : decode cX4_count 72 = .ok (.invokevirtual 123, 3) := by decide +kernel
theorem dX4_count_75 : decode cX4_count 75 = .ok (.ireturn, 1) := by decide +kernel
theorem dX4_count_76 : decode cX4_count 76 = .ok (.aload_n 0, 1) := by decide +kernel
theorem dX4_count_77 : decode cX4_count 77 = .ok (.bipush 60, 2) := by decide +kernel
theorem dX4_count_79 : decode cX4_count 79 = .ok (.invokevirtual 100, 3) := by decide +kernel
theorem dX4_count_82 : decode cX4_count 82 = .ok (.ireturn, 1) := by decide +kernel
theorem dX4_count_83 : decode cX4_count 83 = .ok (.aload_n 0, 1) := by decide +kernel
theorem dX4_count_84 : decode cX4_count 84 = .ok (.bipush 24, 2) := by decide +kernel
theorem dX4_count_86 : decode cX4_count 86 = .ok (.invokevirtual 100, 3) := by decide +kernel
theorem dX4_count_89 : decode cX4_count 89 = .ok (.ireturn, 1) := by decide +kernel
theorem dX4_count_90 : decode cX4_count 90 = .ok (.aload_n 0, 1) := by decide +kernel
theorem dX4_count_91 : decode cX4_count 91 = .ok (.getfield 7, 3) := by decide +kernel
theorem dX4_count_94 : decode cX4_count 94 = .ok (.iconst 5, 1) := by decide +kernel
theorem dX4_count_95 : decode cX4_count 95 = .ok (.iaload, 1) := by decide +kernel
theorem dX4_count_96 : decode cX4_count 96 = .ok (.ireturn, 1) := by decide +kernel
theorem dX4_count_97 : decode cX4_count 97 = .ok (.aload_n 0, 1) := by decide +kernel
theorem dX4_count_98 : decode cX4_count 98 = .ok (.getfield 126, 3) := by decide +kernel
theorem dX4_count_101 : decode cX4_count 101 = .ok (.ireturn, 1) := by decide +kernel
theorem dX4_count_102 : decode cX4_count 102 = .ok (.aload_n 0, 1) := by decide +kernel
theorem dX4_count_103 : decode cX4_count 103 = .ok (.getfield 38, 3) := by decide +kernel
theorem dX4_count_106 : decode cX4_count 106 = .ok (.ireturn, 1) := by decide +kernel
theorem dX4_count_107 : decode cX4_count 107 = .ok (.iload_n 1, 1) := by decide +kernel
theorem dX4_count_108 : decode cX4_count 108 = .ok (.i2l, 1) := by decide +kernel
theorem dX4_count_109 : decode cX4_count 109 = .ok (.lconst 0, 1) := by decide +kernel
theorem dX4_count_110 : decode cX4_count 110 = .ok (.ldc2_w 129, 3) := by decide +kernel
theorem dX4_count_113 : decode cX4_count 113 = .ok (.invokestatic 44, 3) := by decide +kernel
theorem dX4_count_116 : decode cX4_count 116 = .ok (.ifCond .eq 12, 3) := by decide +kernel
theorem dX4_count_119 : decode cX4_count 119 = .ok (.aload_n 0, 1) := by decide +kernel
theorem dX4_count_120 : decode cX4_count 120 = .ok (.getfield 7, 3) := by decide +kernel
theorem dX4_count_123 : decode cX4_count 123 = .ok (.iload_n 1, 1) := by decide +kernel
theorem dX4_count_124 : decode cX4_count 124 = .ok (.iaload, 1) := by decide +kernel
theorem dX4_count_125 : decode cX4_count 125 = .ok (.goto 5, 3) := by decide +kernel
theorem dX4_count_128 : decode cX4_count 128 = .ok (.ldc 91, 2) := by decide +kernel
theorem dX4_count_130 : decode cX4_count 130 = .ok (.ireturn, 1) := by decide +kernel
set_option maxRecDepth 20000 in
theorem ggX4_joyBy_X4_dances : GoodIn wsX4_joyBy wsX4_dances := goodIn_r _ [5, 6, 7, 4, 8, 9, 10, 11, 12, 13, 14, 15, 16, 17, 25, 26, 27, 28, 29, 30, 31, 32, 33, 34, 35, 36, 37] (by decide +kernel) (by decide +kernel)
set_option maxRecDepth 20000 in
theorem gX4_joyBy_X4_dances : GoodIn wsX4_joyBy (wsV RX4 67 RX4 yX4_dances wsX4_dances) := goodIn_app (goodIn_of _ (by decide +kernel)) ggX4_joyBy_X4_dances
set_option maxRecDepth 20000 in
theorem ggX4_joyBy_X4_partnerBy : GoodIn wsX4_joyBy wsX4_partnerBy := goodIn_r _ [8] (by decide +kernel) (by decide +kernel)
set_option maxRecDepth 20000 in
theorem gX4_joyBy_X4_partnerBy : GoodIn wsX4_joyBy (va_wsS RX4 54 yX4_partnerBy wsX4_partnerBy) := goodIn_app (goodIn_of _ (by decide +kernel)) ggX4_joyBy_X4_partnerBy
set_option maxRecDepth 20000 in
theorem ggX4_joyBy_X4_joyOf : GoodIn wsX4_joyBy wsX4_joyOf := goodIn_r _ [21, 13, 22, 23, 4, 24, 25, 26, 27, 28, 29, 30, 31, 32, 33, 34, 35, 36, 37] (by decide +kernel) (by decide +kernel)
set_option maxRecDepth 20000 in
theorem gX4_joyBy_X4_joyOf : GoodIn wsX4_joyBy (wsV RX4 64 RX4 yX4_joyOf wsX4_joyOf) := goodIn_app (goodIn_of _ (by decide +kernel)) ggX4_joyBy_X4_joyOf
theorem dX4_joyBy_0 : decode cX4_joyBy 0 = .ok (.iconst 0, 1) := by decide +kernel
theorem dX4_joyBy_1 : decode cX4_joyBy 1 = .ok (.istore_n 2, 1) := by decide +kernel
theorem dX4_joyBy_2 : decode cX4_joyBy 2 = .ok (.iconst 0, 1) := by decide +kernel
theorem dX4_joyBy_3 : decode cX4_joyBy 3 = .ok (.istore_n 3, 1) := by decide +kernel
theorem dX4_joyBy_4 : decode cX4_joyBy 4 = .ok (.iload_n 3, 1) := by decide +kernel
theorem dX4_joyBy_5 : decode cX4_joyBy 5 = .ok (.bipush 9, 2) := by decide +kernel
theorem dX4_joyBy_7 : decode cX4_joyBy 7 = .ok (.if_icmp .ge 35, 3) := by decide +kernel
theorem dX4_joyBy_10 : decode cX4_joyBy 10 = .ok (.iload_n 2, 1) := by decide +kernel
theorem dX4_joyBy_11 : decode cX4_joyBy 11 = .ok (.aload_n 0, 1) := by decide +kernel
theorem dX4_joyBy_12 : decode cX4_joyBy 12 = .ok (.iload_n 3, 1) := by decide +kernel
theorem dX4_joyBy_13 : decode cX4_joyBy 13 = .ok (.iload_n 1, 1) := by decide +kernel
theorem dX4_joyBy_14 : decode cX4_joyBy 14 = .ok (.invokevirtual 67, 3) := by decide +kernel
theorem dX4_joyBy_17 : decode cX4_joyBy 17 = .ok (.ifCond .eq 16, 3) := by decide +kernel
theorem dX4_joyBy_20 : decode cX4_joyBy 20 = .ok (.aload_n 0, 1) := by decide +kernel
theorem dX4_joyBy_21 : decode cX4_joyBy 21 = .ok (.iload_n 3, 1) := by decide +kernel
theorem dX4_joyBy_22 : decode cX4_joyBy 22 = .ok (.iload_n 3, 1) := by decide +kernel
theorem dX4_joyBy_23 : decode cX4_joyBy 23 = .ok (.iload_n 1, 1) := by decide +kernel
theorem dX4_joyBy_24 : decode cX4_joyBy 24 = .ok (.invokestatic 54, 3) := by decide +kernel
theorem dX4_joyBy_27 : decode cX4_joyBy 27 = .ok (.invokevirtual 64, 3) := by decide +kernel
theorem dX4_joyBy_30 : decode cX4_joyBy 30 = .ok (.goto 4, 3) := by decide +kernel
theorem dX4_joyBy_33 : decode cX4_joyBy 33 = .ok (.iconst 0, 1) := by decide +kernel
theorem dX4_joyBy_34 : decode cX4_joyBy 34 = .ok (.iadd, 1) := by decide +kernel
theorem dX4_joyBy_35 : decode cX4_joyBy 35 = .ok (.istore_n 2, 1) := by decide +kernel
theorem dX4_joyBy_36 : decode cX4_joyBy 36 = .ok (.iinc 3 1, 3) := by decide +kernel
theorem dX4_joyBy_39 : decode cX4_joyBy 39 = .ok (.goto (-35), 3) := by decide +kernel
theorem dX4_joyBy_42 : decode cX4_joyBy 42 = .ok (.iload_n 2, 1) := by decide +kernel
theorem dX4_joyBy_43 : decode cX4_joyBy 43 = .ok (.ireturn, 1) := by decide +kernel
set_option maxRecDepth 20000 in
theorem ggX4_villagersBy_X4_partnerBy : GoodIn wsX4_villagersBy wsX4_partnerBy := goodIn_r _ [5] (by decide +kernel) (by decide +kernel)
set_option maxRecDepth 20000 in
theorem gX4_villagersBy_X4_partnerBy : GoodIn wsX4_villagersBy (va_wsS RX4 54 yX4_partnerBy wsX4_partnerBy) := goodIn_app (goodIn_of _ (by decide +kernel)) ggX4_villagersBy_X4_partnerBy
set_option maxRecDepth 20000 in
theorem ggX4_villagersBy_X4_dances : GoodIn wsX4_villagersBy wsX4_dances := goodIn_r _ [9, 2, 3, 4, 5, 10, 11, 12, 13, 1, 14, 15, 16, 17, 21, 22, 23, 24, 25, 26, 27, 28, 29, 30, 31, 32, 33] (by decide +kernel) (by decide +kernel)
set_option maxRecDepth 20000 in
theorem gX4_villagersBy_X4_dances : GoodIn wsX4_villagersBy (wsV RX4 67 RX4 yX4_dances wsX4_dances) := goodIn_app (goodIn_of _ (by decide +kernel)) ggX4_villagersBy_X4_dances
set_option maxRecDepth 20000 in
theorem ggX4_villagersBy_X4_isThere : GoodIn wsX4_villagersBy wsX4_isThere := goodIn_r _ [17, 1, 21, 22, 23, 24, 25, 26, 27, 28, 29, 30, 31, 32, 33] (by decide +kernel) (by decide +kernel)
set_option maxRecDepth 20000 in
theorem gX4_villagersBy_X4_isThere : GoodIn wsX4_villagersBy (wsV RX4 50 RX4 yX4_isThere wsX4_isThere) := goodIn_app (goodIn_of _ (by decide +kernel)) ggX4_villagersBy_X4_isThere
set_option maxRecDepth 20000 in
theorem ggX4_villagersBy_X4_pairAt : GoodIn wsX4_villagersBy wsX4_pairAt := goodIn_r _ [20] (by decide +kernel) (by decide +kernel)
set_option maxRecDepth 20000 in
theorem gX4_villagersBy_X4_pairAt : GoodIn wsX4_villagersBy (va_wsS RX4 61 yX4_pairAt wsX4_pairAt) := goodIn_app (goodIn_of _ (by decide +kernel)) ggX4_villagersBy_X4_pairAt
theorem dX4_villagersBy_0 : decode cX4_villagersBy 0 = .ok (.iconst 0, 1) := by decide +kernel
theorem dX4_villagersBy_1 : decode cX4_villagersBy 1 = .ok (.istore_n 3, 1) := by decide +kernel
theorem dX4_villagersBy_2 : decode cX4_villagersBy 2 = .ok (.iconst 0, 1) := by decide +kernel
theorem dX4_villagersBy_3 : decode cX4_villagersBy 3 = .ok (.istore 4, 2) := by decide +kernel
theorem dX4_villagersBy_5 : decode cX4_villagersBy 5 = .ok (.iload 4, 2) := by decide +kernel
theorem dX4_villagersBy_7 : decode cX4_villagersBy 7 = .ok (.bipush 9, 2) := by decide +kernel
theorem dX4_villagersBy_9 : decode cX4_villagersBy 9 = .ok (.if_icmp .ge 99, 3) := by decide +kernel
theorem dX4_villagersBy_12 : decode cX4_villagersBy 12 = .ok (.iload 4, 2) := by decide +kernel
theorem dX4_villagersBy_14 : decode cX4_villagersBy 14 = .ok (.iload_n 1, 1) := by decide +kernel
theorem dX4_villagersBy_15 : decode cX4_villagersBy 15 = .ok (.invokestatic 54, 3) := by decide +kernel
theorem dX4_villagersBy_18 : decode cX4_villagersBy 18 = .ok (.istore 5, 2) := by decide +kernel
theorem dX4_villagersBy_20 : decode cX4_villagersBy 20 = .ok (.aload_n 0, 1) := by decide +kernel
theorem dX4_villagersBy_21 : decode cX4_villagersBy 21 = .ok (.iload 4, 2) := by decide +kernel
theorem dX4_villagersBy_23 : decode cX4_villagersBy 23 = .ok (.iload_n 1, 1) := by decide +kernel
theorem dX4_villagersBy_24 : decode cX4_villagersBy 24 = .ok (.invokevirtual 67, 3) := by decide +kernel
theorem dX4_villagersBy_27 : decode cX4_villagersBy 27 = .ok (.istore 6, 2) := by decide +kernel
theorem dX4_villagersBy_29 : decode cX4_villagersBy 29 = .ok (.iload_n 3, 1) := by decide +kernel
theorem dX4_villagersBy_30 : decode cX4_villagersBy 30 = .ok (.iload_n 2, 1) := by decide +kernel
theorem dX4_villagersBy_31 : decode cX4_villagersBy 31 = .ok (.ifCond .ne 11, 3) := by decide +kernel
theorem dX4_villagersBy_34 : decode cX4_villagersBy 34 = .ok (.iload 6, 2) := by decide +kernel
theorem dX4_villagersBy_36 : decode cX4_villagersBy 36 = .ok (.ifCond .eq 63, 3) := by decide +kernel
theorem dX4_villagersBy_39 : decode cX4_villagersBy 39 = .ok (.goto 56, 3) := by decide +kernel
theorem dX4_villagersBy_42 : decode cX4_villagersBy 42 = .ok (.iload_n 2, 1) := by decide +kernel
theorem dX4_villagersBy_43 : decode cX4_villagersBy 43 = .ok (.iconst 2, 1) := by decide +kernel
theorem dX4_villagersBy_44 : decode cX4_villagersBy 44 = .ok (.if_icmp .ne 27, 3) := by decide +kernel
theorem dX4_villagersBy_47 : decode cX4_villagersBy 47 = .ok (.iload 6, 2) := by decide +kernel
theorem dX4_villagersBy_49 : decode cX4_villagersBy 49 = .ok (.ifCond .ne 50, 3) := by decide +kernel
theorem dX4_villagersBy_52 : decode cX4_villagersBy 52 = .ok (.aload_n 0, 1) := by decide +kernel
theorem dX4_villagersBy_53 : decode cX4_villagersBy 53 = .ok (.iload 4, 2) := by decide +kernel
theorem dX4_villagersBy_55 : decode cX4_villagersBy 55 = .ok (.invokevirtual 50, 3) := by decide +kernel
theorem dX4_villagersBy_58 : decode cX4_villagersBy 58 = .ok (.ifCond .eq 41, 3) := by decide +kernel
theorem dX4_villagersBy_61 : decode cX4_villagersBy 61 = .ok (.iload 5, 2) := by decide +kernel
theorem dX4_villagersBy_63 : decode cX4_villagersBy 63 = .ok (.iload 4, 2) := by decide +kernel
theorem dX4_villagersBy_65 : decode cX4_villagersBy 65 = .ok (.if_icmp .eq 34, 3) := by decide +kernel
theorem dX4_villagersBy_68 : decode cX4_villagersBy 68 = .ok (.goto 27, 3) := by decide +kernel
theorem dX4_villagersBy_71 : decode cX4_villagersBy 71 = .ok (.iload 6, 2) := by decide +kernel
theorem dX4_villagersBy_73 : decode cX4_villagersBy 73 = .ok (.ifCond .eq 26, 3) := by decide +kernel
theorem dX4_villagersBy_76 : decode cX4_villagersBy 76 = .ok (.aload_n 0, 1) := by decide +kernel
theorem dX4_villagersBy_77 : decode cX4_villagersBy 77 = .ok (.getfield 7, 3) := by decide +kernel
theorem dX4_villagersBy_80 : decode cX4_villagersBy 80 = .ok (.sipush 150, 3) := by decide +kernel
theorem dX4_villagersBy_83 : decode cX4_villagersBy 83 = .ok (.iload 4, 2) := by decide +kernel
theorem dX4_villagersBy_85 : decode cX4_villagersBy 85 = .ok (.iload 5, 2) := by decide +kernel
theorem dX4_villagersBy_87 : decode cX4_villagersBy 87 = .ok (.invokestatic 61, 3) := by decide +kernel
theorem dX4_villagersBy_90 : decode cX4_villagersBy 90 = .ok (.iadd, 1) := by decide +kernel
theorem dX4_villagersBy_91 : decode cX4_villagersBy 91 = .ok (.iaload, 1) := by decide +kernel
theorem dX4_villagersBy_92 : decode cX4_villagersBy 92 = .ok (.ifCond .ne 7, 3) := by decide +kernel
theorem dX4_villagersBy_95 : decode cX4_villagersBy 95 = .ok (.iconst 1, 1) := by decide +kernel
theorem dX4_villagersBy_96 : decode cX4_villagersBy 96 = .ok (.goto 4, 3) := by decide +kernel
theorem dX4_villagersBy_99 : decode cX4_villagersBy 99 = .ok (.iconst 0, 1) := by decide +kernel
theorem dX4_villagersBy_100 : decode cX4_villagersBy 100 = .ok (.iadd, 1) := by decide +kernel
theorem dX4_villagersBy_101 : decode cX4_villagersBy 101 = .ok (.istore_n 3, 1) := by decide +kernel
theorem dX4_villagersBy_102 : decode cX4_villagersBy 102 = .ok (.iinc 4 1, 3) := by decide +kernel
theorem dX4_villagersBy_105 : decode cX4_villagersBy 105 = .ok (.goto (-100), 3) := by decide +kernel
theorem dX4_villagersBy_108 : decode cX4_villagersBy 108 = .ok (.iload_n 3, 1) := by decide +kernel
theorem dX4_villagersBy_109 : decode cX4_villagersBy 109 = .ok (.ireturn, 1) := by decide +kernel
set_option maxRecDepth 20000 in
theorem ggX4_ifCalled_X4_isNumber : GoodIn wsX4_ifCalled wsX4_isNumber := goodIn_r _ [6, 7, 8, 9, 5, 10] (by decide +kernel) (by decide +kernel)
set_option maxRecDepth 20000 in
theorem gX4_ifCalled_X4_isNumber : GoodIn wsX4_ifCalled (va_wsS RX4 104 yX4_isNumber wsX4_isNumber) := goodIn_app (goodIn_of _ (by decide +kernel)) ggX4_ifCalled_X4_isNumber
set_option maxRecDepth 20000 in
theorem ggX4_ifCalled_X4_in : GoodIn wsX4_ifCalled wsX4_in := goodIn_r _ [10] (by decide +kernel) (by decide +kernel)
set_option maxRecDepth 20000 in
theorem gX4_ifCalled_X4_in : GoodIn wsX4_ifCalled (va_wsS RX4 44 yX4_in wsX4_in) := goodIn_app (goodIn_of _ (by decide +kernel)) ggX4_ifCalled_X4_in
set_option maxRecDepth 20000 in
theorem ggX4_ifCalled_X4_joyBy : GoodIn wsX4_ifCalled wsX4_joyBy := goodIn_r _ [14, 15, 16, 17, 5, 18, 19, 20, 21, 22, 23, 24, 25, 26, 27, 28, 29, 30, 31, 32, 33, 34, 35, 36, 37, 42, 43, 44, 45, 46, 47, 48, 49, 50, 51, 52, 53, 54] (by decide +kernel) (by decide +kernel)
set_option maxRecDepth 20000 in
theorem gX4_ifCalled_X4_joyBy : GoodIn wsX4_ifCalled (wsV RX4 131 RX4 yX4_joyBy wsX4_joyBy) := goodIn_app (goodIn_of _ (by decide +kernel)) ggX4_ifCalled_X4_joyBy
set_option maxRecDepth 20000 in
theorem ggX4_ifCalled_X4_villagersBy : GoodIn wsX4_ifCalled wsX4_villagersBy := goodIn_r _ [41, 26, 19, 20, 5, 21, 15, 16, 17, 18, 22, 23, 24, 25, 27, 28, 29, 30, 35, 36, 37, 42, 43, 44, 45, 46, 47, 48, 49, 50, 51, 52, 53, 54] (by decide +kernel) (by decide +kernel)
set_option maxRecDepth 20000 in
theorem gX4_ifCalled_X4_villagersBy : GoodIn wsX4_ifCalled (wsV RX4 134 RX4 yX4_villagersBy wsX4_villagersBy) := goodIn_app (goodIn_of _ (by decide +kernel)) ggX4_ifCalled_X4_villagersBy
theorem dX4_ifCalled_0 : decode cX4_ifCalled 0 = .ok (.iload_n 1, 1) := by decide +kernel
theorem dX4_ifCalled_1 : decode cX4_ifCalled 1 = .ok (.invokestatic 104, 3) := by decide +kernel
theorem dX4_ifCalled_4 : decode cX4_ifCalled 4 = .ok (.ifCond .eq 15, 3) := by decide +kernel
theorem dX4_ifCalled_7 : decode cX4_ifCalled 7 = .ok (.iload_n 2, 1) := by decide +kernel
theorem dX4_ifCalled_8 : decode cX4_ifCalled 8 = .ok (.i2l, 1) := by decide +kernel
theorem dX4_ifCalled_9 : decode cX4_ifCalled 9 = .ok (.lconst 0, 1) := by decide +kernel
theorem dX4_ifCalled_10 : decode cX4_ifCalled 10 = .ok (.ldc2_w 129, 3) := by decide +kernel
theorem dX4_ifCalled_13 : decode cX4_ifCalled 13 = .ok (.invokestatic 44, 3) := by decide +kernel
theorem dX4_ifCalled_16 : decode cX4_ifCalled 16 = .ok (.ifCond .ne 6, 3) := by decide +kernel
theorem dX4_ifCalled_19 : decode cX4_ifCalled 19 = .ok (.ldc 91, 2) := by decide +kernel
theorem dX4_ifCalled_21 : decode cX4_ifCalled 21 = .ok (.ireturn, 1) := by decide +kernel
theorem dX4_ifCalled_22 : decode cX4_ifCalled 22 = .ok (.iload_n 2, 1) := by decide +kernel
theorem dX4_ifCalled_23 : decode cX4_ifCalled 23 = .ok (.iconst 1, 1) := by decide +kernel
theorem dX4_ifCalled_24 : decode cX4_ifCalled 24 = .ok (.if_icmp .ne 11, 3) := by decide +kernel
theorem dX4_ifCalled_27 : decode cX4_ifCalled 27 = .ok (.aload_n 0, 1) := by decide +kernel
theorem dX4_ifCalled_28 : decode cX4_ifCalled 28 = .ok (.iload_n 1, 1) := by decide +kernel
theorem dX4_ifCalled_29 : decode cX4_ifCalled 29 = .ok (.invokevirtual 131, 3) := by decide +kernel
theorem dX4_ifCalled_32 : decode cX4_ifCalled 32 = .ok (.goto 25, 3) := by decide +kernel
theorem dX4_ifCalled_35 : decode cX4_ifCalled 35 = .ok (.iload_n 2, 1) := by decide +kernel
theorem dX4_ifCalled_36 : decode cX4_ifCalled 36 = .ok (.iconst 2, 1) := by decide +kernel
theorem dX4_ifCalled_37 : decode cX4_ifCalled 37 = .ok (.if_icmp .ne 12, 3) := by decide +kernel
theorem dX4_ifCalled_40 : decode cX4_ifCalled 40 = .ok (.aload_n 0, 1) := by decide +kernel
theorem dX4_ifCalled_41 : decode cX4_ifCalled 41 = .ok (.iload_n 1, 1) := by decide +kernel
theorem dX4_ifCalled_42 : decode cX4_ifCalled 42 = .ok (.iconst 2, 1) := by decide +kernel
theorem dX4_ifCalled_43 : decode cX4_ifCalled 43 = .ok (.invokevirtual 134, 3) := by decide +kernel
theorem dX4_ifCalled_46 : decode cX4_ifCalled 46 = .ok (.goto 11, 3) := by decide +kernel
theorem dX4_ifCalled_49 : decode cX4_ifCalled 49 = .ok (.aload_n 0, 1) := by decide +kernel
theorem dX4_ifCalled_50 : decode cX4_ifCalled 50 = .ok (.iload_n 1, 1) := by decide +kernel
theorem dX4_ifCalled_51 : decode cX4_ifCalled 51 = .ok (.iload_n 2, 1) := by decide +kernel
theorem dX4_ifCalled_52 : decode cX4_ifCalled 52 = .ok (.invokevirtual 134, 3) := by decide +kernel
theorem dX4_ifCalled_55 : decode cX4_ifCalled 55 = .ok (.iconst 2, 1) := by decide +kernel
theorem dX4_ifCalled_56 : decode cX4_ifCalled 56 = .ok (.idiv, 1) := by decide +kernel
theorem dX4_ifCalled_57 : decode cX4_ifCalled 57 = .ok (.ireturn, 1) := by decide +kernel
set_option maxRecDepth 20000 in
theorem ggX4_bestCall_X4_in : GoodIn wsX4_bestCall wsX4_in := goodIn_r _ [5] (by decide +kernel) (by decide +kernel)
set_option maxRecDepth 20000 in
theorem gX4_bestCall_X4_in : GoodIn wsX4_bestCall (va_wsS RX4 44 yX4_in wsX4_in) := goodIn_app (goodIn_of _ (by decide +kernel)) ggX4_bestCall_X4_in
set_option maxRecDepth 20000 in
theorem ggX4_bestCall_X4_joyBy : GoodIn wsX4_bestCall wsX4_joyBy := goodIn_r _ [9, 10, 11, 12, 4, 13, 14, 15, 16, 17, 18, 19, 20, 21, 22, 23, 24, 25, 26, 27, 28, 29, 30, 31, 32, 33, 34, 35, 36, 37, 38, 39, 40, 41, 42, 43, 44, 45] (by decide +kernel) (by decide +kernel)
set_option maxRecDepth 20000 in
theorem gX4_bestCall_X4_joyBy : GoodIn wsX4_bestCall (wsV RX4 131 RX4 yX4_joyBy wsX4_joyBy) := goodIn_app (goodIn_of _ (by decide +kernel)) ggX4_bestCall_X4_joyBy
theorem dX4_bestCall_0 : decode cX4_bestCall 0 = .ok (.iload_n 1, 1) := by decide +kernel
theorem dX4_bestCall_1 : decode cX4_bestCall 1 = .ok (.i2l, 1) := by decide +kernel
theorem dX4_bestCall_2 : decode cX4_bestCall 2 = .ok (.lconst 0, 1) := by decide +kernel
theorem dX4_bestCall_3 : decode cX4_bestCall 3 = .ok (.lconst 1, 1) := by decide +kernel
theorem dX4_bestCall_4 : decode cX4_bestCall 4 = .ok (.invokestatic 44, 3) := by decide +kernel
theorem dX4_bestCall_7 : decode cX4_bestCall 7 = .ok (.ifCond .ne 6, 3) := by decide +kernel
theorem dX4_bestCall_10 : decode cX4_bestCall 10 = .ok (.ldc 91, 2) := by decide +kernel
theorem dX4_bestCall_12 : decode cX4_bestCall 12 = .ok (.ireturn, 1) := by decide +kernel
theorem dX4_bestCall_13 : decode cX4_bestCall 13 = .ok (.iconst 0, 1) := by decide +kernel
theorem dX4_bestCall_14 : decode cX4_bestCall 14 = .ok (.istore_n 2, 1) := by decide +kernel
theorem dX4_bestCall_15 : decode cX4_bestCall 15 = .ok (.iconst 1, 1) := by decide +kernel
theorem dX4_bestCall_16 : decode cX4_bestCall 16 = .ok (.istore_n 3, 1) := by decide +kernel
theorem dX4_bestCall_17 : decode cX4_bestCall 17 = .ok (.iload_n 3, 1) := by decide +kernel
theorem dX4_bestCall_18 : decode cX4_bestCall 18 = .ok (.bipush 9, 2) := by decide +kernel
theorem dX4_bestCall_20 : decode cX4_bestCall 20 = .ok (.if_icmp .ge 28, 3) := by decide +kernel
theorem dX4_bestCall_23 : decode cX4_bestCall 23 = .ok (.aload_n 0, 1) := by decide +kernel
theorem dX4_bestCall_24 : decode cX4_bestCall 24 = .ok (.iload_n 3, 1) := by decide +kernel
theorem dX4_bestCall_25 : decode cX4_bestCall 25 = .ok (.invokevirtual 131, 3) := by decide +kernel
theorem dX4_bestCall_28 : decode cX4_bestCall 28 = .ok (.aload_n 0, 1) := by decide +kernel
theorem dX4_bestCall_29 : decode cX4_bestCall 29 = .ok (.iload_n 2, 1) := by decide +kernel
theorem dX4_bestCall_30 : decode cX4_bestCall 30 = .ok (.invokevirtual 131, 3) := by decide +kernel
theorem dX4_bestCall_33 : decode cX4_bestCall 33 = .ok (.if_icmp .le 7, 3) := by decide +kernel
theorem dX4_bestCall_36 : decode cX4_bestCall 36 = .ok (.iload_n 3, 1) := by decide +kernel
theorem dX4_bestCall_37 : decode cX4_bestCall 37 = .ok (.goto 4, 3) := by decide +kernel
theorem dX4_bestCall_40 : decode cX4_bestCall 40 = .ok (.iload_n 2, 1) := by decide +kernel
theorem dX4_bestCall_41 : decode cX4_bestCall 41 = .ok (.istore_n 2, 1) := by decide +kernel
theorem dX4_bestCall_42 : decode cX4_bestCall 42 = .ok (.iinc 3 1, 3) := by decide +kernel
theorem dX4_bestCall_45 : decode cX4_bestCall 45 = .ok (.goto (-28), 3) := by decide +kernel
theorem dX4_bestCall_48 : decode cX4_bestCall 48 = .ok (.iload_n 1, 1) := by decide +kernel
theorem dX4_bestCall_49 : decode cX4_bestCall 49 = .ok (.ifCond .ne 7, 3) := by decide +kernel
theorem dX4_bestCall_52 : decode cX4_bestCall 52 = .ok (.iload_n 2, 1) := by decide +kernel
theorem dX4_bestCall_53 : decode cX4_bestCall 53 = .ok (.goto 8, 3) := by decide +kernel
theorem dX4_bestCall_56 : decode cX4_bestCall 56 = .ok (.aload_n 0, 1) := by decide +kernel
theorem dX4_bestCall_57 : decode cX4_bestCall 57 = .ok (.iload_n 2, 1) := by decide +kernel
theorem dX4_bestCall_58 : decode cX4_bestCall 58 = .ok (.invokevirtual 131, 3) := by decide +kernel
theorem dX4_bestCall_61 : decode cX4_bestCall 61 = .ok (.ireturn, 1) := by decide +kernel
set_option maxRecDepth 20000 in
theorem ggX4_fewestRounds_X4_in : GoodIn wsX4_fewestRounds wsX4_in := goodIn_r _ [5] (by decide +kernel) (by decide +kernel)
set_option maxRecDepth 20000 in
theorem gX4_fewestRounds_X4_in : GoodIn wsX4_fewestRounds (va_wsS RX4 44 yX4_in wsX4_in) := goodIn_app (goodIn_of _ (by decide +kernel)) ggX4_fewestRounds_X4_in
set_option maxRecDepth 20000 in
theorem ggX4_fewestRounds_X4_isNew : GoodIn wsX4_fewestRounds wsX4_isNew := goodIn_r _ [9, 10, 11, 12, 13, 4, 14, 15, 16, 17, 18, 19, 20, 21, 22, 23, 24, 25, 26, 27, 28, 29, 30] (by decide +kernel) (by decide +kernel)
set_option maxRecDepth 20000 in
theorem gX4_fewestRounds_X4_isNew : GoodIn wsX4_fewestRounds (wsV RX4 79 RX4 yX4_isNew wsX4_isNew) := goodIn_app (goodIn_of _ (by decide +kernel)) ggX4_fewestRounds_X4_isNew
theorem dX4_fewestRounds_0 : decode cX4_fewestRounds 0 = .ok (.iload_n 1, 1) := by decide +kernel
theorem dX4_fewestRounds_1 : decode cX4_fewestRounds 1 = .ok (.i2l, 1) := by decide +kernel
theorem dX4_fewestRounds_2 : decode cX4_fewestRounds 2 = .ok (.lconst 0, 1) := by decide +kernel
theorem dX4_fewestRounds_3 : decode cX4_fewestRounds 3 = .ok (.lconst 1, 1) := by decide +kernel
theorem dX4_fewestRounds_4 : decode cX4_fewestRounds 4 = .ok (.invokestatic 44, 3) := by decide +kernel
theorem dX4_fewestRounds_7 : decode cX4_fewestRounds 7 = .ok (.ifCond .ne 6, 3) := by decide +kernel
theorem dX4_fewestRounds_10 : decode cX4_fewestRounds 10 = .ok (.ldc 91, 2) := by decide +kernel
theorem dX4_fewestRounds_12 : decode cX4_fewestRounds 12 = .ok (.ireturn, 1) := by decide +kernel
theorem dX4_fewestRounds_13 : decode cX4_fewestRounds 13 = .ok (.iconst 0, 1) := by decide +kernel
theorem dX4_fewestRounds_14 : decode cX4_fewestRounds 14 = .ok (.istore_n 2, 1) := by decide +kernel
theorem dX4_fewestRounds_15 : decode cX4_fewestRounds 15 = .ok (.iconst 0, 1) := by decide +kernel
theorem dX4_fewestRounds_16 : decode cX4_fewestRounds 16 = .ok (.istore_n 3, 1) := by decide +kernel
theorem dX4_fewestRounds_17 : decode cX4_fewestRounds 17 = .ok (.iload_n 3, 1) := by decide +kernel
theorem dX4_fewestRounds_18 : decode cX4_fewestRounds 18 = .ok (.bipush 9, 2) := by decide +kernel
theorem dX4_fewestRounds_20 : decode cX4_fewestRounds 20 = .ok (.if_icmp .ge 53, 3) := by decide +kernel
theorem dX4_fewestRounds_23 : decode cX4_fewestRounds 23 = .ok (.iload_n 3, 1) := by decide +kernel
theorem dX4_fewestRounds_24 : decode cX4_fewestRounds 24 = .ok (.iconst 1, 1) := by decide +kernel
theorem dX4_fewestRounds_25 : decode cX4_fewestRounds 25 = .ok (.iadd, 1) := by decide +kernel
theorem dX4_fewestRounds_26 : decode cX4_fewestRounds 26 = .ok (.istore 4, 2) := by decide +kernel
theorem dX4_fewestRounds_28 : decode cX4_fewestRounds 28 = .ok (.iload 4, 2) := by decide +kernel
theorem dX4_fewestRounds_30 : decode cX4_fewestRounds 30 = .ok (.bipush 9, 2) := by decide +kernel
theorem dX4_fewestRounds_32 : decode cX4_fewestRounds 32 = .ok (.if_icmp .ge 35, 3) := by decide +kernel
theorem dX4_fewestRounds_35 : decode cX4_fewestRounds 35 = .ok (.iload_n 2, 1) := by decide +kernel
theorem dX4_fewestRounds_36 : decode cX4_fewestRounds 36 = .ok (.aload_n 0, 1) := by decide +kernel
theorem dX4_fewestRounds_37 : decode cX4_fewestRounds 37 = .ok (.iload_n 3, 1) := by decide +kernel
theorem dX4_fewestRounds_38 : decode cX4_fewestRounds 38 = .ok (.iload 4, 2) := by decide +kernel
theorem dX4_fewestRounds_40 : decode cX4_fewestRounds 40 = .ok (.invokevirtual 79, 3) := by decide +kernel
theorem dX4_fewestRounds_43 : decode cX4_fewestRounds 43 = .ok (.ifCond .eq 15, 3) := by decide +kernel
theorem dX4_fewestRounds_46 : decode cX4_fewestRounds 46 = .ok (.iconst 1, 1) := by decide +kernel
theorem dX4_fewestRounds_47 : decode cX4_fewestRounds 47 = .ok (.iload_n 3, 1) := by decide +kernel
theorem dX4_fewestRounds_48 : decode cX4_fewestRounds 48 = .ok (.iload 4, 2) := by decide +kernel
theorem dX4_fewestRounds_50 : decode cX4_fewestRounds 50 = .ok (.iadd, 1) := by decide +kernel
theorem dX4_fewestRounds_51 : decode cX4_fewestRounds 51 = .ok (.bipush 9, 2) := by decide +kernel
theorem dX4_fewestRounds_53 : decode cX4_fewestRounds 53 = .ok (.irem, 1) := by decide +kernel
theorem dX4_fewestRounds_54 : decode cX4_fewestRounds 54 = .ok (.ishl, 1) := by decide +kernel
theorem dX4_fewestRounds_55 : decode cX4_fewestRounds 55 = .ok (.goto 4, 3) := by decide +kernel
theorem dX4_fewestRounds_58 : decode cX4_fewestRounds 58 = .ok (.iconst 0, 1) := by decide +kernel
theorem dX4_fewestRounds_59 : decode cX4_fewestRounds 59 = .ok (.ior, 1) := by decide +kernel
theorem dX4_fewestRounds_60 : decode cX4_fewestRounds 60 = .ok (.istore_n 2, 1) := by decide +kernel
theorem dX4_fewestRounds_61 : decode cX4_fewestRounds 61 = .ok (.iinc 4 1, 3) := by decide +kernel
theorem dX4_fewestRounds_64 : decode cX4_fewestRounds 64 = .ok (.goto (-36), 3) := by decide +kernel
theorem dX4_fewestRounds_67 : decode cX4_fewestRounds 67 = .ok (.iinc 3 1, 3) := by decide +kernel
theorem dX4_fewestRounds_70 : decode cX4_fewestRounds 70 = .ok (.goto (-53), 3) := by decide +kernel
theorem dX4_fewestRounds_73 : decode cX4_fewestRounds 73 = .ok (.iconst 0, 1) := by decide +kernel
theorem dX4_fewestRounds_74 : decode cX4_fewestRounds 74 = .ok (.istore_n 3, 1) := by decide +kernel
theorem dX4_fewestRounds_75 : decode cX4_fewestRounds 75 = .ok (.iconst 0, 1) := by decide +kernel
theorem dX4_fewestRounds_76 : decode cX4_fewestRounds 76 = .ok (.istore 4, 2) := by decide +kernel
theorem dX4_fewestRounds_78 : decode cX4_fewestRounds 78 = .ok (.iload 4, 2) := by decide +kernel
theorem dX4_fewestRounds_80 : decode cX4_fewestRounds 80 = .ok (.bipush 9, 2) := by decide +kernel
theorem dX4_fewestRounds_82 : decode cX4_fewestRounds 82 = .ok (.if_icmp .ge 18, 3) := by decide +kernel
theorem dX4_fewestRounds_85 : decode cX4_fewestRounds 85 = .ok (.iload_n 3, 1) := by decide +kernel
theorem dX4_fewestRounds_86 : decode cX4_fewestRounds 86 = .ok (.iload_n 2, 1) := by decide +kernel
theorem dX4_fewestRounds_87 : decode cX4_fewestRounds 87 = .ok (.iload 4, 2) := by decide +kernel
theorem dX4_fewestRounds_89 : decode cX4_fewestRounds 89 = .ok (.ishr, 1) := by decide +kernel
theorem dX4_fewestRounds_90 : decode cX4_fewestRounds 90 = .ok (.iconst 1, 1) := by decide +kernel
theorem dX4_fewestRounds_91 : decode cX4_fewestRounds 91 = .ok (.iand, 1) := by decide +kernel
theorem dX4_fewestRounds_92 : decode cX4_fewestRounds 92 = .ok (.iadd, 1) := by decide +kernel
theorem dX4_fewestRounds_93 : decode cX4_fewestRounds 93 = .ok (.istore_n 3, 1) := by decide +kernel
theorem dX4_fewestRounds_94 : decode cX4_fewestRounds 94 = .ok (.iinc 4 1, 3) := by decide +kernel
theorem dX4_fewestRounds_97 : decode cX4_fewestRounds 97 = .ok (.goto (-19), 3) := by decide +kernel
theorem dX4_fewestRounds_100 : decode cX4_fewestRounds 100 = .ok (.iload_n 3, 1) := by decide +kernel
theorem dX4_fewestRounds_101 : decode cX4_fewestRounds 101 = .ok (.ireturn, 1) := by decide +kernel
set_option maxRecDepth 20000 in
theorem ggX4_untilAllMet_X4_keeps : GoodIn wsX4_untilAllMet wsX4_keeps := goodIn_r _ [6, 7, 8, 56, 57, 58, 59, 60, 61, 62, 63, 64, 65, 66, 67, 68] (by decide +kernel) (by decide +kernel)
set_option maxRecDepth 20000 in
theorem gX4_untilAllMet_X4_keeps : GoodIn wsX4_untilAllMet (wsV RX4 137 RX4 yX4_keeps wsX4_keeps) := goodIn_app (goodIn_of _ (by decide +kernel)) ggX4_untilAllMet_X4_keeps
set_option maxRecDepth 20000 in
theorem ggX4_untilAllMet_X4_newPairs : GoodIn wsX4_untilAllMet wsX4_newPairs := goodIn_r _ [12, 13, 14, 15, 5, 16, 8, 17, 18, 19, 20, 21, 22, 23, 56, 57, 58, 59, 60, 61, 62, 63, 64, 65, 66, 67, 68] (by decide +kernel) (by decide +kernel)
set_option maxRecDepth 20000 in
theorem gX4_untilAllMet_X4_newPairs : GoodIn wsX4_untilAllMet (wsV RX4 123 RX4 yX4_newPairs wsX4_newPairs) := goodIn_app (goodIn_of _ (by decide +kernel)) ggX4_untilAllMet_X4_newPairs
set_option maxRecDepth 20000 in
theorem ggX4_untilAllMet_X4_round : GoodIn wsX4_untilAllMet wsX4_round := goodIn_r _ [27, 28, 8, 29, 30, 31, 5, 32, 33, 34, 35, 36, 37, 38, 39, 17, 18, 19, 20, 40, 41, 42, 43, 44, 45, 46, 47, 21, 22, 23, 48, 49, 50, 51, 56, 57, 58, 59, 60, 61, 62, 63, 64, 65, 66, 67, 68] (by decide +kernel) (by decide +kernel)
set_option maxRecDepth 20000 in
theorem gX4_untilAllMet_X4_round : GoodIn wsX4_untilAllMet (wsV RX4 108 RX4 yX4_round wsX4_round) := goodIn_app (goodIn_of _ (by decide +kernel)) ggX4_untilAllMet_X4_round
set_option maxRecDepth 20000 in
theorem ggX4_untilAllMet_X4_comesBack : GoodIn wsX4_untilAllMet wsX4_comesBack := goodIn_r _ [55, 8, 7, 56, 57, 58, 59, 60, 61, 62, 63, 64, 65, 66, 67, 68] (by decide +kernel) (by decide +kernel)
set_option maxRecDepth 20000 in
theorem gX4_untilAllMet_X4_comesBack : GoodIn wsX4_untilAllMet (wsV RX4 140 RX4 yX4_comesBack wsX4_comesBack) := goodIn_app (goodIn_of _ (by decide +kernel)) ggX4_untilAllMet_X4_comesBack
theorem dX4_untilAllMet_0 : decode cX4_untilAllMet 0 = .ok (.aload_n 0, 1) := by decide +kernel
theorem dX4_untilAllMet_1 : decode cX4_untilAllMet 1 = .ok (.invokevirtual 137, 3) := by decide +kernel
theorem dX4_untilAllMet_4 : decode cX4_untilAllMet 4 = .ok (.iconst 0, 1) := by decide +kernel
theorem dX4_untilAllMet_5 : decode cX4_untilAllMet 5 = .ok (.istore_n 1, 1) := by decide +kernel
theorem dX4_untilAllMet_6 : decode cX4_untilAllMet 6 = .ok (.iload_n 1, 1) := by decide +kernel
theorem dX4_untilAllMet_7 : decode cX4_untilAllMet 7 = .ok (.sipush 500, 3) := by decide +kernel
theorem dX4_untilAllMet_10 : decode cX4_untilAllMet 10 = .ok (.if_icmp .gt 25, 3) := by decide +kernel
theorem dX4_untilAllMet_13 : decode cX4_untilAllMet 13 = .ok (.aload_n 0, 1) := by decide +kernel
theorem dX4_untilAllMet_14 : decode cX4_untilAllMet 14 = .ok (.invokevirtual 123, 3) := by decide +kernel
theorem dX4_untilAllMet_17 : decode cX4_untilAllMet 17 = .ok (.ifCond .le 18, 3) := by decide +kernel
theorem dX4_untilAllMet_20 : decode cX4_untilAllMet 20 = .ok (.aload_n 0, 1) := by decide +kernel
theorem dX4_untilAllMet_21 : decode cX4_untilAllMet 21 = .ok (.iload_n 1, 1) := by decide +kernel
theorem dX4_untilAllMet_22 : decode cX4_untilAllMet 22 = .ok (.bipush 9, 2) := by decide +kernel
theorem dX4_untilAllMet_24 : decode cX4_untilAllMet 24 = .ok (.irem, 1) := by decide +kernel
theorem dX4_untilAllMet_25 : decode cX4_untilAllMet 25 = .ok (.invokevirtual 108, 3) := by decide +kernel
theorem dX4_untilAllMet_28 : decode cX4_untilAllMet 28 = .ok (.istore_n 2, 1) := by decide +kernel
theorem dX4_untilAllMet_29 : decode cX4_untilAllMet 29 = .ok (.iinc 1 1, 3) := by decide +kernel
theorem dX4_untilAllMet_32 : decode cX4_untilAllMet 32 = .ok (.goto (-26), 3) := by decide +kernel
theorem dX4_untilAllMet_35 : decode cX4_untilAllMet 35 = .ok (.aload_n 0, 1) := by decide +kernel
theorem dX4_untilAllMet_36 : decode cX4_untilAllMet 36 = .ok (.invokevirtual 140, 3) := by decide +kernel
theorem dX4_untilAllMet_39 : decode cX4_untilAllMet 39 = .ok (.iload_n 1, 1) := by decide +kernel
theorem dX4_untilAllMet_40 : decode cX4_untilAllMet 40 = .ok (.sipush 500, 3) := by decide +kernel
theorem dX4_untilAllMet_43 : decode cX4_untilAllMet 43 = .ok (.if_icmp .le 8, 3) := by decide +kernel
theorem dX4_untilAllMet_46 : decode cX4_untilAllMet 46 = .ok (.ldc 37, 2) := by decide +kernel
theorem dX4_untilAllMet_48 : decode cX4_untilAllMet 48 = .ok (.goto 4, 3) := by decide +kernel
theorem dX4_untilAllMet_51 : decode cX4_untilAllMet 51 = .ok (.iload_n 1, 1) := by decide +kernel
theorem dX4_untilAllMet_52 : decode cX4_untilAllMet 52 = .ok (.ireturn, 1) := by decide +kernel
set_option maxRecDepth 20000 in
theorem ggX4_charactersOf_X4_in : GoodIn wsX4_charactersOf wsX4_in := goodIn_r _ [7] (by decide +kernel) (by decide +kernel)
set_option maxRecDepth 20000 in
theorem gX4_charactersOf_X4_in : GoodIn wsX4_charactersOf (va_wsS RX4 44 yX4_in wsX4_in) := goodIn_app (goodIn_of _ (by decide +kernel)) ggX4_charactersOf_X4_in
theorem dX4_charactersOf_0 : decode cX4_charactersOf 0 = .ok (.lload_n 0, 1) := by decide +kernel
theorem dX4_charactersOf_1 : decode cX4_charactersOf 1 = .ok (.lstore_n 2, 1) := by decide +kernel
theorem dX4_charactersOf_2 : decode cX4_charactersOf 2 = .ok (.iconst 0, 1) := by decide +kernel
theorem dX4_charactersOf_3 : decode cX4_charactersOf 3 = .ok (.istore 4, 2) := by decide +kernel
theorem dX4_charactersOf_5 : decode cX4_charactersOf 5 = .ok (.iload 4, 2) := by decide +kernel
theorem dX4_charactersOf_7 : decode cX4_charactersOf 7 = .ok (.bipush 8, 2) := by decide +kernel
theorem dX4_charactersOf_9 : decode cX4_charactersOf 9 = .ok (.if_icmp .ge 31, 3) := by decide +kernel
theorem dX4_charactersOf_12 : decode cX4_charactersOf 12 = .ok (.lload_n 2, 1) := by decide +kernel
theorem dX4_charactersOf_13 : decode cX4_charactersOf 13 = .ok (.ldc2_w 143, 3) := by decide +kernel
theorem dX4_charactersOf_16 : decode cX4_charactersOf 16 = .ok (.land, 1) := by decide +kernel
theorem dX4_charactersOf_17 : decode cX4_charactersOf 17 = .ok (.ldc2_w 145, 3) := by decide +kernel
theorem dX4_charactersOf_20 : decode cX4_charactersOf 20 = .ok (.ldc2_w 147, 3) := by decide +kernel
theorem dX4_charactersOf_23 : decode cX4_charactersOf 23 = .ok (.invokestatic 44, 3) := by decide +kernel
theorem dX4_charactersOf_26 : decode cX4_charactersOf 26 = .ok (.ifCond .eq 14, 3) := by decide +kernel
theorem dX4_charactersOf_29 : decode cX4_charactersOf 29 = .ok (.lload_n 2, 1) := by decide +kernel
theorem dX4_charactersOf_30 : decode cX4_charactersOf 30 = .ok (.bipush 8, 2) := by decide +kernel
theorem dX4_charactersOf_32 : decode cX4_charactersOf 32 = .ok (.lushr, 1) := by decide +kernel
theorem dX4_charactersOf_33 : decode cX4_charactersOf 33 = .ok (.lstore_n 2, 1) := by decide +kernel
theorem dX4_charactersOf_34 : decode cX4_charactersOf 34 = .ok (.iinc 4 1, 3) := by decide +kernel
theorem dX4_charactersOf_37 : decode cX4_charactersOf 37 = .ok (.goto (-32), 3) := by decide +kernel
theorem dX4_charactersOf_40 : decode cX4_charactersOf 40 = .ok (.lload_n 2, 1) := by decide +kernel
theorem dX4_charactersOf_41 : decode cX4_charactersOf 41 = .ok (.lconst 0, 1) := by decide +kernel
theorem dX4_charactersOf_42 : decode cX4_charactersOf 42 = .ok (.lcmp, 1) := by decide +kernel
theorem dX4_charactersOf_43 : decode cX4_charactersOf 43 = .ok (.ifCond .ne 8, 3) := by decide +kernel
theorem dX4_charactersOf_46 : decode cX4_charactersOf 46 = .ok (.iload 4, 2) := by decide +kernel
theorem dX4_charactersOf_48 : decode cX4_charactersOf 48 = .ok (.goto 4, 3) := by decide +kernel
theorem dX4_charactersOf_51 : decode cX4_charactersOf 51 = .ok (.iconst 0, 1) := by decide +kernel
theorem dX4_charactersOf_52 : decode cX4_charactersOf 52 = .ok (.ireturn, 1) := by decide +kernel
set_option maxRecDepth 20000 in
theorem ggX4_put_X4_charactersOf : GoodIn wsX4_put wsX4_charactersOf := goodIn_r _ [9, 5, 10, 11, 12, 13, 8, 14] (by decide +kernel) (by decide +kernel)
set_option maxRecDepth 20000 in
theorem gX4_put_X4_charactersOf : GoodIn wsX4_put (va_wsS RX4 149 yX4_charactersOf wsX4_charactersOf) := goodIn_app (goodIn_of _ (by decide +kernel)) ggX4_put_X4_charactersOf
theorem dX4_put_0 : decode cX4_put 0 = .ok (.lload_n 1, 1) := by decide +kernel
theorem dX4_put_1 : decode cX4_put 1 = .ok (.invokestatic 149, 3) := by decide +kernel
theorem dX4_put_4 : decode cX4_put 4 = .ok (.istore_n 3, 1) := by decide +kernel
theorem dX4_put_5 : decode cX4_put 5 = .ok (.iload_n 3, 1) := by decide +kernel
theorem dX4_put_6 : decode cX4_put 6 = .ok (.ifCond .ne 6, 3) := by decide +kernel
theorem dX4_put_9 : decode cX4_put 9 = .ok (.ldc 91, 2) := by decide +kernel
theorem dX4_put_11 : decode cX4_put 11 = .ok (.ireturn, 1) := by decide +kernel
theorem dX4_put_12 : decode cX4_put 12 = .ok (.aload_n 0, 1) := by decide +kernel
theorem dX4_put_13 : decode cX4_put 13 = .ok (.getfield 126, 3) := by decide +kernel
theorem dX4_put_16 : decode cX4_put 16 = .ok (.iload_n 3, 1) := by decide +kernel
theorem dX4_put_17 : decode cX4_put 17 = .ok (.iadd, 1) := by decide +kernel
theorem dX4_put_18 : decode cX4_put 18 = .ok (.bipush 60, 2) := by decide +kernel
theorem dX4_put_20 : decode cX4_put 20 = .ok (.if_icmp .le 6, 3) := by decide +kernel
theorem dX4_put_23 : decode cX4_put 23 = .ok (.ldc 107, 2) := by decide +kernel
theorem dX4_put_25 : decode cX4_put 25 = .ok (.ireturn, 1) := by decide +kernel
theorem dX4_put_26 : decode cX4_put 26 = .ok (.iconst 0, 1) := by decide +kernel
theorem dX4_put_27 : decode cX4_put 27 = .ok (.istore 4, 2) := by decide +kernel
theorem dX4_put_29 : decode cX4_put 29 = .ok (.iload 4, 2) := by decide +kernel
theorem dX4_put_31 : decode cX4_put 31 = .ok (.iload_n 3, 1) := by decide +kernel
theorem dX4_put_32 : decode cX4_put 32 = .ok (.if_icmp .ge 37, 3) := by decide +kernel
theorem dX4_put_35 : decode cX4_put 35 = .ok (.aload_n 0, 1) := by decide +kernel
theorem dX4_put_36 : decode cX4_put 36 = .ok (.getfield 28, 3) := by decide +kernel
theorem dX4_put_39 : decode cX4_put 39 = .ok (.aload_n 0, 1) := by decide +kernel
theorem dX4_put_40 : decode cX4_put 40 = .ok (.getfield 126, 3) := by decide +kernel
theorem dX4_put_43 : decode cX4_put 43 = .ok (.iload 4, 2) := by decide +kernel
theorem dX4_put_45 : decode cX4_put 45 = .ok (.iadd, 1) := by decide +kernel
theorem dX4_put_46 : decode cX4_put 46 = .ok (.lload_n 1, 1) := by decide +kernel
theorem dX4_put_47 : decode cX4_put 47 = .ok (.bipush 8, 2) := by decide +kernel
theorem dX4_put_49 : decode cX4_put 49 = .ok (.iload_n 3, 1) := by decide +kernel
theorem dX4_put_50 : decode cX4_put 50 = .ok (.iconst 1, 1) := by decide +kernel
theorem dX4_put_51 : decode cX4_put 51 = .ok (.isub, 1) := by decide +kernel
theorem dX4_put_52 : decode cX4_put 52 = .ok (.iload 4, 2) := by decide +kernel
theorem dX4_put_54 : decode cX4_put 54 = .ok (.isub, 1) := by decide +kernel
theorem dX4_put_55 : decode cX4_put 55 = .ok (.imul, 1) := by decide +kernel
theorem dX4_put_56 : decode cX4_put 56 = .ok (.lushr, 1) := by decide +kernel
theorem dX4_put_57 : decode cX4_put 57 = .ok (.ldc2_w 143, 3) := by decide +kernel
theorem dX4_put_60 : decode cX4_put 60 = .ok (.land, 1) := by decide +kernel
theorem dX4_put_61 : decode cX4_put 61 = .ok (.l2i, 1) := by decide +kernel
theorem dX4_put_62 : decode cX4_put 62 = .ok (.iastore, 1) := by decide +kernel
theorem dX4_put_63 : decode cX4_put 63 = .ok (.iinc 4 1, 3) := by decide +kernel
theorem dX4_put_66 : decode cX4_put 66 = .ok (.goto (-37), 3) := by decide +kernel
theorem dX4_put_69 : decode cX4_put 69 = .ok (.aload_n 0, 1) := by decide +kernel
theorem dX4_put_70 : decode cX4_put 70 = .ok (.dup, 1) := by decide +kernel
theorem dX4_put_71 : decode cX4_put 71 = .ok (.getfield 126, 3) := by decide +kernel
theorem dX4_put_74 : decode cX4_put 74 = .ok (.iload_n 3, 1) := by decide +kernel
theorem dX4_put_75 : decode cX4_put 75 = .ok (.iadd, 1) := by decide +kernel
theorem dX4_put_76 : decode cX4_put 76 = .ok (.putfield 126, 3) := by decide +kernel
theorem dX4_put_79 : decode cX4_put 79 = .ok (.aload_n 0, 1) := by decide +kernel
theorem dX4_put_80 : decode cX4_put 80 = .ok (.getfield 126, 3) := by decide +kernel
theorem dX4_put_83 : decode cX4_put 83 = .ok (.ireturn, 1) := by decide +kernel
theorem dX4_wipe_0 : decode cX4_wipe 0 = .ok (.aload_n 0, 1) := by decide +kernel
theorem dX4_wipe_1 : decode cX4_wipe 1 = .ok (.getfield 126, 3) := by decide +kernel
theorem dX4_wipe_4 : decode cX4_wipe 4 = .ok (.istore_n 1, 1) := by decide +kernel
theorem dX4_wipe_5 : decode cX4_wipe 5 = .ok (.aload_n 0, 1) := by decide +kernel
theorem dX4_wipe_6 : decode cX4_wipe 6 = .ok (.iconst 0, 1) := by decide +kernel
theorem dX4_wipe_7 : decode cX4_wipe 7 = .ok (.putfield 126, 3) := by decide +kernel
theorem dX4_wipe_10 : decode cX4_wipe 10 = .ok (.iload_n 1, 1) := by decide +kernel
theorem dX4_wipe_11 : decode cX4_wipe 11 = .ok (.ireturn, 1) := by decide +kernel
set_option maxRecDepth 20000 in
theorem ggX4_isHere_X4_in : GoodIn wsX4_isHere wsX4_in := goodIn_r _ [7] (by decide +kernel) (by decide +kernel)
set_option maxRecDepth 20000 in
theorem gX4_isHere_X4_in : GoodIn wsX4_isHere (va_wsS RX4 44 yX4_in wsX4_in) := goodIn_app (goodIn_of _ (by decide +kernel)) ggX4_isHere_X4_in
theorem dX4_isHere_0 : decode cX4_isHere 0 = .ok (.aload_n 0, 1) := by decide +kernel
theorem dX4_isHere_1 : decode cX4_isHere 1 = .ok (.getfield 153, 3) := by decide +kernel
theorem dX4_isHere_4 : decode cX4_isHere 4 = .ok (.aload_n 0, 1) := by decide +kernel
theorem dX4_isHere_5 : decode cX4_isHere 5 = .ok (.getfield 126, 3) := by decide +kernel
theorem dX4_isHere_8 : decode cX4_isHere 8 = .ok (.if_icmp .ge 27, 3) := by decide +kernel
theorem dX4_isHere_11 : decode cX4_isHere 11 = .ok (.aload_n 0, 1) := by decide +kernel
theorem dX4_isHere_12 : decode cX4_isHere 12 = .ok (.getfield 28, 3) := by decide +kernel
theorem dX4_isHere_15 : decode cX4_isHere 15 = .ok (.aload_n 0, 1) := by decide +kernel
theorem dX4_isHere_16 : decode cX4_isHere 16 = .ok (.getfield 153, 3) := by decide +kernel
theorem dX4_isHere_19 : decode cX4_isHere 19 = .ok (.iaload, 1) := by decide +kernel
theorem dX4_isHere_20 : decode cX4_isHere 20 = .ok (.i2l, 1) := by decide +kernel
theorem dX4_isHere_21 : decode cX4_isHere 21 = .ok (.iload_n 1, 1) := by decide +kernel
theorem dX4_isHere_22 : decode cX4_isHere 22 = .ok (.i2l, 1) := by decide +kernel
theorem dX4_isHere_23 : decode cX4_isHere 23 = .ok (.iload_n 2, 1) := by decide +kernel
theorem dX4_isHere_24 : decode cX4_isHere 24 = .ok (.i2l, 1) := by decide +kernel
theorem dX4_isHere_25 : decode cX4_isHere 25 = .ok (.invokestatic 44, 3) := by decide +kernel
theorem dX4_isHere_28 : decode cX4_isHere 28 = .ok (.ifCond .eq 7, 3) := by decide +kernel
theorem dX4_isHere_31 : decode cX4_isHere 31 = .ok (.iconst 1, 1) := by decide +kernel
theorem dX4_isHere_32 : decode cX4_isHere 32 = .ok (.goto 4, 3) := by decide +kernel
theorem dX4_isHere_35 : decode cX4_isHere 35 = .ok (.iconst 0, 1) := by decide +kernel
theorem dX4_isHere_36 : decode cX4_isHere 36 = .ok (.ireturn, 1) := by decide +kernel
set_option maxRecDepth 20000 in
theorem ggX4_takesOne_X4_isHere : GoodIn wsX4_takesOne wsX4_isHere := goodIn_r _ [6, 1, 7, 8, 9, 10, 5, 11, 12, 13, 14, 15, 16, 17, 18, 19, 20, 21, 22, 23, 24] (by decide +kernel) (by decide +kernel)
set_option maxRecDepth 20000 in
theorem gX4_takesOne_X4_isHere : GoodIn wsX4_takesOne (wsV RX4 156 RX4 yX4_isHere wsX4_isHere) := goodIn_app (goodIn_of _ (by decide +kernel)) ggX4_takesOne_X4_isHere
theorem dX4_takesOne_0 : decode cX4_takesOne 0 = .ok (.aload_n 0, 1) := by decide +kernel
theorem dX4_takesOne_1 : decode cX4_takesOne 1 = .ok (.iload_n 1, 1) := by decide +kernel
theorem dX4_takesOne_2 : decode cX4_takesOne 2 = .ok (.iload_n 1, 1) := by decide +kernel
theorem dX4_takesOne_3 : decode cX4_takesOne 3 = .ok (.invokevirtual 156, 3) := by decide +kernel
theorem dX4_takesOne_6 : decode cX4_takesOne 6 = .ok (.istore_n 2, 1) := by decide +kernel
theorem dX4_takesOne_7 : decode cX4_takesOne 7 = .ok (.aload_n 0, 1) := by decide +kernel
theorem dX4_takesOne_8 : decode cX4_takesOne 8 = .ok (.dup, 1) := by decide +kernel
theorem dX4_takesOne_9 : decode cX4_takesOne 9 = .ok (.getfield 153, 3) := by decide +kernel
theorem dX4_takesOne_12 : decode cX4_takesOne 12 = .ok (.iload_n 2, 1) := by decide +kernel
theorem dX4_takesOne_13 : decode cX4_takesOne 13 = .ok (.ifCond .eq 7, 3) := by decide +kernel
theorem dX4_takesOne_16 : decode cX4_takesOne 16 = .ok (.iconst 1, 1) := by decide +kernel
theorem dX4_takesOne_17 : decode cX4_takesOne 17 = .ok (.goto 4, 3) := by decide +kernel
theorem dX4_takesOne_20 : decode cX4_takesOne 20 = .ok (.iconst 0, 1) := by decide +kernel
theorem dX4_takesOne_21 : decode cX4_takesOne 21 = .ok (.iadd, 1) := by decide +kernel
theorem dX4_takesOne_22 : decode cX4_takesOne 22 = .ok (.putfield 153, 3) := by decide +kernel
theorem dX4_takesOne_25 : decode cX4_takesOne 25 = .ok (.iload_n 2, 1) := by decide +kernel
theorem dX4_takesOne_26 : decode cX4_takesOne 26 = .ok (.ireturn, 1) := by decide +kernel
set_option maxRecDepth 20000 in
theorem ggX4_number_X4_isHere : GoodIn wsX4_number wsX4_isHere := goodIn_r _ [7, 2, 8, 1, 9, 10, 6, 11, 12, 13, 14, 15, 16, 17, 18, 19, 20, 21, 22, 23, 24] (by decide +kernel) (by decide +kernel)
set_option maxRecDepth 20000 in
theorem gX4_number_X4_isHere : GoodIn wsX4_number (wsV RX4 156 RX4 yX4_isHere wsX4_isHere) := goodIn_app (goodIn_of _ (by decide +kernel)) ggX4_number_X4_isHere
theorem dX4_number_0 : decode cX4_number 0 = .ok (.aload_n 0, 1) := by decide +kernel
theorem dX4_number_1 : decode cX4_number 1 = .ok (.bipush 48, 2) := by decide +kernel
theorem dX4_number_3 : decode cX4_number 3 = .ok (.bipush 57, 2) := by decide +kernel
theorem dX4_number_5 : decode cX4_number 5 = .ok (.invokevirtual 156, 3) := by decide +kernel
theorem dX4_number_8 : decode cX4_number 8 = .ok (.ifCond .ne 5, 3) := by decide +kernel
theorem dX4_number_11 : decode cX4_number 11 = .ok (.iconst (-1), 1) := by decide +kernel
theorem dX4_number_12 : decode cX4_number 12 = .ok (.ireturn, 1) := by decide +kernel
theorem dX4_number_13 : decode cX4_number 13 = .ok (.aload_n 0, 1) := by decide +kernel
theorem dX4_number_14 : decode cX4_number 14 = .ok (.getfield 28, 3) := by decide +kernel
theorem dX4_number_17 : decode cX4_number 17 = .ok (.aload_n 0, 1) := by decide +kernel
theorem dX4_number_18 : decode cX4_number 18 = .ok (.getfield 153, 3) := by decide +kernel
theorem dX4_number_21 : decode cX4_number 21 = .ok (.iaload, 1) := by decide +kernel
theorem dX4_number_22 : decode cX4_number 22 = .ok (.bipush 48, 2) := by decide +kernel
theorem dX4_number_24 : decode cX4_number 24 = .ok (.isub, 1) := by decide +kernel
theorem dX4_number_25 : decode cX4_number 25 = .ok (.istore_n 1, 1) := by decide +kernel
theorem dX4_number_26 : decode cX4_number 26 = .ok (.aload_n 0, 1) := by decide +kernel
theorem dX4_number_27 : decode cX4_number 27 = .ok (.dup, 1) := by decide +kernel
theorem dX4_number_28 : decode cX4_number 28 = .ok (.getfield 153, 3) := by decide +kernel
theorem dX4_number_31 : decode cX4_number 31 = .ok (.iconst 1, 1) := by decide +kernel
theorem dX4_number_32 : decode cX4_number 32 = .ok (.iadd, 1) := by decide +kernel
theorem dX4_number_33 : decode cX4_number 33 = .ok (.putfield 153, 3) := by decide +kernel
theorem dX4_number_36 : decode cX4_number 36 = .ok (.iload_n 1, 1) := by decide +kernel
theorem dX4_number_37 : decode cX4_number 37 = .ok (.ifCond .le 51, 3) := by decide +kernel
theorem dX4_number_40 : decode cX4_number 40 = .ok (.iload_n 1, 1) := by decide +kernel
theorem dX4_number_41 : decode cX4_number 41 = .ok (.bipush 100, 2) := by decide +kernel
theorem dX4_number_43 : decode cX4_number 43 = .ok (.if_icmp .ge 45, 3) := by decide +kernel
theorem dX4_number_46 : decode cX4_number 46 = .ok (.aload_n 0, 1) := by decide +kernel
theorem dX4_number_47 : decode cX4_number 47 = .ok (.bipush 48, 2) := by decide +kernel
theorem dX4_number_49 : decode cX4_number 49 = .ok (.bipush 57, 2) := by decide +kernel
theorem dX4_number_51 : decode cX4_number 51 = .ok (.invokevirtual 156, 3) := by decide +kernel
theorem dX4_number_54 : decode cX4_number 54 = .ok (.ifCond .eq 34, 3) := by decide +kernel
theorem dX4_number_57 : decode cX4_number 57 = .ok (.bipush 10, 2) := by decide +kernel
theorem dX4_number_59 : decode cX4_number 59 = .ok (.iload_n 1, 1) := by decide +kernel
theorem dX4_number_60 : decode cX4_number 60 = .ok (.imul, 1) := by decide +kernel
theorem dX4_number_61 : decode cX4_number 61 = .ok (.aload_n 0, 1) := by decide +kernel
theorem dX4_number_62 : decode cX4_number 62 = .ok (.getfield 28, 3) := by decide +kernel
theorem dX4_number_65 : decode cX4_number 65 = .ok (.aload_n 0, 1) := by decide +kernel
theorem dX4_number_66 : decode cX4_number 66 = .ok (.getfield 153, 3) := by decide +kernel
theorem dX4_number_69 : decode cX4_number 69 = .ok (.iaload, 1) := by decide +kernel
theorem dX4_number_70 : decode cX4_number 70 = .ok (.iadd, 1) := by decide +kernel
theorem dX4_number_71 : decode cX4_number 71 = .ok (.bipush 48, 2) := by decide +kernel
theorem dX4_number_73 : decode cX4_number 73 = .ok (.isub, 1) := by decide +kernel
theorem dX4_number_74 : decode cX4_number 74 = .ok (.istore_n 1, 1) := by decide +kernel
theorem dX4_number_75 : decode cX4_number 75 = .ok (.aload_n 0, 1) := by decide +kernel
theorem dX4_number_76 : decode cX4_number 76 = .ok (.dup, 1) := by decide +kernel
theorem dX4_number_77 : decode cX4_number 77 = .ok (.getfield 153, 3) := by decide +kernel
theorem dX4_number_80 : decode cX4_number 80 = .ok (.iconst 1, 1) := by decide +kernel
theorem dX4_number_81 : decode cX4_number 81 = .ok (.iadd, 1) := by decide +kernel
theorem dX4_number_82 : decode cX4_number 82 = .ok (.putfield 153, 3) := by decide +kernel
theorem dX4_number_85 : decode cX4_number 85 = .ok (.goto (-49), 3) := by decide +kernel
theorem dX4_number_88 : decode cX4_number 88 = .ok (.iload_n 1, 1) := by decide +kernel
theorem dX4_number_89 : decode cX4_number 89 = .ok (.ireturn, 1) := by decide +kernel
set_option maxRecDepth 20000 in
theorem ggX4_readsCall_X4_number : GoodIn wsX4_readsCall wsX4_number := goodIn_r _ [10, 11, 12, 13, 14, 15, 9, 16, 17, 18, 19, 20, 25, 26, 27, 28, 29, 30, 31, 32, 33, 34, 35, 36, 37] (by decide +kernel) (by decide +kernel)
set_option maxRecDepth 20000 in
theorem gX4_readsCall_X4_number : GoodIn wsX4_readsCall (wsV RX4 159 RX4 yX4_number wsX4_number) := goodIn_app (goodIn_of _ (by decide +kernel)) ggX4_readsCall_X4_number
set_option maxRecDepth 20000 in
theorem ggX4_readsCall_X4_in : GoodIn wsX4_readsCall wsX4_in := goodIn_r _ [20] (by decide +kernel) (by decide +kernel)
set_option maxRecDepth 20000 in
theorem gX4_readsCall_X4_in : GoodIn wsX4_readsCall (va_wsS RX4 44 yX4_in wsX4_in) := goodIn_app (goodIn_of _ (by decide +kernel)) ggX4_readsCall_X4_in
set_option maxRecDepth 20000 in
theorem ggX4_readsCall_X4_takesOne : GoodIn wsX4_readsCall wsX4_takesOne := goodIn_r _ [24, 12, 13, 14, 15, 9, 16, 17, 11, 18, 19, 20, 25, 26, 27, 28, 29, 30, 31, 32, 33, 34, 35, 36, 37] (by decide +kernel) (by decide +kernel)
set_option maxRecDepth 20000 in
theorem gX4_readsCall_X4_takesOne : GoodIn wsX4_readsCall (wsV RX4 165 RX4 yX4_takesOne wsX4_takesOne) := goodIn_app (goodIn_of _ (by decide +kernel)) ggX4_readsCall_X4_takesOne
theorem dX4_readsCall_0 : decode cX4_readsCall 0 = .ok (.aload_n 0, 1) := by decide +kernel
theorem dX4_readsCall_1 : decode cX4_readsCall 1 = .ok (.invokevirtual 159, 3) := by decide +kernel
theorem dX4_readsCall_4 : decode cX4_readsCall 4 = .ok (.istore_n 1, 1) := by decide +kernel
theorem dX4_readsCall_5 : decode cX4_readsCall 5 = .ok (.aload_n 0, 1) := by decide +kernel
theorem dX4_readsCall_6 : decode cX4_readsCall 6 = .ok (.getfield 31, 3) := by decide +kernel
theorem dX4_readsCall_9 : decode cX4_readsCall 9 = .ok (.aload_n 0, 1) := by decide +kernel
theorem dX4_readsCall_10 : decode cX4_readsCall 10 = .ok (.getfield 162, 3) := by decide +kernel
theorem dX4_readsCall_13 : decode cX4_readsCall 13 = .ok (.iconst 1, 1) := by decide +kernel
theorem dX4_readsCall_14 : decode cX4_readsCall 14 = .ok (.iastore, 1) := by decide +kernel
theorem dX4_readsCall_15 : decode cX4_readsCall 15 = .ok (.iload_n 1, 1) := by decide +kernel
theorem dX4_readsCall_16 : decode cX4_readsCall 16 = .ok (.i2l, 1) := by decide +kernel
theorem dX4_readsCall_17 : decode cX4_readsCall 17 = .ok (.ldc2_w 82, 3) := by decide +kernel
theorem dX4_readsCall_20 : decode cX4_readsCall 20 = .ok (.ldc2_w 86, 3) := by decide +kernel
theorem dX4_readsCall_23 : decode cX4_readsCall 23 = .ok (.invokestatic 44, 3) := by decide +kernel
theorem dX4_readsCall_26 : decode cX4_readsCall 26 = .ok (.ifCond .eq 27, 3) := by decide +kernel
theorem dX4_readsCall_29 : decode cX4_readsCall 29 = .ok (.aload_n 0, 1) := by decide +kernel
theorem dX4_readsCall_30 : decode cX4_readsCall 30 = .ok (.bipush 42, 2) := by decide +kernel
theorem dX4_readsCall_32 : decode cX4_readsCall 32 = .ok (.invokevirtual 165, 3) := by decide +kernel
theorem dX4_readsCall_35 : decode cX4_readsCall 35 = .ok (.ifCond .eq 18, 3) := by decide +kernel
theorem dX4_readsCall_38 : decode cX4_readsCall 38 = .ok (.aload_n 0, 1) := by decide +kernel
theorem dX4_readsCall_39 : decode cX4_readsCall 39 = .ok (.getfield 31, 3) := by decide +kernel
theorem dX4_readsCall_42 : decode cX4_readsCall 42 = .ok (.aload_n 0, 1) := by decide +kernel
theorem dX4_readsCall_43 : decode cX4_readsCall 43 = .ok (.getfield 162, 3) := by decide +kernel
theorem dX4_readsCall_46 : decode cX4_readsCall 46 = .ok (.iload_n 1, 1) := by decide +kernel
theorem dX4_readsCall_47 : decode cX4_readsCall 47 = .ok (.iastore, 1) := by decide +kernel
theorem dX4_readsCall_48 : decode cX4_readsCall 48 = .ok (.aload_n 0, 1) := by decide +kernel
theorem dX4_readsCall_49 : decode cX4_readsCall 49 = .ok (.invokevirtual 159, 3) := by decide +kernel
theorem dX4_readsCall_52 : decode cX4_readsCall 52 = .ok (.istore_n 1, 1) := by decide +kernel
theorem dX4_readsCall_53 : decode cX4_readsCall 53 = .ok (.aload_n 0, 1) := by decide +kernel
theorem dX4_readsCall_54 : decode cX4_readsCall 54 = .ok (.getfield 34, 3) := by decide +kernel
theorem dX4_readsCall_57 : decode cX4_readsCall 57 = .ok (.aload_n 0, 1) := by decide +kernel
theorem dX4_readsCall_58 : decode cX4_readsCall 58 = .ok (.getfield 162, 3) := by decide +kernel
theorem dX4_readsCall_61 : decode cX4_readsCall 61 = .ok (.iload_n 1, 1) := by decide +kernel
theorem dX4_readsCall_62 : decode cX4_readsCall 62 = .ok (.iastore, 1) := by decide +kernel
theorem dX4_readsCall_63 : decode cX4_readsCall 63 = .ok (.aload_n 0, 1) := by decide +kernel
theorem dX4_readsCall_64 : decode cX4_readsCall 64 = .ok (.dup, 1) := by decide +kernel
theorem dX4_readsCall_65 : decode cX4_readsCall 65 = .ok (.getfield 162, 3) := by decide +kernel
theorem dX4_readsCall_68 : decode cX4_readsCall 68 = .ok (.iconst 1, 1) := by decide +kernel
theorem dX4_readsCall_69 : decode cX4_readsCall 69 = .ok (.iadd, 1) := by decide +kernel
theorem dX4_readsCall_70 : decode cX4_readsCall 70 = .ok (.putfield 162, 3) := by decide +kernel
theorem dX4_readsCall_73 : decode cX4_readsCall 73 = .ok (.iload_n 1, 1) := by decide +kernel
theorem dX4_readsCall_74 : decode cX4_readsCall 74 = .ok (.ifCond .lt 7, 3) := by decide +kernel
theorem dX4_readsCall_77 : decode cX4_readsCall 77 = .ok (.iconst 1, 1) := by decide +kernel
theorem dX4_readsCall_78 : decode cX4_readsCall 78 = .ok (.goto 4, 3) := by decide +kernel
theorem dX4_readsCall_81 : decode cX4_readsCall 81 = .ok (.iconst 0, 1) := by decide +kernel
theorem dX4_readsCall_82 : decode cX4_readsCall 82 = .ok (.ireturn, 1) := by decide +kernel
set_option maxRecDepth 20000 in
theorem ggX4_fault_X4_readsCall : GoodIn wsX4_fault wsX4_readsCall := goodIn_r _ [9, 10, 2, 11, 12, 13, 14, 15, 16, 8, 17, 18, 1, 19, 20, 21, 22, 3, 23, 24, 25, 26, 27, 28, 29, 30, 31, 32, 33, 34, 35, 36, 37, 38, 39, 40, 41, 42] (by decide +kernel) (by decide +kernel)
set_option maxRecDepth 20000 in
theorem gX4_fault_X4_readsCall : GoodIn wsX4_fault (wsV RX4 168 RX4 yX4_readsCall wsX4_readsCall) := goodIn_app (goodIn_of _ (by decide +kernel)) ggX4_fault_X4_readsCall
set_option maxRecDepth 20000 in
theorem ggX4_fault_X4_takesOne : GoodIn wsX4_fault wsX4_takesOne := goodIn_r _ [29, 1, 19, 20, 21, 8, 22, 3, 18, 23, 24, 25, 30, 31, 32, 33, 34, 35, 36, 37, 38, 39, 40, 41, 42] (by decide +kernel) (by decide +kernel)
set_option maxRecDepth 20000 in
theorem gX4_fault_X4_takesOne : GoodIn wsX4_fault (wsV RX4 165 RX4 yX4_takesOne wsX4_takesOne) := goodIn_app (goodIn_of _ (by decide +kernel)) ggX4_fault_X4_takesOne
theorem dX4_fault_0 : decode cX4_fault 0 = .ok (.aload_n 0, 1) := by decide +kernel
theorem dX4_fault_1 : decode cX4_fault 1 = .ok (.iconst 0, 1) := by decide +kernel
theorem dX4_fault_2 : decode cX4_fault 2 = .ok (.putfield 153, 3) := by decide +kernel
theorem dX4_fault_5 : decode cX4_fault 5 = .ok (.aload_n 0, 1) := by decide +kernel
theorem dX4_fault_6 : decode cX4_fault 6 = .ok (.iconst 0, 1) := by decide +kernel
theorem dX4_fault_7 : decode cX4_fault 7 = .ok (.putfield 162, 3) := by decide +kernel
theorem dX4_fault_10 : decode cX4_fault 10 = .ok (.iconst 1, 1) := by decide +kernel
theorem dX4_fault_11 : decode cX4_fault 11 = .ok (.istore_n 1, 1) := by decide +kernel
theorem dX4_fault_12 : decode cX4_fault 12 = .ok (.iload_n 1, 1) := by decide +kernel
theorem dX4_fault_13 : decode cX4_fault 13 = .ok (.ifCond .eq 25, 3) := by decide +kernel
theorem dX4_fault_16 : decode cX4_fault 16 = .ok (.aload_n 0, 1) := by decide +kernel
theorem dX4_fault_17 : decode cX4_fault 17 = .ok (.invokevirtual 168, 3) := by decide +kernel
theorem dX4_fault_20 : decode cX4_fault 20 = .ok (.ifCond .ne 8, 3) := by decide +kernel
theorem dX4_fault_23 : decode cX4_fault 23 = .ok (.aload_n 0, 1) := by decide +kernel
theorem dX4_fault_24 : decode cX4_fault 24 = .ok (.getfield 153, 3) := by decide +kernel
theorem dX4_fault_27 : decode cX4_fault 27 = .ok (.ireturn, 1) := by decide +kernel
theorem dX4_fault_28 : decode cX4_fault 28 = .ok (.aload_n 0, 1) := by decide +kernel
theorem dX4_fault_29 : decode cX4_fault 29 = .ok (.bipush 44, 2) := by decide +kernel
theorem dX4_fault_31 : decode cX4_fault 31 = .ok (.invokevirtual 165, 3) := by decide +kernel
theorem dX4_fault_34 : decode cX4_fault 34 = .ok (.istore_n 1, 1) := by decide +kernel
theorem dX4_fault_35 : decode cX4_fault 35 = .ok (.goto (-23), 3) := by decide +kernel
theorem dX4_fault_38 : decode cX4_fault 38 = .ok (.aload_n 0, 1) := by decide +kernel
theorem dX4_fault_39 : decode cX4_fault 39 = .ok (.getfield 153, 3) := by decide +kernel
theorem dX4_fault_42 : decode cX4_fault 42 = .ok (.aload_n 0, 1) := by decide +kernel
theorem dX4_fault_43 : decode cX4_fault 43 = .ok (.getfield 126, 3) := by decide +kernel
theorem dX4_fault_46 : decode cX4_fault 46 = .ok (.if_icmp .ne 8, 3) := by decide +kernel
theorem dX4_fault_49 : decode cX4_fault 49 = .ok (.ldc 37, 2) := by decide +kernel
theorem dX4_fault_51 : decode cX4_fault 51 = .ok (.goto 7, 3) := by decide +kernel
theorem dX4_fault_54 : decode cX4_fault 54 = .ok (.aload_n 0, 1) := by decide +kernel
theorem dX4_fault_55 : decode cX4_fault 55 = .ok (.getfield 153, 3) := by decide +kernel
theorem dX4_fault_58 : decode cX4_fault 58 = .ok (.ireturn, 1) := by decide +kernel
set_option maxRecDepth 20000 in
theorem ggX4_read_X4_fault : GoodIn wsX4_read wsX4_fault := goodIn_r _ [13, 14, 3, 8, 1, 15, 16, 17, 12, 18, 4, 19, 20, 7, 21, 22, 23, 24, 25, 26, 27, 28, 29, 30, 31, 32, 33, 34, 35, 36, 78, 79, 80, 81, 82, 83, 84, 85, 86, 87, 88, 89, 90] (by decide +kernel) (by decide +kernel)
set_option maxRecDepth 20000 in
theorem gX4_read_X4_fault : GoodIn wsX4_read (wsV RX4 172 RX4 yX4_fault wsX4_fault) := goodIn_app (goodIn_of _ (by decide +kernel)) ggX4_read_X4_fault
set_option maxRecDepth 20000 in
theorem ggX4_read_X4_changes : GoodIn wsX4_read wsX4_changes := goodIn_r _ [40, 41, 42, 5, 78, 79, 80, 81, 82, 83, 84, 85, 86, 87, 88, 89, 90] (by decide +kernel) (by decide +kernel)
set_option maxRecDepth 20000 in
theorem gX4_read_X4_changes : GoodIn wsX4_read (wsV RX4 92 RX4 yX4_changes wsX4_changes) := goodIn_app (goodIn_of _ (by decide +kernel)) ggX4_read_X4_changes
set_option maxRecDepth 20000 in
theorem ggX4_read_X4_round : GoodIn wsX4_read wsX4_round := goodIn_r _ [46, 47, 5, 48, 49, 50, 12, 51, 52, 53, 54, 55, 56, 57, 58, 59, 60, 61, 62, 63, 64, 65, 66, 67, 68, 69, 70, 71, 72, 73, 74, 75, 76, 77, 78, 79, 80, 81, 82, 83, 84, 85, 86, 87, 88, 89, 90] (by decide +kernel) (by decide +kernel)
set_option maxRecDepth 20000 in
theorem gX4_read_X4_round : GoodIn wsX4_read (wsV RX4 108 RX4 yX4_round wsX4_round) := goodIn_app (goodIn_of _ (by decide +kernel)) ggX4_read_X4_round
theorem dX4_read_0 : decode cX4_read 0 = .ok (.aload_n 0, 1) := by decide +kernel
theorem dX4_read_1 : decode cX4_read 1 = .ok (.invokevirtual 172, 3) := by decide +kernel
theorem dX4_read_4 : decode cX4_read 4 = .ok (.ldc 37, 2) := by decide +kernel
theorem dX4_read_6 : decode cX4_read 6 = .ok (.if_icmp .eq 6, 3) := by decide +kernel
theorem dX4_read_9 : decode cX4_read 9 = .ok (.ldc 175, 2) := by decide +kernel
theorem dX4_read_11 : decode cX4_read 11 = .ok (.ireturn, 1) := by decide +kernel
theorem dX4_read_12 : decode cX4_read 12 = .ok (.iconst 0, 1) := by decide +kernel
theorem dX4_read_13 : decode cX4_read 13 = .ok (.istore_n 1, 1) := by decide +kernel
theorem dX4_read_14 : decode cX4_read 14 = .ok (.iconst 0, 1) := by decide +kernel
theorem dX4_read_15 : decode cX4_read 15 = .ok (.istore_n 2, 1) := by decide +kernel
theorem dX4_read_16 : decode cX4_read 16 = .ok (.iload_n 2, 1) := by decide +kernel
theorem dX4_read_17 : decode cX4_read 17 = .ok (.aload_n 0, 1) := by decide +kernel
theorem dX4_read_18 : decode cX4_read 18 = .ok (.getfield 162, 3) := by decide +kernel
theorem dX4_read_21 : decode cX4_read 21 = .ok (.if_icmp .ge 18, 3) := by decide +kernel
theorem dX4_read_24 : decode cX4_read 24 = .ok (.iload_n 1, 1) := by decide +kernel
theorem dX4_read_25 : decode cX4_read 25 = .ok (.aload_n 0, 1) := by decide +kernel
theorem dX4_read_26 : decode cX4_read 26 = .ok (.getfield 31, 3) := by decide +kernel
theorem dX4_read_29 : decode cX4_read 29 = .ok (.iload_n 2, 1) := by decide +kernel
theorem dX4_read_30 : decode cX4_read 30 = .ok (.iaload, 1) := by decide +kernel
theorem dX4_read_31 : decode cX4_read 31 = .ok (.iadd, 1) := by decide +kernel
theorem dX4_read_32 : decode cX4_read 32 = .ok (.istore_n 1, 1) := by decide +kernel
theorem dX4_read_33 : decode cX4_read 33 = .ok (.iinc 2 1, 3) := by decide +kernel
theorem dX4_read_36 : decode cX4_read 36 = .ok (.goto (-20), 3) := by decide +kernel
theorem dX4_read_39 : decode cX4_read 39 = .ok (.aload_n 0, 1) := by decide +kernel
theorem dX4_read_40 : decode cX4_read 40 = .ok (.getfield 7, 3) := by decide +kernel
theorem dX4_read_43 : decode cX4_read 43 = .ok (.iconst 3, 1) := by decide +kernel
theorem dX4_read_44 : decode cX4_read 44 = .ok (.iaload, 1) := by decide +kernel
theorem dX4_read_45 : decode cX4_read 45 = .ok (.iload_n 1, 1) := by decide +kernel
theorem dX4_read_46 : decode cX4_read 46 = .ok (.iadd, 1) := by decide +kernel
theorem dX4_read_47 : decode cX4_read 47 = .ok (.sipush 9999, 3) := by decide +kernel
theorem dX4_read_50 : decode cX4_read 50 = .ok (.if_icmp .le 6, 3) := by decide +kernel
theorem dX4_read_53 : decode cX4_read 53 = .ok (.ldc 107, 2) := by decide +kernel
theorem dX4_read_55 : decode cX4_read 55 = .ok (.ireturn, 1) := by decide +kernel
theorem dX4_read_56 : decode cX4_read 56 = .ok (.aload_n 0, 1) := by decide +kernel
theorem dX4_read_57 : decode cX4_read 57 = .ok (.invokevirtual 92, 3) := by decide +kernel
theorem dX4_read_60 : decode cX4_read 60 = .ok (.iconst 0, 1) := by decide +kernel
theorem dX4_read_61 : decode cX4_read 61 = .ok (.istore_n 2, 1) := by decide +kernel
theorem dX4_read_62 : decode cX4_read 62 = .ok (.iconst 0, 1) := by decide +kernel
theorem dX4_read_63 : decode cX4_read 63 = .ok (.istore_n 3, 1) := by decide +kernel
theorem dX4_read_64 : decode cX4_read 64 = .ok (.iload_n 3, 1) := by decide +kernel
theorem dX4_read_65 : decode cX4_read 65 = .ok (.aload_n 0, 1) := by decide +kernel
theorem dX4_read_66 : decode cX4_read 66 = .ok (.getfield 162, 3) := by decide +kernel
theorem dX4_read_69 : decode cX4_read 69 = .ok (.if_icmp .ge 42, 3) := by decide +kernel
theorem dX4_read_72 : decode cX4_read 72 = .ok (.iconst 0, 1) := by decide +kernel
theorem dX4_read_73 : decode cX4_read 73 = .ok (.istore 4, 2) := by decide +kernel
theorem dX4_read_75 : decode cX4_read 75 = .ok (.iload 4, 2) := by decide +kernel
theorem dX4_read_77 : decode cX4_read 77 = .ok (.aload_n 0, 1) := by decide +kernel
theorem dX4_read_78 : decode cX4_read 78 = .ok (.getfield 31, 3) := by decide +kernel
theorem dX4_read_81 : decode cX4_read 81 = .ok (.iload_n 3, 1) := by decide +kernel
theorem dX4_read_82 : decode cX4_read 82 = .ok (.iaload, 1) := by decide +kernel
theorem dX4_read_83 : decode cX4_read 83 = .ok (.if_icmp .ge 22, 3) := by decide +kernel
theorem dX4_read_86 : decode cX4_read 86 = .ok (.iload_n 2, 1) := by decide +kernel
theorem dX4_read_87 : decode cX4_read 87 = .ok (.aload_n 0, 1) := by decide +kernel
theorem dX4_read_88 : decode cX4_read 88 = .ok (.aload_n 0, 1) := by decide +kernel
theorem dX4_read_89 : decode cX4_read 89 = .ok (.getfield 34, 3) := by decide +kernel
theorem dX4_read_92 : decode cX4_read 92 = .ok (.iload_n 3, 1) := by decide +kernel
theorem dX4_read_93 : decode cX4_read 93 = .ok (.iaload, 1) := by decide +kernel
theorem dX4_read_94 : decode cX4_read 94 = .ok (.invokevirtual 108, 3) := by decide +kernel
theorem dX4_read_97 : decode cX4_read 97 = .ok (.iadd, 1) := by decide +kernel
theorem dX4_read_98 : decode cX4_read 98 = .ok (.istore_n 2, 1) := by decide +kernel
theorem dX4_read_99 : decode cX4_read 99 = .ok (.iinc 4 1, 3) := by decide +kernel
theorem dX4_read_102 : decode cX4_read 102 = .ok (.goto (-27), 3) := by decide +kernel
theorem dX4_read_105 : decode cX4_read 105 = .ok (.iinc 3 1, 3) := by decide +kernel
theorem dX4_read_108 : decode cX4_read 108 = .ok (.goto (-44), 3) := by decide +kernel
theorem dX4_read_111 : decode cX4_read 111 = .ok (.aload_n 0, 1) := by decide +kernel
theorem dX4_read_112 : decode cX4_read 112 = .ok (.iconst 0, 1) := by decide +kernel
theorem dX4_read_113 : decode cX4_read 113 = .ok (.putfield 126, 3) := by decide +kernel
theorem dX4_read_116 : decode cX4_read 116 = .ok (.iload_n 2, 1) := by decide +kernel
theorem dX4_read_117 : decode cX4_read 117 = .ok (.ireturn, 1) := by decide +kernel
theorem dX4_undo_0 : decode cX4_undo 0 = .ok (.aload_n 0, 1) := by decide +kernel
theorem dX4_undo_1 : decode cX4_undo 1 = .ok (.getfield 38, 3) := by decide +kernel
theorem dX4_undo_4 : decode cX4_undo 4 = .ok (.ifCond .ne 6, 3) := by decide +kernel
theorem dX4_undo_7 : decode cX4_undo 7 = .ok (.ldc 99, 2) := by decide +kernel
theorem dX4_undo_9 : decode cX4_undo 9 = .ok (.ireturn, 1) := by decide +kernel
theorem dX4_undo_10 : decode cX4_undo 10 = .ok (.aload_n 0, 1) := by decide +kernel
theorem dX4_undo_11 : decode cX4_undo 11 = .ok (.dup, 1) := by decide +kernel
theorem dX4_undo_12 : decode cX4_undo 12 = .ok (.getfield 38, 3) := by decide +kernel
theorem dX4_undo_15 : decode cX4_undo 15 = .ok (.iconst 1, 1) := by decide +kernel
theorem dX4_undo_16 : decode cX4_undo 16 = .ok (.isub, 1) := by decide +kernel
theorem dX4_undo_17 : decode cX4_undo 17 = .ok (.putfield 38, 3) := by decide +kernel
theorem dX4_undo_20 : decode cX4_undo 20 = .ok (.iconst 0, 1) := by decide +kernel
theorem dX4_undo_21 : decode cX4_undo 21 = .ok (.istore_n 1, 1) := by decide +kernel
theorem dX4_undo_22 : decode cX4_undo 22 = .ok (.iload_n 1, 1) := by decide +kernel
theorem dX4_undo_23 : decode cX4_undo 23 = .ok (.sipush 312, 3) := by decide +kernel
theorem dX4_undo_26 : decode cX4_undo 26 = .ok (.if_icmp .ge 30, 3) := by decide +kernel
theorem dX4_undo_29 : decode cX4_undo 29 = .ok (.aload_n 0, 1) := by decide +kernel
theorem dX4_undo_30 : decode cX4_undo 30 = .ok (.getfield 7, 3) := by decide +kernel
theorem dX4_undo_33 : decode cX4_undo 33 = .ok (.iload_n 1, 1) := by decide +kernel
theorem dX4_undo_34 : decode cX4_undo 34 = .ok (.aload_n 0, 1) := by decide +kernel
theorem dX4_undo_35 : decode cX4_undo 35 = .ok (.getfield 16, 3) := by decide +kernel
theorem dX4_undo_38 : decode cX4_undo 38 = .ok (.sipush 312, 3) := by decide +kernel
theorem dX4_undo_41 : decode cX4_undo 41 = .ok (.aload_n 0, 1) := by decide +kernel
theorem dX4_undo_42 : decode cX4_undo 42 = .ok (.getfield 38, 3) := by decide +kernel
theorem dX4_undo_45 : decode cX4_undo 45 = .ok (.imul, 1) := by decide +kernel
theorem dX4_undo_46 : decode cX4_undo 46 = .ok (.iload_n 1, 1) := by decide +kernel
theorem dX4_undo_47 : decode cX4_undo 47 = .ok (.iadd, 1) := by decide +kernel
theorem dX4_undo_48 : decode cX4_undo 48 = .ok (.iaload, 1) := by decide +kernel
theorem dX4_undo_49 : decode cX4_undo 49 = .ok (.iastore, 1) := by decide +kernel
theorem dX4_undo_50 : decode cX4_undo 50 = .ok (.iinc 1 1, 3) := by decide +kernel
theorem dX4_undo_53 : decode cX4_undo 53 = .ok (.goto (-31), 3) := by decide +kernel
theorem dX4_undo_56 : decode cX4_undo 56 = .ok (.aload_n 0, 1) := by decide +kernel
theorem dX4_undo_57 : decode cX4_undo 57 = .ok (.getfield 38, 3) := by decide +kernel
theorem dX4_undo_60 : decode cX4_undo 60 = .ok (.ireturn, 1) := by decide +kernel
theorem dX4_isSlot_0 : decode cX4_isSlot 0 = .ok (.iload_n 0, 1) := by decide +kernel
theorem dX4_isSlot_1 : decode cX4_isSlot 1 = .ok (.ifCond .eq 8, 3) := by decide +kernel
theorem dX4_isSlot_4 : decode cX4_isSlot 4 = .ok (.iload_n 0, 1) := by decide +kernel
theorem dX4_isSlot_5 : decode cX4_isSlot 5 = .ok (.iconst 1, 1) := by decide +kernel
theorem dX4_isSlot_6 : decode cX4_isSlot 6 = .ok (.if_icmp .ne 7, 3) := by decide +kernel
theorem dX4_isSlot_9 : decode cX4_isSlot 9 = .ok (.iconst 1, 1) := by decide +kernel
theorem dX4_isSlot_10 : decode cX4_isSlot 10 = .ok (.goto 4, 3) := by decide +kernel
theorem dX4_isSlot_13 : decode cX4_isSlot 13 = .ok (.iconst 0, 1) := by decide +kernel
theorem dX4_isSlot_14 : decode cX4_isSlot 14 = .ok (.ireturn, 1) := by decide +kernel
set_option maxRecDepth 20000 in
theorem ggX4_save_X4_isSlot : GoodIn wsX4_save wsX4_isSlot := goodIn_r _ [8] (by decide +kernel) (by decide +kernel)
set_option maxRecDepth 20000 in
theorem gX4_save_X4_isSlot : GoodIn wsX4_save (va_wsS RX4 176 yX4_isSlot wsX4_isSlot) := goodIn_app (goodIn_of _ (by decide +kernel)) ggX4_save_X4_isSlot
theorem dX4_save_0 : decode cX4_save 0 = .ok (.iload_n 1, 1) := by decide +kernel
theorem dX4_save_1 : decode cX4_save 1 = .ok (.invokestatic 176, 3) := by decide +kernel
theorem dX4_save_4 : decode cX4_save 4 = .ok (.ifCond .ne 6, 3) := by decide +kernel
theorem dX4_save_7 : decode cX4_save 7 = .ok (.ldc 91, 2) := by decide +kernel
theorem dX4_save_9 : decode cX4_save 9 = .ok (.ireturn, 1) := by decide +kernel
theorem dX4_save_10 : decode cX4_save 10 = .ok (.iconst 0, 1) := by decide +kernel
theorem dX4_save_11 : decode cX4_save 11 = .ok (.istore_n 2, 1) := by decide +kernel
theorem dX4_save_12 : decode cX4_save 12 = .ok (.iload_n 2, 1) := by decide +kernel
theorem dX4_save_13 : decode cX4_save 13 = .ok (.sipush 312, 3) := by decide +kernel
theorem dX4_save_16 : decode cX4_save 16 = .ok (.if_icmp .ge 27, 3) := by decide +kernel
theorem dX4_save_19 : decode cX4_save 19 = .ok (.aload_n 0, 1) := by decide +kernel
theorem dX4_save_20 : decode cX4_save 20 = .ok (.getfield 19, 3) := by decide +kernel
theorem dX4_save_23 : decode cX4_save 23 = .ok (.sipush 312, 3) := by decide +kernel
theorem dX4_save_26 : decode cX4_save 26 = .ok (.iload_n 1, 1) := by decide +kernel
theorem dX4_save_27 : decode cX4_save 27 = .ok (.imul, 1) := by decide +kernel
theorem dX4_save_28 : decode cX4_save 28 = .ok (.iload_n 2, 1) := by decide +kernel
theorem dX4_save_29 : decode cX4_save 29 = .ok (.iadd, 1) := by decide +kernel
theorem dX4_save_30 : decode cX4_save 30 = .ok (.aload_n 0, 1) := by decide +kernel
theorem dX4_save_31 : decode cX4_save 31 = .ok (.getfield 7, 3) := by decide +kernel
theorem dX4_save_34 : decode cX4_save 34 = .ok (.iload_n 2, 1) := by decide +kernel
theorem dX4_save_35 : decode cX4_save 35 = .ok (.iaload, 1) := by decide +kernel
theorem dX4_save_36 : decode cX4_save 36 = .ok (.iastore, 1) := by decide +kernel
theorem dX4_save_37 : decode cX4_save 37 = .ok (.iinc 2 1, 3) := by decide +kernel
theorem dX4_save_40 : decode cX4_save 40 = .ok (.goto (-28), 3) := by decide +kernel
theorem dX4_save_43 : decode cX4_save 43 = .ok (.aload_n 0, 1) := by decide +kernel
theorem dX4_save_44 : decode cX4_save 44 = .ok (.getfield 22, 3) := by decide +kernel
theorem dX4_save_47 : decode cX4_save 47 = .ok (.iload_n 1, 1) := by decide +kernel
theorem dX4_save_48 : decode cX4_save 48 = .ok (.iconst 1, 1) := by decide +kernel
theorem dX4_save_49 : decode cX4_save 49 = .ok (.iastore, 1) := by decide +kernel
theorem dX4_save_50 : decode cX4_save 50 = .ok (.aload_n 0, 1) := by decide +kernel
theorem dX4_save_51 : decode cX4_save 51 = .ok (.getfield 7, 3) := by decide +kernel
theorem dX4_save_54 : decode cX4_save 54 = .ok (.iconst 3, 1) := by decide +kernel
theorem dX4_save_55 : decode cX4_save 55 = .ok (.iaload, 1) := by decide +kernel
theorem dX4_save_56 : decode cX4_save 56 = .ok (.ireturn, 1) := by decide +kernel
set_option maxRecDepth 20000 in
theorem ggX4_restore_X4_isSlot : GoodIn wsX4_restore wsX4_isSlot := goodIn_r _ [9] (by decide +kernel) (by decide +kernel)
set_option maxRecDepth 20000 in
theorem gX4_restore_X4_isSlot : GoodIn wsX4_restore (va_wsS RX4 176 yX4_isSlot wsX4_isSlot) := goodIn_app (goodIn_of _ (by decide +kernel)) ggX4_restore_X4_isSlot
set_option maxRecDepth 20000 in
theorem ggX4_restore_X4_changes : GoodIn wsX4_restore wsX4_changes := goodIn_r _ [13, 14, 15, 4, 16, 17, 18, 19, 20, 21, 22, 23, 24, 25, 26, 27, 28] (by decide +kernel) (by decide +kernel)
set_option maxRecDepth 20000 in
theorem gX4_restore_X4_changes : GoodIn wsX4_restore (wsV RX4 92 RX4 yX4_changes wsX4_changes) := goodIn_app (goodIn_of _ (by decide +kernel)) ggX4_restore_X4_changes
theorem dX4_restore_0 : decode cX4_restore 0 = .ok (.iload_n 1, 1) := by decide +kernel
theorem dX4_restore_1 : decode cX4_restore 1 = .ok (.invokestatic 176, 3) := by decide +kernel
theorem dX4_restore_4 : decode cX4_restore 4 = .ok (.ifCond .ne 6, 3) := by decide +kernel
theorem dX4_restore_7 : decode cX4_restore 7 = .ok (.ldc 91, 2) := by decide +kernel
theorem dX4_restore_9 : decode cX4_restore 9 = .ok (.ireturn, 1) := by decide +kernel
theorem dX4_restore_10 : decode cX4_restore 10 = .ok (.aload_n 0, 1) := by decide +kernel
theorem dX4_restore_11 : decode cX4_restore 11 = .ok (.getfield 22, 3) := by decide +kernel
theorem dX4_restore_14 : decode cX4_restore 14 = .ok (.iload_n 1, 1) := by decide +kernel
theorem dX4_restore_15 : decode cX4_restore 15 = .ok (.iaload, 1) := by decide +kernel
theorem dX4_restore_16 : decode cX4_restore 16 = .ok (.ifCond .ne 6, 3) := by decide +kernel
theorem dX4_restore_19 : decode cX4_restore 19 = .ok (.ldc 99, 2) := by decide +kernel
theorem dX4_restore_21 : decode cX4_restore 21 = .ok (.ireturn, 1) := by decide +kernel
theorem dX4_restore_22 : decode cX4_restore 22 = .ok (.aload_n 0, 1) := by decide +kernel
theorem dX4_restore_23 : decode cX4_restore 23 = .ok (.invokevirtual 92, 3) := by decide +kernel
theorem dX4_restore_26 : decode cX4_restore 26 = .ok (.iconst 0, 1) := by decide +kernel
theorem dX4_restore_27 : decode cX4_restore 27 = .ok (.istore_n 2, 1) := by decide +kernel
theorem dX4_restore_28 : decode cX4_restore 28 = .ok (.iload_n 2, 1) := by decide +kernel
theorem dX4_restore_29 : decode cX4_restore 29 = .ok (.sipush 312, 3) := by decide +kernel
theorem dX4_restore_32 : decode cX4_restore 32 = .ok (.if_icmp .ge 27, 3) := by decide +kernel
theorem dX4_restore_35 : decode cX4_restore 35 = .ok (.aload_n 0, 1) := by decide +kernel
theorem dX4_restore_36 : decode cX4_restore 36 = .ok (.getfield 7, 3) := by decide +kernel
theorem dX4_restore_39 : decode cX4_restore 39 = .ok (.iload_n 2, 1) := by decide +kernel
theorem dX4_restore_40 : decode cX4_restore 40 = .ok (.aload_n 0, 1) := by decide +kernel
theorem dX4_restore_41 : decode cX4_restore 41 = .ok (.getfield 19, 3) := by decide +kernel
theorem dX4_restore_44 : decode cX4_restore 44 = .ok (.sipush 312, 3) := by decide +kernel
theorem dX4_restore_47 : decode cX4_restore 47 = .ok (.iload_n 1, 1) := by decide +kernel
theorem dX4_restore_48 : decode cX4_restore 48 = .ok (.imul, 1) := by decide +kernel
theorem dX4_restore_49 : decode cX4_restore 49 = .ok (.iload_n 2, 1) := by decide +kernel
theorem dX4_restore_50 : decode cX4_restore 50 = .ok (.iadd, 1) := by decide +kernel
theorem dX4_restore_51 : decode cX4_restore 51 = .ok (.iaload, 1) := by decide +kernel
theorem dX4_restore_52 : decode cX4_restore 52 = .ok (.iastore, 1) := by decide +kernel
theorem dX4_restore_53 : decode cX4_restore 53 = .ok (.iinc 2 1, 3) := by decide +kernel
theorem dX4_restore_56 : decode cX4_restore 56 = .ok (.goto (-28), 3) := by decide +kernel
theorem dX4_restore_59 : decode cX4_restore 59 = .ok (.aload_n 0, 1) := by decide +kernel
theorem dX4_restore_60 : decode cX4_restore 60 = .ok (.getfield 7, 3) := by decide +kernel
theorem dX4_restore_63 : decode cX4_restore 63 = .ok (.iconst 3, 1) := by decide +kernel
theorem dX4_restore_64 : decode cX4_restore 64 = .ok (.iaload, 1) := by decide +kernel
theorem dX4_restore_65 : decode cX4_restore 65 = .ok (.ireturn, 1) := by decide +kernel
theorem dJ6_bitCount_0f7a4_0 : decode cJ6_bitCount_0f7a4 0 = .ok (.iload_n 0, 1) := by decide +kernel
theorem dJ6_bitCount_0f7a4_1 : decode cJ6_bitCount_0f7a4 1 = .ok (.iload_n 0, 1) := by decide +kernel
theorem dJ6_bitCount_0f7a4_2 : decode cJ6_bitCount_0f7a4 2 = .ok (.iconst 1, 1) := by decide +kernel
theorem dJ6_bitCount_0f7a4_3 : decode cJ6_bitCount_0f7a4 3 = .ok (.iushr, 1) := by decide +kernel
theorem dJ6_bitCount_0f7a4_4 : decode cJ6_bitCount_0f7a4 4 = .ok (.ldc_w 265, 3) := by decide +kernel
theorem dJ6_bitCount_0f7a4_7 : decode cJ6_bitCount_0f7a4 7 = .ok (.iand, 1) := by decide +kernel
theorem dJ6_bitCount_0f7a4_8 : decode cJ6_bitCount_0f7a4 8 = .ok (.isub, 1) := by decide +kernel
theorem dJ6_bitCount_0f7a4_9 : decode cJ6_bitCount_0f7a4 9 = .ok (.istore_n 0, 1) := by decide +kernel
theorem dJ6_bitCount_0f7a4_10 : decode cJ6_bitCount_0f7a4 10 = .ok (.iload_n 0, 1) := by decide +kernel
theorem dJ6_bitCount_0f7a4_11 : decode cJ6_bitCount_0f7a4 11 = .ok (.ldc_w 266, 3) := by decide +kernel
theorem dJ6_bitCount_0f7a4_14 : decode cJ6_bitCount_0f7a4 14 = .ok (.iand, 1) := by decide +kernel
theorem dJ6_bitCount_0f7a4_15 : decode cJ6_bitCount_0f7a4 15 = .ok (.iload_n 0, 1) := by decide +kernel
theorem dJ6_bitCount_0f7a4_16 : decode cJ6_bitCount_0f7a4 16 = .ok (.iconst 2, 1) := by decide +kernel
theorem dJ6_bitCount_0f7a4_17 : decode cJ6_bitCount_0f7a4 17 = .ok (.iushr, 1) := by decide +kernel
theorem dJ6_bitCount_0f7a4_18 : decode cJ6_bitCount_0f7a4 18 = .ok (.ldc_w 266, 3) := by decide +kernel
theorem dJ6_bitCount_0f7a4_21 : decode cJ6_bitCount_0f7a4 21 = .ok (.iand, 1) := by decide +kernel
theorem dJ6_bitCount_0f7a4_22 : decode cJ6_bitCount_0f7a4 22 = .ok (.iadd, 1) := by decide +kernel
theorem dJ6_bitCount_0f7a4_23 : decode cJ6_bitCount_0f7a4 23 = .ok (.istore_n 0, 1) := by decide +kernel
theorem dJ6_bitCount_0f7a4_24 : decode cJ6_bitCount_0f7a4 24 = .ok (.iload_n 0, 1) := by decide +kernel
theorem dJ6_bitCount_0f7a4_25 : decode cJ6_bitCount_0f7a4 25 = .ok (.iload_n 0, 1) := by decide +kernel
theorem dJ6_bitCount_0f7a4_26 : decode cJ6_bitCount_0f7a4 26 = .ok (.iconst 4, 1) := by decide +kernel
theorem dJ6_bitCount_0f7a4_27 : decode cJ6_bitCount_0f7a4 27 = .ok (.iushr, 1) := by decide +kernel
theorem dJ6_bitCount_0f7a4_28 : decode cJ6_bitCount_0f7a4 28 = .ok (.iadd, 1) := by decide +kernel
theorem dJ6_bitCount_0f7a4_29 : decode cJ6_bitCount_0f7a4 29 = .ok (.ldc_w 267, 3) := by decide +kernel
theorem dJ6_bitCount_0f7a4_32 : decode cJ6_bitCount_0f7a4 32 = .ok (.iand, 1) := by decide +kernel
theorem dJ6_bitCount_0f7a4_33 : decode cJ6_bitCount_0f7a4 33 = .ok (.istore_n 0, 1) := by decide +kernel
theorem dJ6_bitCount_0f7a4_34 : decode cJ6_bitCount_0f7a4 34 = .ok (.iload_n 0, 1) := by decide +kernel
theorem dJ6_bitCount_0f7a4_35 : decode cJ6_bitCount_0f7a4 35 = .ok (.iload_n 0, 1) := by decide +kernel
theorem dJ6_bitCount_0f7a4_36 : decode cJ6_bitCount_0f7a4 36 = .ok (.bipush 8, 2) := by decide +kernel
theorem dJ6_bitCount_0f7a4_38 : decode cJ6_bitCount_0f7a4 38 = .ok (.iushr, 1) := by decide +kernel
theorem dJ6_bitCount_0f7a4_39 : decode cJ6_bitCount_0f7a4 39 = .ok (.iadd, 1) := by decide +kernel
theorem dJ6_bitCount_0f7a4_40 : decode cJ6_bitCount_0f7a4 40 = .ok (.istore_n 0, 1) := by decide +kernel
theorem dJ6_bitCount_0f7a4_41 : decode cJ6_bitCount_0f7a4 41 = .ok (.iload_n 0, 1) := by decide +kernel
theorem dJ6_bitCount_0f7a4_42 : decode cJ6_bitCount_0f7a4 42 = .ok (.iload_n 0, 1) := by decide +kernel
theorem dJ6_bitCount_0f7a4_43 : decode cJ6_bitCount_0f7a4 43 = .ok (.bipush 16, 2) := by decide +kernel
theorem dJ6_bitCount_0f7a4_45 : decode cJ6_bitCount_0f7a4 45 = .ok (.iushr, 1) := by decide +kernel
theorem dJ6_bitCount_0f7a4_46 : decode cJ6_bitCount_0f7a4 46 = .ok (.iadd, 1) := by decide +kernel
theorem dJ6_bitCount_0f7a4_47 : decode cJ6_bitCount_0f7a4 47 = .ok (.istore_n 0, 1) := by decide +kernel
theorem dJ6_bitCount_0f7a4_48 : decode cJ6_bitCount_0f7a4 48 = .ok (.iload_n 0, 1) := by decide +kernel
theorem dJ6_bitCount_0f7a4_49 : decode cJ6_bitCount_0f7a4 49 = .ok (.bipush 63, 2) := by decide +kernel
theorem dJ6_bitCount_0f7a4_51 : decode cJ6_bitCount_0f7a4 51 = .ok (.iand, 1) := by decide +kernel
theorem dJ6_bitCount_0f7a4_52 : decode cJ6_bitCount_0f7a4 52 = .ok (.ireturn, 1) := by decide +kernel
theorem dJ9_floorMod_7cf53_0 : decode cJ9_floorMod_7cf53 0 = .ok (.iload_n 0, 1) := by decide +kernel
theorem dJ9_floorMod_7cf53_1 : decode cJ9_floorMod_7cf53 1 = .ok (.iload_n 1, 1) := by decide +kernel
theorem dJ9_floorMod_7cf53_2 : decode cJ9_floorMod_7cf53 2 = .ok (.irem, 1) := by decide +kernel
theorem dJ9_floorMod_7cf53_3 : decode cJ9_floorMod_7cf53 3 = .ok (.istore_n 2, 1) := by decide +kernel
theorem dJ9_floorMod_7cf53_4 : decode cJ9_floorMod_7cf53 4 = .ok (.iload_n 0, 1) := by decide +kernel
theorem dJ9_floorMod_7cf53_5 : decode cJ9_floorMod_7cf53 5 = .ok (.iload_n 1, 1) := by decide +kernel
theorem dJ9_floorMod_7cf53_6 : decode cJ9_floorMod_7cf53 6 = .ok (.ixor, 1) := by decide +kernel
theorem dJ9_floorMod_7cf53_7 : decode cJ9_floorMod_7cf53 7 = .ok (.ifCond .ge 11, 3) := by decide +kernel
theorem dJ9_floorMod_7cf53_10 : decode cJ9_floorMod_7cf53 10 = .ok (.iload_n 2, 1) := by decide +kernel
theorem dJ9_floorMod_7cf53_11 : decode cJ9_floorMod_7cf53 11 = .ok (.ifCond .eq 7, 3) := by decide +kernel
theorem dJ9_floorMod_7cf53_14 : decode cJ9_floorMod_7cf53 14 = .ok (.iload_n 2, 1) := by decide +kernel
theorem dJ9_floorMod_7cf53_15 : decode cJ9_floorMod_7cf53 15 = .ok (.iload_n 1, 1) := by decide +kernel
theorem dJ9_floorMod_7cf53_16 : decode cJ9_floorMod_7cf53 16 = .ok (.iadd, 1) := by decide +kernel
theorem dJ9_floorMod_7cf53_17 : decode cJ9_floorMod_7cf53 17 = .ok (.ireturn, 1) := by decide +kernel
theorem dJ9_floorMod_7cf53_18 : decode cJ9_floorMod_7cf53 18 = .ok (.iload_n 2, 1) := by decide +kernel
theorem dJ9_floorMod_7cf53_19 : decode cJ9_floorMod_7cf53 19 = .ok (.ireturn, 1) := by decide +kernel
theorem dJ9_min_7cf53_0 : decode cJ9_min_7cf53 0 = .ok (.iload_n 0, 1) := by decide +kernel
theorem dJ9_min_7cf53_1 : decode cJ9_min_7cf53 1 = .ok (.iload_n 1, 1) := by decide +kernel
theorem dJ9_min_7cf53_2 : decode cJ9_min_7cf53 2 = .ok (.if_icmp .gt 7, 3) := by decide +kernel
theorem dJ9_min_7cf53_5 : decode cJ9_min_7cf53 5 = .ok (.iload_n 0, 1) := by decide +kernel
theorem dJ9_min_7cf53_6 : decode cJ9_min_7cf53 6 = .ok (.goto 4, 3) := by decide +kernel
theorem dJ9_min_7cf53_9 : decode cJ9_min_7cf53 9 = .ok (.iload_n 1, 1) := by decide +kernel
theorem dJ9_min_7cf53_10 : decode cJ9_min_7cf53 10 = .ok (.ireturn, 1) := by decide +kernel
theorem dJ7_fill_53178_0 : decode cJ7_fill_53178 0 = .ok (.iconst 0, 1) := by decide +kernel
theorem dJ7_fill_53178_1 : decode cJ7_fill_53178 1 = .ok (.istore_n 2, 1) := by decide +kernel
theorem dJ7_fill_53178_2 : decode cJ7_fill_53178 2 = .ok (.aload_n 0, 1) := by decide +kernel
theorem dJ7_fill_53178_3 : decode cJ7_fill_53178 3 = .ok (.arraylength, 1) := by decide +kernel
theorem dJ7_fill_53178_4 : decode cJ7_fill_53178 4 = .ok (.istore_n 3, 1) := by decide +kernel
theorem dJ7_fill_53178_5 : decode cJ7_fill_53178 5 = .ok (.iload_n 2, 1) := by decide +kernel
theorem dJ7_fill_53178_6 : decode cJ7_fill_53178 6 = .ok (.iload_n 3, 1) := by decide +kernel
theorem dJ7_fill_53178_7 : decode cJ7_fill_53178 7 = .ok (.if_icmp .ge 13, 3) := by decide +kernel
theorem dJ7_fill_53178_10 : decode cJ7_fill_53178 10 = .ok (.aload_n 0, 1) := by decide +kernel
theorem dJ7_fill_53178_11 : decode cJ7_fill_53178 11 = .ok (.iload_n 2, 1) := by decide +kernel
theorem dJ7_fill_53178_12 : decode cJ7_fill_53178 12 = .ok (.iload_n 1, 1) := by decide +kernel
theorem dJ7_fill_53178_13 : decode cJ7_fill_53178 13 = .ok (.iastore, 1) := by decide +kernel
theorem dJ7_fill_53178_14 : decode cJ7_fill_53178 14 = .ok (.iinc 2 1, 3) := by decide +kernel
theorem dJ7_fill_53178_17 : decode cJ7_fill_53178 17 = .ok (.goto (-12), 3) := by decide +kernel
theorem dJ7_fill_53178_20 : decode cJ7_fill_53178 20 = .ok (.return_, 1) := by decide +kernel
set_option maxRecDepth 20000 in
theorem ggL_law_X3_init : GoodIn wsL_law wsX3_init := goodIn_r _ [9, 10, 11, 12, 13, 14, 15, 16, 17, 18, 19, 20, 21, 22, 23, 24, 25, 26, 27, 28, 29, 30, 31, 32, 33, 34, 35, 36, 37, 38, 39, 40, 41, 42, 43, 44, 45, 46, 47, 48, 49, 50, 51, 52, 53, 54, 55, 56, 57, 58, 59, 60, 61, 62, 63, 595, 596, 597, 598, 599, 600, 601, 602, 603, 604, 605, 606, 607, 577, 578, 579, 580, 581, 608, 609, 610, 611] (by decide +kernel) (by decide +kernel)
set_option maxRecDepth 20000 in
theorem gL_law_X3_init : GoodIn wsL_law (wsX3_init) := ggL_law_X3_init
set_option maxRecDepth 20000 in
theorem ggL_law_X4_init : GoodIn wsL_law wsX4_init := goodIn_r _ [66, 67, 11, 12, 31, 68, 69, 70, 71, 72, 73, 74, 75, 76, 77, 582, 583, 584, 585, 586, 587, 588, 589, 590, 591, 592, 593, 594] (by decide +kernel) (by decide +kernel)
set_option maxRecDepth 20000 in
theorem gL_law_X4_init : GoodIn wsL_law (wsX4_init) := ggL_law_X4_init
set_option maxRecDepth 20000 in
theorem ggL_law_X3_set : GoodIn wsL_law wsX3_set := goodIn_r _ [81, 82, 25, 16, 83, 84, 85, 86, 24, 87, 62, 61, 88, 89, 90, 91, 92, 93, 94, 15, 95, 32, 33, 34, 35, 36, 37, 38, 39, 40, 41, 42, 43, 45, 96, 97, 98, 99, 100, 101, 102, 103, 104, 105, 106, 577, 578, 579, 580, 581, 595, 596, 597, 598, 599, 600, 601, 602, 603, 604, 605, 606, 607, 610, 611] (by decide +kernel) (by decide +kernel)
set_option maxRecDepth 20000 in
theorem gL_law_X3_set : GoodIn wsL_law (wsV RL 13 RX3 yX3_set wsX3_set) := goodIn_app (goodIn_of _ (by decide +kernel)) ggL_law_X3_set
set_option maxRecDepth 20000 in
theorem ggL_law_X4_set : GoodIn wsL_law wsX4_set := goodIn_r _ [110, 111, 68, 112, 113, 5, 114, 115, 116, 117, 118, 119, 120, 121, 122, 123, 124, 125, 70, 582, 583, 584, 585, 586, 587, 588, 589, 590, 591, 592, 593, 594] (by decide +kernel) (by decide +kernel)
set_option maxRecDepth 20000 in
theorem gL_law_X4_set : GoodIn wsL_law (wsV RL 17 RX4 yX4_set wsX4_set) := goodIn_app (goodIn_of _ (by decide +kernel)) ggL_law_X4_set
set_option maxRecDepth 20000 in
theorem ggL_law_X3_like : GoodIn wsL_law wsX3_like := goodIn_r _ [129, 130, 82, 25, 16, 131, 132, 133, 2, 134, 84, 85, 86, 24, 87, 62, 61, 88, 89, 90, 91, 92, 93, 94, 15, 95, 32, 33, 34, 35, 36, 37, 38, 39, 40, 41, 42, 43, 45, 96, 97, 98, 99, 100, 101, 102, 103, 104, 105, 106, 135, 136, 137, 577, 578, 579, 580, 581, 595, 596, 597, 598, 599, 600, 601, 602, 603, 604, 605, 606, 607, 610, 611] (by decide +kernel) (by decide +kernel)
set_option maxRecDepth 20000 in
theorem gL_law_X3_like : GoodIn wsL_law (wsV RL 18 RX3 yX3_like wsX3_like) := goodIn_app (goodIn_of _ (by decide +kernel)) ggL_law_X3_like
set_option maxRecDepth 20000 in
theorem ggL_law_X4_like : GoodIn wsL_law wsX4_like := goodIn_r _ [141, 142, 116, 117, 111, 68, 143, 144, 5, 145, 146, 118, 119, 120, 121, 122, 123, 124, 125, 70, 147, 148, 149, 582, 583, 584, 585, 586, 587, 588, 589, 590, 591, 592, 593, 594] (by decide +kernel) (by decide +kernel)
set_option maxRecDepth 20000 in
theorem gL_law_X4_like : GoodIn wsL_law (wsV RL 22 RX4 yX4_like wsX4_like) := goodIn_app (goodIn_of _ (by decide +kernel)) ggL_law_X4_like
set_option maxRecDepth 20000 in
theorem ggL_law_X3_away : GoodIn wsL_law wsX3_away := goodIn_r _ [153, 130, 16, 154, 25, 155, 132, 133, 2, 134, 156, 157, 158, 15, 159, 33, 84, 85, 86, 24, 87, 62, 61, 88, 89, 90, 91, 92, 93, 94, 95, 32, 34, 35, 36, 37, 38, 39, 40, 41, 42, 43, 45, 96, 97, 98, 99, 100, 101, 102, 103, 104, 105, 106, 160, 161, 162, 163, 164, 165, 166, 577, 578, 579, 580, 581, 595, 596, 597, 598, 599, 600, 601, 602, 603, 604, 605, 606, 607, 610, 611] (by decide +kernel) (by decide +kernel)
set_option maxRecDepth 20000 in
theorem gL_law_X3_away : GoodIn wsL_law (wsV RL 23 RX3 yX3_away wsX3_away) := goodIn_app (goodIn_of _ (by decide +kernel)) ggL_law_X3_away
set_option maxRecDepth 20000 in
theorem ggL_law_X4_away : GoodIn wsL_law wsX4_away := goodIn_r _ [170, 142, 171, 68, 143, 144, 5, 145, 146, 118, 119, 120, 172, 173, 174, 175, 121, 122, 123, 124, 125, 70, 176, 177, 178, 179, 582, 583, 584, 585, 586, 587, 588, 589, 590, 591, 592, 593, 594] (by decide +kernel) (by decide +kernel)
set_option maxRecDepth 20000 in
theorem gL_law_X4_away : GoodIn wsL_law (wsV RL 27 RX4 yX4_away wsX4_away) := goodIn_app (goodIn_of _ (by decide +kernel)) ggL_law_X4_away
set_option maxRecDepth 20000 in
theorem ggL_law_X3_call : GoodIn wsL_law wsX3_call := goodIn_r _ [183, 82, 16, 184, 185, 25, 186, 187, 2, 188, 84, 85, 86, 24, 87, 62, 61, 88, 89, 90, 91, 92, 93, 94, 15, 95, 32, 33, 34, 35, 36, 37, 38, 39, 40, 41, 42, 43, 45, 96, 97, 98, 99, 100, 101, 102, 103, 104, 105, 106, 189, 190, 191, 192, 193, 194, 195, 196, 197, 198, 199, 200, 201, 202, 203, 204, 205, 206, 157, 158, 159, 207, 208, 209, 210, 211, 212, 213, 214, 215, 216, 217, 218, 136, 137, 219, 220, 221, 222, 223, 224, 225, 226, 577, 578, 579, 580, 581, 595, 596, 597, 598, 599, 600, 601, 602, 603, 604, 605, 606, 607, 610, 611] (by decide +kernel) (by decide +kernel)
set_option maxRecDepth 20000 in
theorem gL_law_X3_call : GoodIn wsL_law (wsV RL 28 RX3 yX3_call wsX3_call) := goodIn_app (goodIn_of _ (by decide +kernel)) ggL_law_X3_call
set_option maxRecDepth 20000 in
theorem ggL_law_X4_call : GoodIn wsL_law wsX4_call := goodIn_r _ [230, 111, 68, 231, 232, 233, 5, 234, 235, 118, 119, 120, 121, 122, 123, 124, 125, 70, 236, 237, 238, 239, 73, 240, 241, 242, 243, 244, 245, 246, 247, 248, 249, 250, 172, 173, 174, 175, 251, 252, 253, 254, 255, 256, 257, 258, 147, 148, 149, 259, 260, 261, 262, 582, 583, 584, 585, 586, 587, 588, 589, 590, 591, 592, 593, 594] (by decide +kernel) (by decide +kernel)
set_option maxRecDepth 20000 in
theorem gL_law_X4_call : GoodIn wsL_law (wsV RL 32 RX4 yX4_call wsX4_call) := goodIn_app (goodIn_of _ (by decide +kernel)) ggL_law_X4_call
set_option maxRecDepth 20000 in
theorem ggL_law_X3_read : GoodIn wsL_law wsX3_read := goodIn_r _ [266, 21, 267, 268, 16, 184, 185, 25, 269, 270, 271, 20, 272, 55, 54, 273, 274, 275, 276, 277, 278, 279, 280, 281, 282, 283, 284, 285, 286, 287, 288, 289, 290, 291, 292, 293, 294, 295, 84, 85, 86, 24, 87, 62, 61, 88, 89, 90, 91, 92, 93, 94, 15, 95, 32, 33, 34, 35, 36, 37, 38, 39, 40, 41, 42, 43, 45, 96, 97, 98, 99, 100, 101, 102, 103, 104, 105, 106, 296, 297, 298, 2, 299, 300, 301, 302, 303, 304, 305, 306, 307, 308, 309, 310, 189, 190, 191, 192, 193, 194, 195, 196, 197, 198, 199, 200, 201, 202, 203, 204, 205, 206, 157, 158, 159, 207, 208, 209, 210, 211, 212, 213, 214, 215, 216, 217, 218, 136, 137, 219, 220, 221, 222, 223, 224, 225, 226, 311, 312, 313, 314, 577, 578, 579, 580, 581, 595, 596, 597, 598, 599, 600, 601, 602, 603, 604, 605, 606, 607, 608, 609, 610, 611] (by decide +kernel) (by decide +kernel)
set_option maxRecDepth 20000 in
theorem gL_law_X3_read : GoodIn wsL_law (wsV RL 33 RX3 yX3_read wsX3_read) := goodIn_app (goodIn_of _ (by decide +kernel)) ggL_law_X3_read
set_option maxRecDepth 20000 in
theorem ggL_law_X4_read : GoodIn wsL_law wsX4_read := goodIn_r _ [318, 77, 319, 320, 75, 68, 231, 76, 321, 322, 323, 324, 5, 325, 326, 327, 328, 329, 330, 115, 117, 331, 332, 333, 334, 74, 335, 336, 337, 338, 118, 119, 120, 339, 340, 341, 342, 121, 122, 123, 124, 125, 70, 236, 237, 238, 239, 73, 240, 241, 242, 243, 244, 245, 246, 247, 248, 249, 250, 172, 173, 174, 175, 251, 252, 253, 254, 255, 256, 257, 258, 147, 148, 149, 259, 260, 261, 262, 582, 583, 584, 585, 586, 587, 588, 589, 590, 591, 592, 593, 594] (by decide +kernel) (by decide +kernel)
set_option maxRecDepth 20000 in
theorem gL_law_X4_read : GoodIn wsL_law (wsV RL 37 RX4 yX4_read wsX4_read) := goodIn_app (goodIn_of _ (by decide +kernel)) ggL_law_X4_read
set_option maxRecDepth 20000 in
theorem ggL_law_X3_feed : GoodIn wsL_law wsX3_feed := goodIn_r _ [346, 130, 82, 25, 16, 347, 132, 133, 2, 134, 84, 85, 86, 24, 87, 62, 61, 88, 89, 90, 91, 92, 93, 94, 15, 95, 32, 33, 34, 35, 36, 37, 38, 39, 40, 41, 42, 43, 45, 96, 97, 98, 99, 100, 101, 102, 103, 104, 105, 106, 577, 578, 579, 580, 581, 595, 596, 597, 598, 599, 600, 601, 602, 603, 604, 605, 606, 607, 610, 611] (by decide +kernel) (by decide +kernel)
set_option maxRecDepth 20000 in
theorem gL_law_X3_feed : GoodIn wsL_law (wsV RL 38 RX3 yX3_feed wsX3_feed) := goodIn_app (goodIn_of _ (by decide +kernel)) ggL_law_X3_feed
set_option maxRecDepth 20000 in
theorem ggL_law_X4_feed : GoodIn wsL_law wsX4_feed := goodIn_r _ [351, 142, 352, 111, 68, 143, 144, 5, 145, 146, 118, 119, 120, 121, 122, 123, 124, 125, 70, 582, 583, 584, 585, 586, 587, 588, 589, 590, 591, 592, 593, 594] (by decide +kernel) (by decide +kernel)
set_option maxRecDepth 20000 in
theorem gL_law_X4_feed : GoodIn wsL_law (wsV RL 41 RX4 yX4_feed wsX4_feed) := goodIn_app (goodIn_of _ (by decide +kernel)) ggL_law_X4_feed
set_option maxRecDepth 20000 in
theorem ggL_law_X3_villager : GoodIn wsL_law wsX3_villager := goodIn_r _ [356, 130, 16, 347, 357, 358, 359, 360, 82, 132, 133, 2, 134, 156, 157, 158, 15, 159, 33, 361, 362, 363, 364, 40, 136, 137, 365, 366, 367, 368, 44, 577, 578, 579, 580, 581, 595, 596, 597, 598, 599, 600, 601, 602, 603, 604, 605, 606, 607] (by decide +kernel) (by decide +kernel)
set_option maxRecDepth 20000 in
theorem gL_law_X3_villager : GoodIn wsL_law (wsV RL 42 RX3 yX3_villager wsX3_villager) := goodIn_app (goodIn_of _ (by decide +kernel)) ggL_law_X3_villager
set_option maxRecDepth 20000 in
theorem ggL_law_X4_villager : GoodIn wsL_law wsX4_villager := goodIn_r _ [372, 142, 68, 111, 143, 144, 5, 145, 146, 118, 119, 120, 373, 374, 375, 376, 147, 148, 149, 377, 378, 379, 380, 77, 582, 583, 584, 585, 586, 587, 588, 589, 590, 591, 592, 593, 594] (by decide +kernel) (by decide +kernel)
set_option maxRecDepth 20000 in
theorem gL_law_X4_villager : GoodIn wsL_law (wsV RL 45 RX4 yX4_villager wsX4_villager) := goodIn_app (goodIn_of _ (by decide +kernel)) ggL_law_X4_villager
set_option maxRecDepth 20000 in
theorem ggL_law_X3_pair : GoodIn wsL_law wsX3_pair := goodIn_r _ [384, 130, 82, 16, 131, 385, 386, 387, 132, 133, 2, 134, 135, 136, 137, 195, 196, 197, 198, 199, 200, 201, 577, 578, 579, 580, 581, 595, 596, 597, 598, 599, 600, 601, 602, 603, 604, 605, 606, 607] (by decide +kernel) (by decide +kernel)
set_option maxRecDepth 20000 in
theorem gL_law_X3_pair : GoodIn wsL_law (wsV RL 46 RX3 yX3_pair wsX3_pair) := goodIn_app (goodIn_of _ (by decide +kernel)) ggL_law_X3_pair
set_option maxRecDepth 20000 in
theorem ggL_law_X4_pair : GoodIn wsL_law wsX4_pair := goodIn_r _ [391, 142, 111, 68, 143, 144, 5, 145, 146, 118, 119, 120, 147, 148, 149, 582, 583, 584, 585, 586, 587, 588, 589, 590, 591, 592, 593, 594] (by decide +kernel) (by decide +kernel)
set_option maxRecDepth 20000 in
theorem gL_law_X4_pair : GoodIn wsL_law (wsV RL 49 RX4 yX4_pair wsX4_pair) := goodIn_app (goodIn_of _ (by decide +kernel)) ggL_law_X4_pair
set_option maxRecDepth 20000 in
theorem ggL_law_X3_partner : GoodIn wsL_law wsX3_partner := goodIn_r _ [395, 130, 82, 267, 132, 133, 2, 134, 186, 187, 188, 396, 193, 194, 195, 196, 197, 198, 199, 200, 201] (by decide +kernel) (by decide +kernel)
set_option maxRecDepth 20000 in
theorem gL_law_X3_partner : GoodIn wsL_law (wsV RL 50 RX3 yX3_partner wsX3_partner) := goodIn_app (goodIn_of _ (by decide +kernel)) ggL_law_X3_partner
set_option maxRecDepth 20000 in
theorem ggL_law_X4_partner : GoodIn wsL_law wsX4_partner := goodIn_r _ [400, 142, 111, 77, 143, 144, 5, 145, 146, 118, 119, 120, 232, 233, 234, 235, 244, 245, 246] (by decide +kernel) (by decide +kernel)
set_option maxRecDepth 20000 in
theorem gL_law_X4_partner : GoodIn wsL_law (wsV RL 53 RX4 yX4_partner wsX4_partner) := goodIn_app (goodIn_of _ (by decide +kernel)) ggL_law_X4_partner
set_option maxRecDepth 20000 in
theorem ggL_law_X3_count : GoodIn wsL_law wsX3_count := goodIn_r _ [404, 16, 83, 184, 155, 385, 357, 360, 347, 405, 21, 300, 25, 406, 82, 407, 408, 2, 409, 410, 411, 412, 15, 413, 414, 415, 416, 417, 40, 206, 157, 158, 159, 33, 136, 137, 577, 578, 579, 580, 581, 595, 596, 597, 598, 599, 600, 601, 602, 603, 604, 605, 606, 607, 608, 609, 610, 611] (by decide +kernel) (by decide +kernel)
set_option maxRecDepth 20000 in
theorem gL_law_X3_count : GoodIn wsL_law (wsV RL 54 RX3 yX3_count wsX3_count) := goodIn_app (goodIn_of _ (by decide +kernel)) ggL_law_X3_count
set_option maxRecDepth 20000 in
theorem ggL_law_X4_count : GoodIn wsL_law wsX4_count := goodIn_r _ [421, 68, 321, 125, 422, 111, 423, 424, 425, 5, 426, 176, 177, 178, 179, 427, 428, 429, 430, 431, 432, 433, 434, 172, 173, 174, 175, 147, 148, 149, 118, 119, 120, 582, 583, 584, 585, 586, 587, 588, 589, 590, 591, 592, 593, 594] (by decide +kernel) (by decide +kernel)
set_option maxRecDepth 20000 in
theorem gL_law_X4_count : GoodIn wsL_law (wsV RL 57 RX4 yX4_count wsX4_count) := goodIn_app (goodIn_of _ (by decide +kernel)) ggL_law_X4_count
set_option maxRecDepth 20000 in
theorem ggL_law_X3_ifCalled : GoodIn wsL_law wsX3_ifCalled := goodIn_r _ [438, 82, 16, 186, 187, 2, 188, 439, 440, 441, 15, 442, 193, 194, 195, 196, 197, 198, 199, 200, 201, 443, 444, 445, 446, 33, 40, 207, 208, 209, 210, 34, 32, 206, 157, 158, 159, 447, 161, 162, 163, 164, 165, 166, 215, 216, 217, 218, 39, 136, 137, 577, 578, 579, 580, 581, 595, 596, 597, 598, 599, 600, 601, 602, 603, 604, 605, 606, 607] (by decide +kernel) (by decide +kernel)
set_option maxRecDepth 20000 in
theorem gL_law_X3_ifCalled : GoodIn wsL_law (wsV RL 58 RX3 yX3_ifCalled wsX3_ifCalled) := goodIn_app (goodIn_of _ (by decide +kernel)) ggL_law_X3_ifCalled
set_option maxRecDepth 20000 in
theorem ggL_law_X4_ifCalled : GoodIn wsL_law wsX4_ifCalled := goodIn_r _ [451, 422, 111, 232, 233, 5, 234, 235, 118, 119, 120, 452, 453, 454, 455, 240, 241, 242, 243, 244, 245, 246, 247, 248, 249, 250, 68, 172, 173, 174, 175, 255, 256, 257, 258, 147, 148, 149, 456, 457, 458, 459, 582, 583, 584, 585, 586, 587, 588, 589, 590, 591, 592, 593, 594] (by decide +kernel) (by decide +kernel)
set_option maxRecDepth 20000 in
theorem gL_law_X4_ifCalled : GoodIn wsL_law (wsV RL 61 RX4 yX4_ifCalled wsX4_ifCalled) := goodIn_app (goodIn_of _ (by decide +kernel)) ggL_law_X4_ifCalled
set_option maxRecDepth 20000 in
theorem ggL_law_X3_bestCall : GoodIn wsL_law wsX3_bestCall := goodIn_r _ [463, 82, 16, 439, 440, 441, 15, 442, 193, 2, 194, 195, 196, 197, 198, 199, 200, 201, 443, 444, 445, 446, 33, 40, 207, 208, 209, 210, 34, 32, 206, 157, 158, 159, 447, 161, 162, 163, 164, 165, 166, 215, 216, 217, 218, 39, 136, 137, 577, 578, 579, 580, 581, 595, 596, 597, 598, 599, 600, 601, 602, 603, 604, 605, 606, 607] (by decide +kernel) (by decide +kernel)
set_option maxRecDepth 20000 in
theorem gL_law_X3_bestCall : GoodIn wsL_law (wsV RL 62 RX3 yX3_bestCall wsX3_bestCall) := goodIn_app (goodIn_of _ (by decide +kernel)) ggL_law_X3_bestCall
set_option maxRecDepth 20000 in
theorem ggL_law_X4_bestCall : GoodIn wsL_law wsX4_bestCall := goodIn_r _ [467, 111, 118, 119, 5, 120, 452, 453, 454, 455, 240, 241, 242, 243, 244, 245, 246, 247, 248, 249, 250, 68, 172, 173, 174, 175, 255, 256, 257, 258, 147, 148, 149, 582, 583, 584, 585, 586, 587, 588, 589, 590, 591, 592, 593, 594] (by decide +kernel) (by decide +kernel)
set_option maxRecDepth 20000 in
theorem gL_law_X4_bestCall : GoodIn wsL_law (wsV RL 65 RX4 yX4_bestCall wsX4_bestCall) := goodIn_app (goodIn_of _ (by decide +kernel)) ggL_law_X4_bestCall
set_option maxRecDepth 20000 in
theorem ggL_law_X3_fewestRounds : GoodIn wsL_law wsX3_fewestRounds := goodIn_r _ [471, 16, 82, 472, 473, 474, 15, 475, 476, 477, 478, 479, 193, 2, 194, 195, 196, 197, 198, 199, 200, 201, 414, 415, 416, 417, 40, 206, 157, 158, 159, 33, 136, 137, 480, 481, 482, 483, 447, 161, 162, 163, 164, 165, 166, 577, 578, 579, 580, 581, 595, 596, 597, 598, 599, 600, 601, 602, 603, 604, 605, 606, 607] (by decide +kernel) (by decide +kernel)
set_option maxRecDepth 20000 in
theorem gL_law_X3_fewestRounds : GoodIn wsL_law (wsV RL 66 RX3 yX3_fewestRounds wsX3_fewestRounds) := goodIn_app (goodIn_of _ (by decide +kernel)) ggL_law_X3_fewestRounds
set_option maxRecDepth 20000 in
theorem ggL_law_X4_fewestRounds : GoodIn wsL_law wsX4_fewestRounds := goodIn_r _ [487, 111, 118, 119, 5, 120, 431, 432, 433, 434, 68, 172, 173, 174, 175, 147, 148, 149, 582, 583, 584, 585, 586, 587, 588, 589, 590, 591, 592, 593, 594] (by decide +kernel) (by decide +kernel)
set_option maxRecDepth 20000 in
theorem gL_law_X4_fewestRounds : GoodIn wsL_law (wsV RL 69 RX4 yX4_fewestRounds wsX4_fewestRounds) := goodIn_app (goodIn_of _ (by decide +kernel)) ggL_law_X4_fewestRounds
set_option maxRecDepth 20000 in
theorem ggL_law_X3_untilAllMet : GoodIn wsL_law wsX3_untilAllMet := goodIn_r _ [491, 17, 16, 267, 184, 492, 93, 94, 15, 95, 32, 33, 34, 35, 36, 37, 38, 39, 40, 41, 42, 43, 45, 96, 97, 98, 99, 100, 101, 102, 103, 104, 105, 106, 410, 411, 412, 413, 414, 415, 416, 417, 206, 157, 158, 159, 136, 2, 137, 195, 196, 197, 198, 199, 200, 201, 439, 440, 441, 442, 193, 194, 443, 444, 445, 446, 207, 208, 209, 210, 447, 161, 162, 163, 164, 165, 166, 215, 216, 217, 218, 189, 190, 191, 192, 202, 203, 204, 205, 211, 212, 213, 214, 219, 220, 221, 222, 223, 224, 225, 226, 577, 578, 579, 580, 581, 595, 596, 597, 598, 599, 600, 601, 602, 603, 604, 605, 606, 607] (by decide +kernel) (by decide +kernel)
set_option maxRecDepth 20000 in
theorem gL_law_X3_untilAllMet : GoodIn wsL_law (wsV RL 70 RX3 yX3_untilAllMet wsX3_untilAllMet) := goodIn_app (goodIn_of _ (by decide +kernel)) ggL_law_X3_untilAllMet
set_option maxRecDepth 20000 in
theorem ggL_law_X4_untilAllMet : GoodIn wsL_law wsX4_untilAllMet := goodIn_r _ [496, 77, 497, 498, 499, 5, 500, 69, 68, 427, 428, 429, 430, 431, 432, 433, 434, 172, 173, 174, 175, 147, 148, 149, 236, 237, 238, 239, 73, 240, 241, 242, 243, 244, 245, 246, 247, 248, 249, 250, 251, 252, 253, 254, 255, 256, 257, 258, 259, 260, 261, 262, 501, 502, 503, 504, 582, 583, 584, 585, 586, 587, 588, 589, 590, 591, 592, 593, 594] (by decide +kernel) (by decide +kernel)
set_option maxRecDepth 20000 in
theorem gL_law_X4_untilAllMet : GoodIn wsL_law (wsV RL 73 RX4 yX4_untilAllMet wsX4_untilAllMet) := goodIn_app (goodIn_of _ (by decide +kernel)) ggL_law_X4_untilAllMet
set_option maxRecDepth 20000 in
theorem ggL_law_X3_put : GoodIn wsL_law wsX3_put := goodIn_r _ [508, 82, 21, 300, 185, 509, 510, 2, 511, 512, 513, 514, 515, 516, 517, 20, 518, 55, 54, 519, 577, 578, 579, 580, 581, 608, 609] (by decide +kernel) (by decide +kernel)
set_option maxRecDepth 20000 in
theorem gL_law_X3_put : GoodIn wsL_law (wsV RL 76 RX3 yX3_put wsX3_put) := goodIn_app (goodIn_of _ (by decide +kernel)) ggL_law_X3_put
set_option maxRecDepth 20000 in
theorem ggL_law_X4_put : GoodIn wsL_law wsX4_put := goodIn_r _ [523, 111, 321, 231, 74, 524, 525, 526, 5, 527, 528, 529, 118, 119, 120, 582, 583, 584, 585, 586, 587, 588, 589, 590, 591, 592, 593, 594] (by decide +kernel) (by decide +kernel)
set_option maxRecDepth 20000 in
theorem gL_law_X4_put : GoodIn wsL_law (wsV RL 80 RX4 yX4_put wsX4_put) := goodIn_app (goodIn_of _ (by decide +kernel)) ggL_law_X4_put
set_option maxRecDepth 20000 in
theorem ggL_law_X3_wipe : GoodIn wsL_law wsX3_wipe := goodIn_r _ [533, 21, 311, 312, 313, 20, 314, 55, 577, 578, 579, 580, 581, 608, 609] (by decide +kernel) (by decide +kernel)
set_option maxRecDepth 20000 in
theorem gL_law_X3_wipe : GoodIn wsL_law (wsV RL 81 RX3 yX3_wipe wsX3_wipe) := goodIn_app (goodIn_of _ (by decide +kernel)) ggL_law_X3_wipe
set_option maxRecDepth 20000 in
theorem ggL_law_X4_wipe : GoodIn wsL_law wsX4_wipe := goodIn_r _ [537, 321, 582, 583, 584, 585, 586, 587, 588, 589, 590, 591, 592, 593, 594] (by decide +kernel) (by decide +kernel)
set_option maxRecDepth 20000 in
theorem gL_law_X4_wipe : GoodIn wsL_law (wsV RL 84 RX4 yX4_wipe wsX4_wipe) := goodIn_app (goodIn_of _ (by decide +kernel)) ggL_law_X4_wipe
set_option maxRecDepth 20000 in
theorem ggL_law_X3_fault : GoodIn wsL_law wsX3_fault := goodIn_r _ [541, 21, 269, 270, 271, 20, 272, 55, 54, 273, 274, 275, 276, 277, 278, 279, 577, 578, 579, 580, 581, 608, 609] (by decide +kernel) (by decide +kernel)
set_option maxRecDepth 20000 in
theorem gL_law_X3_fault : GoodIn wsL_law (wsV RL 85 RX3 yX3_fault wsX3_fault) := goodIn_app (goodIn_of _ (by decide +kernel)) ggL_law_X3_fault
set_option maxRecDepth 20000 in
theorem ggL_law_X4_fault : GoodIn wsL_law wsX4_fault := goodIn_r _ [325, 326, 320, 321, 77, 327, 328, 329, 5, 330, 75, 115, 117, 76, 331, 332, 333, 334, 74, 335, 336, 337, 338, 118, 119, 120, 339, 340, 341, 342, 582, 583, 584, 585, 586, 587, 588, 589, 590, 591, 592, 593, 594] (by decide +kernel) (by decide +kernel)
set_option maxRecDepth 20000 in
theorem gL_law_X4_fault : GoodIn wsL_law (wsV RL 88 RX4 yX4_fault wsX4_fault) := goodIn_app (goodIn_of _ (by decide +kernel)) ggL_law_X4_fault
set_option maxRecDepth 20000 in
theorem ggL_law_X3_undo : GoodIn wsL_law wsX3_undo := goodIn_r _ [546, 25, 406, 154, 16, 547, 548, 549, 24, 550, 62, 61, 92, 93, 94, 15, 95, 32, 33, 34, 35, 36, 37, 38, 39, 40, 41, 42, 43, 45, 96, 97, 98, 99, 100, 101, 102, 103, 104, 105, 106, 577, 578, 579, 580, 581, 610, 611, 595, 596, 597, 598, 599, 600, 601, 602, 603, 604, 605, 606, 607] (by decide +kernel) (by decide +kernel)
set_option maxRecDepth 20000 in
theorem gL_law_X3_undo : GoodIn wsL_law (wsV RL 89 RX3 yX3_undo wsX3_undo) := goodIn_app (goodIn_of _ (by decide +kernel)) ggL_law_X3_undo
set_option maxRecDepth 20000 in
theorem ggL_law_X4_undo : GoodIn wsL_law wsX4_undo := goodIn_r _ [554, 125, 171, 68, 70, 582, 583, 584, 585, 586, 587, 588, 589, 590, 591, 592, 593, 594] (by decide +kernel) (by decide +kernel)
set_option maxRecDepth 20000 in
theorem gL_law_X4_undo : GoodIn wsL_law (wsV RL 92 RX4 yX4_undo wsX4_undo) := goodIn_app (goodIn_of _ (by decide +kernel)) ggL_law_X4_undo
set_option maxRecDepth 20000 in
theorem ggL_law_X3_save : GoodIn wsL_law wsX3_save := goodIn_r _ [558, 82, 26, 13, 14, 15, 16, 184, 559, 560, 2, 561, 27, 28, 29, 30, 11, 12, 31, 32, 33, 34, 35, 36, 37, 38, 39, 40, 41, 42, 43, 44, 45, 46, 47, 48, 49, 492, 93, 94, 95, 96, 97, 98, 99, 100, 101, 102, 103, 104, 105, 106, 577, 578, 579, 580, 581, 595, 596, 597, 598, 599, 600, 601, 602, 603, 604, 605, 606, 607] (by decide +kernel) (by decide +kernel)
set_option maxRecDepth 20000 in
theorem gL_law_X3_save : GoodIn wsL_law (wsV RL 93 RX3 yX3_save wsX3_save) := goodIn_app (goodIn_of _ (by decide +kernel)) ggL_law_X3_save
set_option maxRecDepth 20000 in
theorem ggL_law_X4_save : GoodIn wsL_law wsX4_save := goodIn_r _ [565, 111, 71, 68, 72, 566, 567, 5, 568, 582, 583, 584, 585, 586, 587, 588, 589, 590, 591, 592, 593, 594] (by decide +kernel) (by decide +kernel)
set_option maxRecDepth 20000 in
theorem gL_law_X4_save : GoodIn wsL_law (wsV RL 96 RX4 yX4_save wsX4_save) := goodIn_app (goodIn_of _ (by decide +kernel)) ggL_law_X4_save
set_option maxRecDepth 20000 in
theorem ggL_law_X3_restore : GoodIn wsL_law wsX3_restore := goodIn_r _ [572, 82, 26, 154, 25, 16, 184, 559, 560, 2, 561, 84, 85, 86, 24, 87, 62, 61, 88, 89, 90, 91, 92, 93, 94, 15, 95, 32, 33, 34, 35, 36, 37, 38, 39, 40, 41, 42, 43, 45, 96, 97, 98, 99, 100, 101, 102, 103, 104, 105, 106, 492, 577, 578, 579, 580, 581, 595, 596, 597, 598, 599, 600, 601, 602, 603, 604, 605, 606, 607, 610, 611] (by decide +kernel) (by decide +kernel)
set_option maxRecDepth 20000 in
theorem gL_law_X3_restore : GoodIn wsL_law (wsV RL 97 RX3 yX3_restore wsX3_restore) := goodIn_app (goodIn_of _ (by decide +kernel)) ggL_law_X3_restore
set_option maxRecDepth 20000 in
theorem ggL_law_X4_restore : GoodIn wsL_law wsX4_restore := goodIn_r _ [576, 111, 72, 171, 68, 71, 566, 567, 5, 568, 121, 122, 123, 124, 125, 70, 582, 583, 584, 585, 586, 587, 588, 589, 590, 591, 592, 593, 594] (by decide +kernel) (by decide +kernel)
set_option maxRecDepth 20000 in
theorem gL_law_X4_restore : GoodIn wsL_law (wsV RL 100 RX4 yX4_restore wsX4_restore) := goodIn_app (goodIn_of _ (by decide +kernel)) ggL_law_X4_restore
theorem dL_law_0 : decode cL_law 0 = .ok (.new 7, 3) := by decide +kernel
theorem dL_law_3 : decode cL_law 3 = .ok (.dup, 1) := by decide +kernel
theorem dL_law_4 : decode cL_law 4 = .ok (.invokespecial 9, 3) := by decide +kernel
theorem dL_law_7 : decode cL_law 7 = .ok (.astore_n 1, 1) := by decide +kernel
theorem dL_law_8 : decode cL_law 8 = .ok (.new 10, 3) := by decide +kernel
theorem dL_law_11 : decode cL_law 11 = .ok (.dup, 1) := by decide +kernel
theorem dL_law_12 : decode cL_law 12 = .ok (.invokespecial 12, 3) := by decide +kernel
theorem dL_law_15 : decode cL_law 15 = .ok (.astore_n 2, 1) := by decide +kernel
theorem dL_law_16 : decode cL_law 16 = .ok (.iconst 0, 1) := by decide +kernel
theorem dL_law_17 : decode cL_law 17 = .ok (.istore_n 3, 1) := by decide +kernel
theorem dL_law_18 : decode cL_law 18 = .ok (.iload_n 3, 1) := by decide +kernel
theorem dL_law_19 : decode cL_law 19 = .ok (.aload_n 0, 1) := by decide +kernel
theorem dL_law_20 : decode cL_law 20 = .ok (.arraylength, 1) := by decide +kernel
theorem dL_law_21 : decode cL_law 21 = .ok (.iconst 4, 1) := by decide +kernel
theorem dL_law_22 : decode cL_law 22 = .ok (.isub, 1) := by decide +kernel
theorem dL_law_23 : decode cL_law 23 = .ok (.if_icmp .gt 667, 3) := by decide +kernel
theorem dL_law_26 : decode cL_law 26 = .ok (.aload_n 0, 1) := by decide +kernel
theorem dL_law_27 : decode cL_law 27 = .ok (.iload_n 3, 1) := by decide +kernel
theorem dL_law_28 : decode cL_law 28 = .ok (.iaload, 1) := by decide +kernel
theorem dL_law_29 : decode cL_law 29 = .ok (.bipush 31, 2) := by decide +kernel
theorem dL_law_31 : decode cL_law 31 = .ok (.iand, 1) := by decide +kernel
theorem dL_law_32 : decode cL_law 32 = .ok (.tableswitch 652 0 19 #[96, 129, 172, 221, 244, 257, 290, 323, 366, 399, 422, 455, 478, 501, 514, 567, 580, 593, 606, 629], 96) := by decide +kernel
theorem dL_law_128 : decode cL_law 128 = .ok (.aload_n 1, 1) := by decide +kernel
theorem dL_law_129 : decode cL_law 129 = .ok (.aload_n 0, 1) := by decide +kernel
theorem dL_law_130 : decode cL_law 130 = .ok (.iload_n 3, 1) := by decide +kernel
theorem dL_law_131 : decode cL_law 131 = .ok (.iconst 1, 1) := by decide +kernel
theorem dL_law_132 : decode cL_law 132 = .ok (.iadd, 1) := by decide +kernel
theorem dL_law_133 : decode cL_law 133 = .ok (.iaload, 1) := by decide +kernel
theorem dL_law_134 : decode cL_law 134 = .ok (.aload_n 0, 1) := by decide +kernel
theorem dL_law_135 : decode cL_law 135 = .ok (.iload_n 3, 1) := by decide +kernel
theorem dL_law_136 : decode cL_law 136 = .ok (.iconst 2, 1) := by decide +kernel
theorem dL_law_137 : decode cL_law 137 = .ok (.iadd, 1) := by decide +kernel
theorem dL_law_138 : decode cL_law 138 = .ok (.iaload, 1) := by decide +kernel
theorem dL_law_139 : decode cL_law 139 = .ok (.invokevirtual 13, 3) := by decide +kernel
theorem dL_law_142 : decode cL_law 142 = .ok (.aload_n 2, 1) := by decide +kernel
theorem dL_law_143 : decode cL_law 143 = .ok (.aload_n 0, 1) := by decide +kernel
theorem dL_law_144 : decode cL_law 144 = .ok (.iload_n 3, 1) := by decide +kernel
theorem dL_law_145 : decode cL_law 145 = .ok (.iconst 1, 1) := by decide +kernel
theorem dL_law_146 : decode cL_law 146 = .ok (.iadd, 1) := by decide +kernel
theorem dL_law_147 : decode cL_law 147 = .ok (.iaload, 1) := by decide +kernel
theorem dL_law_148 : decode cL_law 148 = .ok (.aload_n 0, 1) := by decide +kernel
theorem dL_law_149 : decode cL_law 149 = .ok (.iload_n 3, 1) := by decide +kernel
theorem dL_law_150 : decode cL_law 150 = .ok (.iconst 2, 1) := by decide +kernel
theorem dL_law_151 : decode cL_law 151 = .ok (.iadd, 1) := by decide +kernel
theorem dL_law_152 : decode cL_law 152 = .ok (.iaload, 1) := by decide +kernel
theorem dL_law_153 : decode cL_law 153 = .ok (.invokevirtual 17, 3) := by decide +kernel
theorem dL_law_156 : decode cL_law 156 = .ok (.if_icmp .eq 528, 3) := by decide +kernel
theorem dL_law_159 : decode cL_law 159 = .ok (.iconst 0, 1) := by decide +kernel
theorem dL_law_160 : decode cL_law 160 = .ok (.ireturn, 1) := by decide +kernel
theorem dL_law_161 : decode cL_law 161 = .ok (.aload_n 1, 1) := by decide +kernel
theorem dL_law_162 : decode cL_law 162 = .ok (.aload_n 0, 1) := by decide +kernel
theorem dL_law_163 : decode cL_law 163 = .ok (.iload_n 3, 1) := by decide +kernel
theorem dL_law_164 : decode cL_law 164 = .ok (.iconst 1, 1) := by decide +kernel
theorem dL_law_165 : decode cL_law 165 = .ok (.iadd, 1) := by decide +kernel
theorem dL_law_166 : decode cL_law 166 = .ok (.iaload, 1) := by decide +kernel
theorem dL_law_167 : decode cL_law 167 = .ok (.aload_n 0, 1) := by decide +kernel
theorem dL_law_168 : decode cL_law 168 = .ok (.iload_n 3, 1) := by decide +kernel
theorem dL_law_169 : decode cL_law 169 = .ok (.iconst 2, 1) := by decide +kernel
theorem dL_law_170 : decode cL_law 170 = .ok (.iadd, 1) := by decide +kernel
theorem dL_law_171 : decode cL_law 171 = .ok (.iaload, 1) := by decide +kernel
theorem dL_law_172 : decode cL_law 172 = .ok (.aload_n 0, 1) := by decide +kernel
theorem dL_law_173 : decode cL_law 173 = .ok (.iload_n 3, 1) := by decide +kernel
theorem dL_law_174 : decode cL_law 174 = .ok (.iconst 3, 1) := by decide +kernel
theorem dL_law_175 : decode cL_law 175 = .ok (.iadd, 1) := by decide +kernel
theorem dL_law_176 : decode cL_law 176 = .ok (.iaload, 1) := by decide +kernel
theorem dL_law_177 : decode cL_law 177 = .ok (.invokevirtual 18, 3) := by decide +kernel
theorem dL_law_180 : decode cL_law 180 = .ok (.aload_n 2, 1) := by decide +kernel
theorem dL_law_181 : decode cL_law 181 = .ok (.aload_n 0, 1) := by decide +kernel
theorem dL_law_182 : decode cL_law 182 = .ok (.iload_n 3, 1) := by decide +kernel
theorem dL_law_183 : decode cL_law 183 = .ok (.iconst 1, 1) := by decide +kernel
theorem dL_law_184 : decode cL_law 184 = .ok (.iadd, 1) := by decide +kernel
theorem dL_law_185 : decode cL_law 185 = .ok (.iaload, 1) := by decide +kernel
theorem dL_law_186 : decode cL_law 186 = .ok (.aload_n 0, 1) := by decide +kernel
theorem dL_law_187 : decode cL_law 187 = .ok (.iload_n 3, 1) := by decide +kernel
theorem dL_law_188 : decode cL_law 188 = .ok (.iconst 2, 1) := by decide +kernel
theorem dL_law_189 : decode cL_law 189 = .ok (.iadd, 1) := by decide +kernel
theorem dL_law_190 : decode cL_law 190 = .ok (.iaload, 1) := by decide +kernel
theorem dL_law_191 : decode cL_law 191 = .ok (.aload_n 0, 1) := by decide +kernel
theorem dL_law_192 : decode cL_law 192 = .ok (.iload_n 3, 1) := by decide +kernel
theorem dL_law_193 : decode cL_law 193 = .ok (.iconst 3, 1) := by decide +kernel
theorem dL_law_194 : decode cL_law 194 = .ok (.iadd, 1) := by decide +kernel
theorem dL_law_195 : decode cL_law 195 = .ok (.iaload, 1) := by decide +kernel
theorem dL_law_196 : decode cL_law 196 = .ok (.invokevirtual 22, 3) := by decide +kernel
theorem dL_law_199 : decode cL_law 199 = .ok (.if_icmp .eq 485, 3) := by decide +kernel
theorem dL_law_202 : decode cL_law 202 = .ok (.iconst 0, 1) := by decide +kernel
theorem dL_law_203 : decode cL_law 203 = .ok (.ireturn, 1) := by decide +kernel
theorem dL_law_204 : decode cL_law 204 = .ok (.aload_n 1, 1) := by decide +kernel
theorem dL_law_205 : decode cL_law 205 = .ok (.aload_n 0, 1) := by decide +kernel
theorem dL_law_206 : decode cL_law 206 = .ok (.iload_n 3, 1) := by decide +kernel
theorem dL_law_207 : decode cL_law 207 = .ok (.iconst 1, 1) := by decide +kernel
theorem dL_law_208 : decode cL_law 208 = .ok (.iadd, 1) := by decide +kernel
theorem dL_law_209 : decode cL_law 209 = .ok (.iaload, 1) := by decide +kernel
theorem dL_law_210 : decode cL_law 210 = .ok (.aload_n 0, 1) := by decide +kernel
theorem dL_law_211 : decode cL_law 211 = .ok (.iload_n 3, 1) := by decide +kernel
theorem dL_law_212 : decode cL_law 212 = .ok (.iconst 2, 1) := by decide +kernel
theorem dL_law_213 : decode cL_law 213 = .ok (.iadd, 1) := by decide +kernel
theorem dL_law_214 : decode cL_law 214 = .ok (.iaload, 1) := by decide +kernel
theorem dL_law_215 : decode cL_law 215 = .ok (.ifCond .eq 7, 3) := by decide +kernel
theorem dL_law_218 : decode cL_law 218 = .ok (.iconst 1, 1) := by decide +kernel
theorem dL_law_219 : decode cL_law 219 = .ok (.goto 4, 3) := by decide +kernel
theorem dL_law_222 : decode cL_law 222 = .ok (.iconst 0, 1) := by decide +kernel
theorem dL_law_223 : decode cL_law 223 = .ok (.invokevirtual 23, 3) := by decide +kernel
theorem dL_law_226 : decode cL_law 226 = .ok (.aload_n 2, 1) := by decide +kernel
theorem dL_law_227 : decode cL_law 227 = .ok (.aload_n 0, 1) := by decide +kernel
theorem dL_law_228 : decode cL_law 228 = .ok (.iload_n 3, 1) := by decide +kernel
theorem dL_law_229 : decode cL_law 229 = .ok (.iconst 1, 1) := by decide +kernel
theorem dL_law_230 : decode cL_law 230 = .ok (.iadd, 1) := by decide +kernel
theorem dL_law_231 : decode cL_law 231 = .ok (.iaload, 1) := by decide +kernel
theorem dL_law_232 : decode cL_law 232 = .ok (.aload_n 0, 1) := by decide +kernel
theorem dL_law_233 : decode cL_law 233 = .ok (.iload_n 3, 1) := by decide +kernel
theorem dL_law_234 : decode cL_law 234 = .ok (.iconst 2, 1) := by decide +kernel
theorem dL_law_235 : decode cL_law 235 = .ok (.iadd, 1) := by decide +kernel
theorem dL_law_236 : decode cL_law 236 = .ok (.iaload, 1) := by decide +kernel
theorem dL_law_237 : decode cL_law 237 = .ok (.ifCond .eq 7, 3) := by decide +kernel
theorem dL_law_240 : decode cL_law 240 = .ok (.iconst 1, 1) := by decide +kernel
theorem dL_law_241 : decode cL_law 241 = .ok (.goto 4, 3) := by decide +kernel
theorem dL_law_244 : decode cL_law 244 = .ok (.iconst 0, 1) := by decide +kernel
theorem dL_law_245 : decode cL_law 245 = .ok (.invokevirtual 27, 3) := by decide +kernel
theorem dL_law_248 : decode cL_law 248 = .ok (.if_icmp .eq 436, 3) := by decide +kernel
theorem dL_law_251 : decode cL_law 251 = .ok (.iconst 0, 1) := by decide +kernel
theorem dL_law_252 : decode cL_law 252 = .ok (.ireturn, 1) := by decide +kernel
theorem dL_law_253 : decode cL_law 253 = .ok (.aload_n 1, 1) := by decide +kernel
theorem dL_law_254 : decode cL_law 254 = .ok (.aload_n 0, 1) := by decide +kernel
theorem dL_law_255 : decode cL_law 255 = .ok (.iload_n 3, 1) := by decide +kernel
theorem dL_law_256 : decode cL_law 256 = .ok (.iconst 1, 1) := by decide +kernel
theorem dL_law_257 : decode cL_law 257 = .ok (.iadd, 1) := by decide +kernel
theorem dL_law_258 : decode cL_law 258 = .ok (.iaload, 1) := by decide +kernel
theorem dL_law_259 : decode cL_law 259 = .ok (.invokevirtual 28, 3) := by decide +kernel
theorem dL_law_262 : decode cL_law 262 = .ok (.aload_n 2, 1) := by decide +kernel
theorem dL_law_263 : decode cL_law 263 = .ok (.aload_n 0, 1) := by decide +kernel
theorem dL_law_264 : decode cL_law 264 = .ok (.iload_n 3, 1) := by decide +kernel
theorem dL_law_265 : decode cL_law 265 = .ok (.iconst 1, 1) := by decide +kernel
theorem dL_law_266 : decode cL_law 266 = .ok (.iadd, 1) := by decide +kernel
theorem dL_law_267 : decode cL_law 267 = .ok (.iaload, 1) := by decide +kernel
theorem dL_law_268 : decode cL_law 268 = .ok (.invokevirtual 32, 3) := by decide +kernel
theorem dL_law_271 : decode cL_law 271 = .ok (.if_icmp .eq 413, 3) := by decide +kernel
theorem dL_law_274 : decode cL_law 274 = .ok (.iconst 0, 1) := by decide +kernel
theorem dL_law_275 : decode cL_law 275 = .ok (.ireturn, 1) := by decide +kernel
theorem dL_law_276 : decode cL_law 276 = .ok (.aload_n 1, 1) := by decide +kernel
theorem dL_law_277 : decode cL_law 277 = .ok (.invokevirtual 33, 3) := by decide +kernel
theorem dL_law_280 : decode cL_law 280 = .ok (.aload_n 2, 1) := by decide +kernel
theorem dL_law_281 : decode cL_law 281 = .ok (.invokevirtual 37, 3) := by decide +kernel
theorem dL_law_284 : decode cL_law 284 = .ok (.if_icmp .eq 400, 3) := by decide +kernel
theorem dL_law_287 : decode cL_law 287 = .ok (.iconst 0, 1) := by decide +kernel
theorem dL_law_288 : decode cL_law 288 = .ok (.ireturn, 1) := by decide +kernel
theorem dL_law_289 : decode cL_law 289 = .ok (.aload_n 1, 1) := by decide +kernel
theorem dL_law_290 : decode cL_law 290 = .ok (.aload_n 0, 1) := by decide +kernel
theorem dL_law_291 : decode cL_law 291 = .ok (.iload_n 3, 1) := by decide +kernel
theorem dL_law_292 : decode cL_law 292 = .ok (.iconst 1, 1) := by decide +kernel
theorem dL_law_293 : decode cL_law 293 = .ok (.iadd, 1) := by decide +kernel
theorem dL_law_294 : decode cL_law 294 = .ok (.iaload, 1) := by decide +kernel
theorem dL_law_295 : decode cL_law 295 = .ok (.aload_n 0, 1) := by decide +kernel
theorem dL_law_296 : decode cL_law 296 = .ok (.iload_n 3, 1) := by decide +kernel
theorem dL_law_297 : decode cL_law 297 = .ok (.iconst 2, 1) := by decide +kernel
theorem dL_law_298 : decode cL_law 298 = .ok (.iadd, 1) := by decide +kernel
theorem dL_law_299 : decode cL_law 299 = .ok (.iaload, 1) := by decide +kernel
theorem dL_law_300 : decode cL_law 300 = .ok (.invokevirtual 38, 3) := by decide +kernel
theorem dL_law_303 : decode cL_law 303 = .ok (.aload_n 2, 1) := by decide +kernel
theorem dL_law_304 : decode cL_law 304 = .ok (.aload_n 0, 1) := by decide +kernel
theorem dL_law_305 : decode cL_law 305 = .ok (.iload_n 3, 1) := by decide +kernel
theorem dL_law_306 : decode cL_law 306 = .ok (.iconst 1, 1) := by decide +kernel
theorem dL_law_307 : decode cL_law 307 = .ok (.iadd, 1) := by decide +kernel
theorem dL_law_308 : decode cL_law 308 = .ok (.iaload, 1) := by decide +kernel
theorem dL_law_309 : decode cL_law 309 = .ok (.aload_n 0, 1) := by decide +kernel
theorem dL_law_310 : decode cL_law 310 = .ok (.iload_n 3, 1) := by decide +kernel
theorem dL_law_311 : decode cL_law 311 = .ok (.iconst 2, 1) := by decide +kernel
theorem dL_law_312 : decode cL_law 312 = .ok (.iadd, 1) := by decide +kernel
theorem dL_law_313 : decode cL_law 313 = .ok (.iaload, 1) := by decide +kernel
theorem dL_law_314 : decode cL_law 314 = .ok (.invokevirtual 41, 3) := by decide +kernel
theorem dL_law_317 : decode cL_law 317 = .ok (.if_icmp .eq 367, 3) := by decide +kernel
theorem dL_law_320 : decode cL_law 320 = .ok (.iconst 0, 1) := by decide +kernel
theorem dL_law_321 : decode cL_law 321 = .ok (.ireturn, 1) := by decide +kernel
theorem dL_law_322 : decode cL_law 322 = .ok (.aload_n 1, 1) := by decide +kernel
theorem dL_law_323 : decode cL_law 323 = .ok (.aload_n 0, 1) := by decide +kernel
theorem dL_law_324 : decode cL_law 324 = .ok (.iload_n 3, 1) := by decide +kernel
theorem dL_law_325 : decode cL_law 325 = .ok (.iconst 1, 1) := by decide +kernel
theorem dL_law_326 : decode cL_law 326 = .ok (.iadd, 1) := by decide +kernel
theorem dL_law_327 : decode cL_law 327 = .ok (.iaload, 1) := by decide +kernel
theorem dL_law_328 : decode cL_law 328 = .ok (.aload_n 0, 1) := by decide +kernel
theorem dL_law_329 : decode cL_law 329 = .ok (.iload_n 3, 1) := by decide +kernel
theorem dL_law_330 : decode cL_law 330 = .ok (.iconst 2, 1) := by decide +kernel
theorem dL_law_331 : decode cL_law 331 = .ok (.iadd, 1) := by decide +kernel
theorem dL_law_332 : decode cL_law 332 = .ok (.iaload, 1) := by decide +kernel
theorem dL_law_333 : decode cL_law 333 = .ok (.invokevirtual 42, 3) := by decide +kernel
theorem dL_law_336 : decode cL_law 336 = .ok (.aload_n 2, 1) := by decide +kernel
theorem dL_law_337 : decode cL_law 337 = .ok (.aload_n 0, 1) := by decide +kernel
theorem dL_law_338 : decode cL_law 338 = .ok (.iload_n 3, 1) := by decide +kernel
theorem dL_law_339 : decode cL_law 339 = .ok (.iconst 1, 1) := by decide +kernel
theorem dL_law_340 : decode cL_law 340 = .ok (.iadd, 1) := by decide +kernel
theorem dL_law_341 : decode cL_law 341 = .ok (.iaload, 1) := by decide +kernel
theorem dL_law_342 : decode cL_law 342 = .ok (.aload_n 0, 1) := by decide +kernel
theorem dL_law_343 : decode cL_law 343 = .ok (.iload_n 3, 1) := by decide +kernel
theorem dL_law_344 : decode cL_law 344 = .ok (.iconst 2, 1) := by decide +kernel
theorem dL_law_345 : decode cL_law 345 = .ok (.iadd, 1) := by decide +kernel
theorem dL_law_346 : decode cL_law 346 = .ok (.iaload, 1) := by decide +kernel
theorem dL_law_347 : decode cL_law 347 = .ok (.invokevirtual 45, 3) := by decide +kernel
theorem dL_law_350 : decode cL_law 350 = .ok (.if_icmp .eq 334, 3) := by decide +kernel
theorem dL_law_353 : decode cL_law 353 = .ok (.iconst 0, 1) := by decide +kernel
theorem dL_law_354 : decode cL_law 354 = .ok (.ireturn, 1) := by decide +kernel
theorem dL_law_355 : decode cL_law 355 = .ok (.aload_n 1, 1) := by decide +kernel
theorem dL_law_356 : decode cL_law 356 = .ok (.aload_n 0, 1) := by decide +kernel
theorem dL_law_357 : decode cL_law 357 = .ok (.iload_n 3, 1) := by decide +kernel
theorem dL_law_358 : decode cL_law 358 = .ok (.iconst 1, 1) := by decide +kernel
theorem dL_law_359 : decode cL_law 359 = .ok (.iadd, 1) := by decide +kernel
theorem dL_law_360 : decode cL_law 360 = .ok (.iaload, 1) := by decide +kernel
theorem dL_law_361 : decode cL_law 361 = .ok (.aload_n 0, 1) := by decide +kernel
theorem dL_law_362 : decode cL_law 362 = .ok (.iload_n 3, 1) := by decide +kernel
theorem dL_law_363 : decode cL_law 363 = .ok (.iconst 2, 1) := by decide +kernel
theorem dL_law_364 : decode cL_law 364 = .ok (.iadd, 1) := by decide +kernel
theorem dL_law_365 : decode cL_law 365 = .ok (.iaload, 1) := by decide +kernel
theorem dL_law_366 : decode cL_law 366 = .ok (.aload_n 0, 1) := by decide +kernel
theorem dL_law_367 : decode cL_law 367 = .ok (.iload_n 3, 1) := by decide +kernel
theorem dL_law_368 : decode cL_law 368 = .ok (.iconst 3, 1) := by decide +kernel
theorem dL_law_369 : decode cL_law 369 = .ok (.iadd, 1) := by decide +kernel
theorem dL_law_370 : decode cL_law 370 = .ok (.iaload, 1) := by decide +kernel
theorem dL_law_371 : decode cL_law 371 = .ok (.invokevirtual 46, 3) := by decide +kernel
theorem dL_law_374 : decode cL_law 374 = .ok (.aload_n 2, 1) := by decide +kernel
theorem dL_law_375 : decode cL_law 375 = .ok (.aload_n 0, 1) := by decide +kernel
theorem dL_law_376 : decode cL_law 376 = .ok (.iload_n 3, 1) := by decide +kernel
theorem dL_law_377 : decode cL_law 377 = .ok (.iconst 1, 1) := by decide +kernel
theorem dL_law_378 : decode cL_law 378 = .ok (.iadd, 1) := by decide +kernel
theorem dL_law_379 : decode cL_law 379 = .ok (.iaload, 1) := by decide +kernel
theorem dL_law_380 : decode cL_law 380 = .ok (.aload_n 0, 1) := by decide +kernel
theorem dL_law_381 : decode cL_law 381 = .ok (.iload_n 3, 1) := by decide +kernel
theorem dL_law_382 : decode cL_law 382 = .ok (.iconst 2, 1) := by decide +kernel
theorem dL_law_383 : decode cL_law 383 = .ok (.iadd, 1) := by decide +kernel
theorem dL_law_384 : decode cL_law 384 = .ok (.iaload, 1) := by decide +kernel
theorem dL_law_385 : decode cL_law 385 = .ok (.aload_n 0, 1) := by decide +kernel
theorem dL_law_386 : decode cL_law 386 = .ok (.iload_n 3, 1) := by decide +kernel
theorem dL_law_387 : decode cL_law 387 = .ok (.iconst 3, 1) := by decide +kernel
theorem dL_law_388 : decode cL_law 388 = .ok (.iadd, 1) := by decide +kernel
theorem dL_law_389 : decode cL_law 389 = .ok (.iaload, 1) := by decide +kernel
theorem dL_law_390 : decode cL_law 390 = .ok (.invokevirtual 49, 3) := by decide +kernel
theorem dL_law_393 : decode cL_law 393 = .ok (.if_icmp .eq 291, 3) := by decide +kernel
theorem dL_law_396 : decode cL_law 396 = .ok (.iconst 0, 1) := by decide +kernel
theorem dL_law_397 : decode cL_law 397 = .ok (.ireturn, 1) := by decide +kernel
theorem dL_law_398 : decode cL_law 398 = .ok (.aload_n 1, 1) := by decide +kernel
theorem dL_law_399 : decode cL_law 399 = .ok (.aload_n 0, 1) := by decide +kernel
theorem dL_law_400 : decode cL_law 400 = .ok (.iload_n 3, 1) := by decide +kernel
theorem dL_law_401 : decode cL_law 401 = .ok (.iconst 1, 1) := by decide +kernel
theorem dL_law_402 : decode cL_law 402 = .ok (.iadd, 1) := by decide +kernel
theorem dL_law_403 : decode cL_law 403 = .ok (.iaload, 1) := by decide +kernel
theorem dL_law_404 : decode cL_law 404 = .ok (.aload_n 0, 1) := by decide +kernel
theorem dL_law_405 : decode cL_law 405 = .ok (.iload_n 3, 1) := by decide +kernel
theorem dL_law_406 : decode cL_law 406 = .ok (.iconst 2, 1) := by decide +kernel
theorem dL_law_407 : decode cL_law 407 = .ok (.iadd, 1) := by decide +kernel
theorem dL_law_408 : decode cL_law 408 = .ok (.iaload, 1) := by decide +kernel
theorem dL_law_409 : decode cL_law 409 = .ok (.invokevirtual 50, 3) := by decide +kernel
theorem dL_law_412 : decode cL_law 412 = .ok (.aload_n 2, 1) := by decide +kernel
theorem dL_law_413 : decode cL_law 413 = .ok (.aload_n 0, 1) := by decide +kernel
theorem dL_law_414 : decode cL_law 414 = .ok (.iload_n 3, 1) := by decide +kernel
theorem dL_law_415 : decode cL_law 415 = .ok (.iconst 1, 1) := by decide +kernel
theorem dL_law_416 : decode cL_law 416 = .ok (.iadd, 1) := by decide +kernel
theorem dL_law_417 : decode cL_law 417 = .ok (.iaload, 1) := by decide +kernel
theorem dL_law_418 : decode cL_law 418 = .ok (.aload_n 0, 1) := by decide +kernel
theorem dL_law_419 : decode cL_law 419 = .ok (.iload_n 3, 1) := by decide +kernel
theorem dL_law_420 : decode cL_law 420 = .ok (.iconst 2, 1) := by decide +kernel
theorem dL_law_421 : decode cL_law 421 = .ok (.iadd, 1) := by decide +kernel
theorem dL_law_422 : decode cL_law 422 = .ok (.iaload, 1) := by decide +kernel
theorem dL_law_423 : decode cL_law 423 = .ok (.invokevirtual 53, 3) := by decide +kernel
theorem dL_law_426 : decode cL_law 426 = .ok (.if_icmp .eq 258, 3) := by decide +kernel
theorem dL_law_429 : decode cL_law 429 = .ok (.iconst 0, 1) := by decide +kernel
theorem dL_law_430 : decode cL_law 430 = .ok (.ireturn, 1) := by decide +kernel
theorem dL_law_431 : decode cL_law 431 = .ok (.aload_n 1, 1) := by decide +kernel
theorem dL_law_432 : decode cL_law 432 = .ok (.aload_n 0, 1) := by decide +kernel
theorem dL_law_433 : decode cL_law 433 = .ok (.iload_n 3, 1) := by decide +kernel
theorem dL_law_434 : decode cL_law 434 = .ok (.iconst 1, 1) := by decide +kernel
theorem dL_law_435 : decode cL_law 435 = .ok (.iadd, 1) := by decide +kernel
theorem dL_law_436 : decode cL_law 436 = .ok (.iaload, 1) := by decide +kernel
theorem dL_law_437 : decode cL_law 437 = .ok (.invokevirtual 54, 3) := by decide +kernel
theorem dL_law_440 : decode cL_law 440 = .ok (.aload_n 2, 1) := by decide +kernel
theorem dL_law_441 : decode cL_law 441 = .ok (.aload_n 0, 1) := by decide +kernel
theorem dL_law_442 : decode cL_law 442 = .ok (.iload_n 3, 1) := by decide +kernel
theorem dL_law_443 : decode cL_law 443 = .ok (.iconst 1, 1) := by decide +kernel
theorem dL_law_444 : decode cL_law 444 = .ok (.iadd, 1) := by decide +kernel
theorem dL_law_445 : decode cL_law 445 = .ok (.iaload, 1) := by decide +kernel
theorem dL_law_446 : decode cL_law 446 = .ok (.invokevirtual 57, 3) := by decide +kernel
theorem dL_law_449 : decode cL_law 449 = .ok (.if_icmp .eq 235, 3) := by decide +kernel
theorem dL_law_452 : decode cL_law 452 = .ok (.iconst 0, 1) := by decide +kernel
theorem dL_law_453 : decode cL_law 453 = .ok (.ireturn, 1) := by decide +kernel
theorem dL_law_454 : decode cL_law 454 = .ok (.aload_n 1, 1) := by decide +kernel
theorem dL_law_455 : decode cL_law 455 = .ok (.aload_n 0, 1) := by decide +kernel
theorem dL_law_456 : decode cL_law 456 = .ok (.iload_n 3, 1) := by decide +kernel
theorem dL_law_457 : decode cL_law 457 = .ok (.iconst 1, 1) := by decide +kernel
theorem dL_law_458 : decode cL_law 458 = .ok (.iadd, 1) := by decide +kernel
theorem dL_law_459 : decode cL_law 459 = .ok (.iaload, 1) := by decide +kernel
theorem dL_law_460 : decode cL_law 460 = .ok (.aload_n 0, 1) := by decide +kernel
theorem dL_law_461 : decode cL_law 461 = .ok (.iload_n 3, 1) := by decide +kernel
theorem dL_law_462 : decode cL_law 462 = .ok (.iconst 2, 1) := by decide +kernel
theorem dL_law_463 : decode cL_law 463 = .ok (.iadd, 1) := by decide +kernel
theorem dL_law_464 : decode cL_law 464 = .ok (.iaload, 1) := by decide +kernel
theorem dL_law_465 : decode cL_law 465 = .ok (.invokevirtual 58, 3) := by decide +kernel
theorem dL_law_468 : decode cL_law 468 = .ok (.aload_n 2, 1) := by decide +kernel
theorem dL_law_469 : decode cL_law 469 = .ok (.aload_n 0, 1) := by decide +kernel
theorem dL_law_470 : decode cL_law 470 = .ok (.iload_n 3, 1) := by decide +kernel
theorem dL_law_471 : decode cL_law 471 = .ok (.iconst 1, 1) := by decide +kernel
theorem dL_law_472 : decode cL_law 472 = .ok (.iadd, 1) := by decide +kernel
theorem dL_law_473 : decode cL_law 473 = .ok (.iaload, 1) := by decide +kernel
theorem dL_law_474 : decode cL_law 474 = .ok (.aload_n 0, 1) := by decide +kernel
theorem dL_law_475 : decode cL_law 475 = .ok (.iload_n 3, 1) := by decide +kernel
theorem dL_law_476 : decode cL_law 476 = .ok (.iconst 2, 1) := by decide +kernel
theorem dL_law_477 : decode cL_law 477 = .ok (.iadd, 1) := by decide +kernel
theorem dL_law_478 : decode cL_law 478 = .ok (.iaload, 1) := by decide +kernel
theorem dL_law_479 : decode cL_law 479 = .ok (.invokevirtual 61, 3) := by decide +kernel
theorem dL_law_482 : decode cL_law 482 = .ok (.if_icmp .eq 202, 3) := by decide +kernel
theorem dL_law_485 : decode cL_law 485 = .ok (.iconst 0, 1) := by decide +kernel
theorem dL_law_486 : decode cL_law 486 = .ok (.ireturn, 1) := by decide +kernel
theorem dL_law_487 : decode cL_law 487 = .ok (.aload_n 1, 1) := by decide +kernel
theorem dL_law_488 : decode cL_law 488 = .ok (.aload_n 0, 1) := by decide +kernel
theorem dL_law_489 : decode cL_law 489 = .ok (.iload_n 3, 1) := by decide +kernel
theorem dL_law_490 : decode cL_law 490 = .ok (.iconst 1, 1) := by decide +kernel
theorem dL_law_491 : decode cL_law 491 = .ok (.iadd, 1) := by decide +kernel
theorem dL_law_492 : decode cL_law 492 = .ok (.iaload, 1) := by decide +kernel
theorem dL_law_493 : decode cL_law 493 = .ok (.invokevirtual 62, 3) := by decide +kernel
theorem dL_law_496 : decode cL_law 496 = .ok (.aload_n 2, 1) := by decide +kernel
theorem dL_law_497 : decode cL_law 497 = .ok (.aload_n 0, 1) := by decide +kernel
theorem dL_law_498 : decode cL_law 498 = .ok (.iload_n 3, 1) := by decide +kernel
theorem dL_law_499 : decode cL_law 499 = .ok (.iconst 1, 1) := by decide +kernel
theorem dL_law_500 : decode cL_law 500 = .ok (.iadd, 1) := by decide +kernel
theorem dL_law_501 : decode cL_law 501 = .ok (.iaload, 1) := by decide +kernel
theorem dL_law_502 : decode cL_law 502 = .ok (.invokevirtual 65, 3) := by decide +kernel
theorem dL_law_505 : decode cL_law 505 = .ok (.if_icmp .eq 179, 3) := by decide +kernel
theorem dL_law_508 : decode cL_law 508 = .ok (.iconst 0, 1) := by decide +kernel
theorem dL_law_509 : decode cL_law 509 = .ok (.ireturn, 1) := by decide +kernel
theorem dL_law_510 : decode cL_law 510 = .ok (.aload_n 1, 1) := by decide +kernel
theorem dL_law_511 : decode cL_law 511 = .ok (.aload_n 0, 1) := by decide +kernel
theorem dL_law_512 : decode cL_law 512 = .ok (.iload_n 3, 1) := by decide +kernel
theorem dL_law_513 : decode cL_law 513 = .ok (.iconst 1, 1) := by decide +kernel
theorem dL_law_514 : decode cL_law 514 = .ok (.iadd, 1) := by decide +kernel
theorem dL_law_515 : decode cL_law 515 = .ok (.iaload, 1) := by decide +kernel
theorem dL_law_516 : decode cL_law 516 = .ok (.invokevirtual 66, 3) := by decide +kernel
theorem dL_law_519 : decode cL_law 519 = .ok (.aload_n 2, 1) := by decide +kernel
theorem dL_law_520 : decode cL_law 520 = .ok (.aload_n 0, 1) := by decide +kernel
theorem dL_law_521 : decode cL_law 521 = .ok (.iload_n 3, 1) := by decide +kernel
theorem dL_law_522 : decode cL_law 522 = .ok (.iconst 1, 1) := by decide +kernel
theorem dL_law_523 : decode cL_law 523 = .ok (.iadd, 1) := by decide +kernel
theorem dL_law_524 : decode cL_law 524 = .ok (.iaload, 1) := by decide +kernel
theorem dL_law_525 : decode cL_law 525 = .ok (.invokevirtual 69, 3) := by decide +kernel
theorem dL_law_528 : decode cL_law 528 = .ok (.if_icmp .eq 156, 3) := by decide +kernel
theorem dL_law_531 : decode cL_law 531 = .ok (.iconst 0, 1) := by decide +kernel
theorem dL_law_532 : decode cL_law 532 = .ok (.ireturn, 1) := by decide +kernel
theorem dL_law_533 : decode cL_law 533 = .ok (.aload_n 1, 1) := by decide +kernel
theorem dL_law_534 : decode cL_law 534 = .ok (.invokevirtual 70, 3) := by decide +kernel
theorem dL_law_537 : decode cL_law 537 = .ok (.aload_n 2, 1) := by decide +kernel
theorem dL_law_538 : decode cL_law 538 = .ok (.invokevirtual 73, 3) := by decide +kernel
theorem dL_law_541 : decode cL_law 541 = .ok (.if_icmp .eq 143, 3) := by decide +kernel
theorem dL_law_544 : decode cL_law 544 = .ok (.iconst 0, 1) := by decide +kernel
theorem dL_law_545 : decode cL_law 545 = .ok (.ireturn, 1) := by decide +kernel
theorem dL_law_546 : decode cL_law 546 = .ok (.aload_n 1, 1) := by decide +kernel
theorem dL_law_547 : decode cL_law 547 = .ok (.aload_n 0, 1) := by decide +kernel
theorem dL_law_548 : decode cL_law 548 = .ok (.iload_n 3, 1) := by decide +kernel
theorem dL_law_549 : decode cL_law 549 = .ok (.iconst 1, 1) := by decide +kernel
theorem dL_law_550 : decode cL_law 550 = .ok (.iadd, 1) := by decide +kernel
theorem dL_law_551 : decode cL_law 551 = .ok (.iaload, 1) := by decide +kernel
theorem dL_law_552 : decode cL_law 552 = .ok (.i2l, 1) := by decide +kernel
theorem dL_law_553 : decode cL_law 553 = .ok (.bipush 32, 2) := by decide +kernel
theorem dL_law_555 : decode cL_law 555 = .ok (.lshl, 1) := by decide +kernel
theorem dL_law_556 : decode cL_law 556 = .ok (.aload_n 0, 1) := by decide +kernel
theorem dL_law_557 : decode cL_law 557 = .ok (.iload_n 3, 1) := by decide +kernel
theorem dL_law_558 : decode cL_law 558 = .ok (.iconst 2, 1) := by decide +kernel
theorem dL_law_559 : decode cL_law 559 = .ok (.iadd, 1) := by decide +kernel
theorem dL_law_560 : decode cL_law 560 = .ok (.iaload, 1) := by decide +kernel
theorem dL_law_561 : decode cL_law 561 = .ok (.i2l, 1) := by decide +kernel
theorem dL_law_562 : decode cL_law 562 = .ok (.ldc2_w 74, 3) := by decide +kernel
theorem dL_law_565 : decode cL_law 565 = .ok (.land, 1) := by decide +kernel
theorem dL_law_566 : decode cL_law 566 = .ok (.lor, 1) := by decide +kernel
theorem dL_law_567 : decode cL_law 567 = .ok (.invokevirtual 76, 3) := by decide +kernel
theorem dL_law_570 : decode cL_law 570 = .ok (.aload_n 2, 1) := by decide +kernel
theorem dL_law_571 : decode cL_law 571 = .ok (.aload_n 0, 1) := by decide +kernel
theorem dL_law_572 : decode cL_law 572 = .ok (.iload_n 3, 1) := by decide +kernel
theorem dL_law_573 : decode cL_law 573 = .ok (.iconst 1, 1) := by decide +kernel
theorem dL_law_574 : decode cL_law 574 = .ok (.iadd, 1) := by decide +kernel
theorem dL_law_575 : decode cL_law 575 = .ok (.iaload, 1) := by decide +kernel
theorem dL_law_576 : decode cL_law 576 = .ok (.i2l, 1) := by decide +kernel
theorem dL_law_577 : decode cL_law 577 = .ok (.bipush 32, 2) := by decide +kernel
theorem dL_law_579 : decode cL_law 579 = .ok (.lshl, 1) := by decide +kernel
theorem dL_law_580 : decode cL_law 580 = .ok (.aload_n 0, 1) := by decide +kernel
theorem dL_law_581 : decode cL_law 581 = .ok (.iload_n 3, 1) := by decide +kernel
theorem dL_law_582 : decode cL_law 582 = .ok (.iconst 2, 1) := by decide +kernel
theorem dL_law_583 : decode cL_law 583 = .ok (.iadd, 1) := by decide +kernel
theorem dL_law_584 : decode cL_law 584 = .ok (.iaload, 1) := by decide +kernel
theorem dL_law_585 : decode cL_law 585 = .ok (.i2l, 1) := by decide +kernel
theorem dL_law_586 : decode cL_law 586 = .ok (.ldc2_w 74, 3) := by decide +kernel
theorem dL_law_589 : decode cL_law 589 = .ok (.land, 1) := by decide +kernel
theorem dL_law_590 : decode cL_law 590 = .ok (.lor, 1) := by decide +kernel
theorem dL_law_591 : decode cL_law 591 = .ok (.invokevirtual 80, 3) := by decide +kernel
theorem dL_law_594 : decode cL_law 594 = .ok (.if_icmp .eq 90, 3) := by decide +kernel
theorem dL_law_597 : decode cL_law 597 = .ok (.iconst 0, 1) := by decide +kernel
theorem dL_law_598 : decode cL_law 598 = .ok (.ireturn, 1) := by decide +kernel
theorem dL_law_599 : decode cL_law 599 = .ok (.aload_n 1, 1) := by decide +kernel
theorem dL_law_600 : decode cL_law 600 = .ok (.invokevirtual 81, 3) := by decide +kernel
theorem dL_law_603 : decode cL_law 603 = .ok (.aload_n 2, 1) := by decide +kernel
theorem dL_law_604 : decode cL_law 604 = .ok (.invokevirtual 84, 3) := by decide +kernel
theorem dL_law_607 : decode cL_law 607 = .ok (.if_icmp .eq 77, 3) := by decide +kernel
theorem dL_law_610 : decode cL_law 610 = .ok (.iconst 0, 1) := by decide +kernel
theorem dL_law_611 : decode cL_law 611 = .ok (.ireturn, 1) := by decide +kernel
theorem dL_law_612 : decode cL_law 612 = .ok (.aload_n 1, 1) := by decide +kernel
theorem dL_law_613 : decode cL_law 613 = .ok (.invokevirtual 85, 3) := by decide +kernel
theorem dL_law_616 : decode cL_law 616 = .ok (.aload_n 2, 1) := by decide +kernel
theorem dL_law_617 : decode cL_law 617 = .ok (.invokevirtual 88, 3) := by decide +kernel
theorem dL_law_620 : decode cL_law 620 = .ok (.if_icmp .eq 64, 3) := by decide +kernel
theorem dL_law_623 : decode cL_law 623 = .ok (.iconst 0, 1) := by decide +kernel
theorem dL_law_624 : decode cL_law 624 = .ok (.ireturn, 1) := by decide +kernel
theorem dL_law_625 : decode cL_law 625 = .ok (.aload_n 1, 1) := by decide +kernel
theorem dL_law_626 : decode cL_law 626 = .ok (.invokevirtual 89, 3) := by decide +kernel
theorem dL_law_629 : decode cL_law 629 = .ok (.aload_n 2, 1) := by decide +kernel
theorem dL_law_630 : decode cL_law 630 = .ok (.invokevirtual 92, 3) := by decide +kernel
theorem dL_law_633 : decode cL_law 633 = .ok (.if_icmp .eq 51, 3) := by decide +kernel
theorem dL_law_636 : decode cL_law 636 = .ok (.iconst 0, 1) := by decide +kernel
theorem dL_law_637 : decode cL_law 637 = .ok (.ireturn, 1) := by decide +kernel
theorem dL_law_638 : decode cL_law 638 = .ok (.aload_n 1, 1) := by decide +kernel
theorem dL_law_639 : decode cL_law 639 = .ok (.aload_n 0, 1) := by decide +kernel
theorem dL_law_640 : decode cL_law 640 = .ok (.iload_n 3, 1) := by decide +kernel
theorem dL_law_641 : decode cL_law 641 = .ok (.iconst 1, 1) := by decide +kernel
theorem dL_law_642 : decode cL_law 642 = .ok (.iadd, 1) := by decide +kernel
theorem dL_law_643 : decode cL_law 643 = .ok (.iaload, 1) := by decide +kernel
theorem dL_law_644 : decode cL_law 644 = .ok (.invokevirtual 93, 3) := by decide +kernel
theorem dL_law_647 : decode cL_law 647 = .ok (.aload_n 2, 1) := by decide +kernel
theorem dL_law_648 : decode cL_law 648 = .ok (.aload_n 0, 1) := by decide +kernel
theorem dL_law_649 : decode cL_law 649 = .ok (.iload_n 3, 1) := by decide +kernel
theorem dL_law_650 : decode cL_law 650 = .ok (.iconst 1, 1) := by decide +kernel
theorem dL_law_651 : decode cL_law 651 = .ok (.iadd, 1) := by decide +kernel
theorem dL_law_652 : decode cL_law 652 = .ok (.iaload, 1) := by decide +kernel
theorem dL_law_653 : decode cL_law 653 = .ok (.invokevirtual 96, 3) := by decide +kernel
theorem dL_law_656 : decode cL_law 656 = .ok (.if_icmp .eq 28, 3) := by decide +kernel
theorem dL_law_659 : decode cL_law 659 = .ok (.iconst 0, 1) := by decide +kernel
theorem dL_law_660 : decode cL_law 660 = .ok (.ireturn, 1) := by decide +kernel
theorem dL_law_661 : decode cL_law 661 = .ok (.aload_n 1, 1) := by decide +kernel
theorem dL_law_662 : decode cL_law 662 = .ok (.aload_n 0, 1) := by decide +kernel
theorem dL_law_663 : decode cL_law 663 = .ok (.iload_n 3, 1) := by decide +kernel
theorem dL_law_664 : decode cL_law 664 = .ok (.iconst 1, 1) := by decide +kernel
theorem dL_law_665 : decode cL_law 665 = .ok (.iadd, 1) := by decide +kernel
theorem dL_law_666 : decode cL_law 666 = .ok (.iaload, 1) := by decide +kernel
theorem dL_law_667 : decode cL_law 667 = .ok (.invokevirtual 97, 3) := by decide +kernel
theorem dL_law_670 : decode cL_law 670 = .ok (.aload_n 2, 1) := by decide +kernel
theorem dL_law_671 : decode cL_law 671 = .ok (.aload_n 0, 1) := by decide +kernel
theorem dL_law_672 : decode cL_law 672 = .ok (.iload_n 3, 1) := by decide +kernel
theorem dL_law_673 : decode cL_law 673 = .ok (.iconst 1, 1) := by decide +kernel
theorem dL_law_674 : decode cL_law 674 = .ok (.iadd, 1) := by decide +kernel
theorem dL_law_675 : decode cL_law 675 = .ok (.iaload, 1) := by decide +kernel
theorem dL_law_676 : decode cL_law 676 = .ok (.invokevirtual 100, 3) := by decide +kernel
theorem dL_law_679 : decode cL_law 679 = .ok (.if_icmp .eq 5, 3) := by decide +kernel
theorem dL_law_682 : decode cL_law 682 = .ok (.iconst 0, 1) := by decide +kernel
theorem dL_law_683 : decode cL_law 683 = .ok (.ireturn, 1) := by decide +kernel
theorem dL_law_684 : decode cL_law 684 = .ok (.iinc 3 4, 3) := by decide +kernel
theorem dL_law_687 : decode cL_law 687 = .ok (.goto (-669), 3) := by decide +kernel
theorem dL_law_690 : decode cL_law 690 = .ok (.iconst 1, 1) := by decide +kernel
theorem dL_law_691 : decode cL_law 691 = .ok (.ireturn, 1) := by decide +kernel
abbrev vwCl : List vw_C := [(RX0, TX0, 2), (RX1, TX1, 2), (RX2, TX2, 13), (RX3, TX3, 5), (RX4, TX4, 13)]
end
section
/-! MY LAYER: a method's contract in one form, its entry, its calls, its ends -/
abbrev YY : Type := ClassId × ClassId × ClassId
def ytys (Y : YY) : List (ClassId × FieldType) := [(Y.1, .int), (Y.2.1, .char), (Y.2.2, .object "NineDancers$Ring")]
def KN (U : State) : Prop := va_Nw (.methodLinkNest RX3 21 yX1_init "NineDancers") U ∧ va_Nw (.methodLinkNest RX2 75 yX3_counterpart "NineDancers") U ∧ va_Nw (.methodLinkNest RX2 107 yX3_pairIndex "NineDancers") U ∧ va_Nw (.methodLinkNest RX2 93 yX3_remainderOf "NineDancers") U
theorem KN.warm {s U : State} (hW : s.WarmedH U.vm) (h : KN s) : KN U := ⟨va_Nw.warmM hW h.1, va_Nw.warmM hW h.2.1, va_Nw.warmM hW h.2.2.1, va_Nw.warmM hW h.2.2.2⟩
theorem KN.same {u U : State} (e : u.vm = U.vm) (h : KN u) : KN U := ⟨va_Nw.same rfl e h.1, va_Nw.same rfl e h.2.1, va_Nw.same rfl e h.2.2.1, va_Nw.same rfl e h.2.2.2⟩
def KK (D : va_G) (Y : YY) (U : State) : Prop := va_K D vwCl (ytys Y) U ∧ KN U
theorem KK.warm {D : va_G} {Y : YY} {s U : State} (hW : s.WarmedH U.vm) (h : KK D Y s) : KK D Y U := ⟨va_K.moved hW.alike h.1, h.2.warm hW⟩
def Pst (D : va_G) (Y : YY) (sz : Nat) (w : va_W) : State → Prop := fun U => U.heap.size = sz ∧ va_P D vwCl w U.heap ∧ KK D Y U ∧ va_D (fun _ => True) w
theorem Pst.blind {D : va_G} {Y : YY} {sz : Nat} {w : va_W} {av : List Value} : FrameBlind (va_Pc av (Pst D Y sz w)) := fun a U g mk q => ⟨q.1, q.2.1, q.2.2.1, ⟨va_K.moved (u := U) (U := U.calling g mk a) (Vm.Alike.refl U.vm) q.2.2.2.1.1, KN.same (u := U) (U := U.calling g mk a) rfl q.2.2.2.1.2⟩, q.2.2.2.2⟩
def Bst (D : va_G) (A : Nat → Prop) (w1 : va_W) (t : State) : Prop := va_P D vwCl w1 t.heap ∧ va_D A w1
abbrev Qsi (D : va_G) (post : Int32 → va_W → Prop) (A : Nat → Prop) : Array Value → State → Outcome → State → Prop := va_Qi post (Bst D A) A
abbrev Qsv (D : va_G) (post : va_W → Prop) (A : Nat → Prop) : Array Value → State → Outcome → State → Prop := va_Qv post (Bst D A) A
theorem ct_in {l : Launch} {y : MethodName} {ws ws' : List Cond} {rm : Room} {D : va_G} {Y : YY} {sz : Nat} {av : List Value} {w : va_W} {Qc : (Nat → Prop) → Array Value → State → Outcome → State → Prop} {mc ms : Nat} {cc : ByteArray} {maxL : Nat} {ret : Option FieldType}
    (hy : plainName y.cls = true) (hw : ws = Cond.code y cc maxL ret :: ws') (hn : (lg_sl av).length ≤ maxL)
    (body : ∀ (p : Program) (e : Env) (s : State) (m : MethodId) (below : List Frame) (meth : Method) (c : Code) (A : Nat → Prop) (ls : Array Slot), p.tables.exec = Jvm.exec → c.code = cc → meth.sig.returnType = ret → (∀ x ∈ ws, x.before av.toArray s = true) → s.vm.findClass y.cls = some m.cls → c.maxLocals = maxL → meth.locks = false → meth.name = y.name →
      s.heap.size = sz → (∀ q : Nat, s.heap.size ≤ q → A q) → va_P D vwCl w s.heap → va_D A w → KK D Y s → va_S A s.heap s.heap [] → lv_has ls maxL (lv_args 0 av) →
      W p l e (headSpec ws rm).room s m av.toArray below meth c s.heap [] 0 0 (MQ below (Qc A) av.toArray s mc ms A) (F0 m 0 ls [])) :
    Met l y ws rm (va_Pc av (Pst D Y sz w)) (Qc (va_A w sz)) mc ms (va_A w sz) := by
  refine Met.ofW (cc := cc) (maxL := maxL) (ret := ret) hy hw ?_
  intro p e s m args below meth c s₁ B hml hv
  obtain ⟨rfl, hsz, hP, hK, hD0⟩ := hv
  have hts := atoms_spec (ws := ws) B.pre
  have hown : s.vm.findClass y.cls = some m.cls := findClass_of_methodNamed B.named
  have hin : meth.name = y.name := (name_of_methodNamed B.named B.method).1
  have hl := lv_entry av (n := maxL) hn
  rw [lg_entry_eq]
  generalize (lg_sl av ++ List.replicate (maxL - (lg_sl av).length) Slot.unset).toArray = ls at hl ⊢
  exact body p e s m below meth c (va_A w sz) ls B.exec B.bytes B.returns hts hown hml B.notSynchronized hin hsz (fun q h => by rw [hsz] at h; exact Or.inr h) hP hD0.self hK va_S.rf hl
section MYW
variable {p : Program} {l : Launch} {e : Env} {R : Room} {s : State} {m : MethodId} {args : Array Value} {below : List Frame} {meth : Method} {c : Code} {H : Heap} {locs : List Loc} {cells slots : Nat} {Q : State → Prop}
variable {cc : ByteArray} {pc : Nat} {ls : Array Slot} {rest st0 : List Value} {D : va_G} {Y : YY} {A : Nat → Prop} {ws wc wr w1 w2 : va_W} {mc ms : Nat}
theorem ret_i {post : Int32 → va_W → Prop} {v : Int32} (hx : p.tables.exec = Jvm.exec) (hb : c.code = cc) (hr : meth.sig.returnType = some .int) (hlk : meth.locks = false) (hP : va_P D vwCl w1 H) (hD : va_D A w1) (hS : va_S A s.heap H locs) (hdg : decode cc pc = .ok (.ireturn, 1)) (hc : cells ≤ mc ∧ slots ≤ ms) (hq : post v w1) :
    W p l e R s m args below meth c H locs cells slots (MQ below (Qsi D post A) args s mc ms A) (F0 m pc ls [.int v]) := by
  refine W.widen hc.1 hc.2 ?_
  exact W.iret (v := v) hx hb hr (fun t ht hW => ⟨⟨v, w1, rfl, hq, by rw [ht]; exact hP, hD⟩, hS.F ht⟩) hS.2.2 hdg hlk
theorem ret_z {post : Int32 → va_W → Prop} {v : Int32} {ty : FieldType} (hx : p.tables.exec = Jvm.exec) (hb : c.code = cc) (hr : meth.sig.returnType = some ty) (hn : narrow ty (.int v) = .int v) (hlk : meth.locks = false) (hP : va_P D vwCl w1 H) (hD : va_D A w1) (hS : va_S A s.heap H locs) (hdg : decode cc pc = .ok (.ireturn, 1)) (hc : cells ≤ mc ∧ slots ≤ ms) (hq : post v w1) :
    W p l e R s m args below meth c H locs cells slots (MQ below (Qsi D post A) args s mc ms A) (F0 m pc ls [.int v]) := by
  refine W.widen hc.1 hc.2 ?_
  exact W.zret (v := v) hx hb hr hn (fun t ht hW => ⟨⟨v, w1, rfl, hq, by rw [ht]; exact hP, hD⟩, hS.F ht⟩) hS.2.2 hdg hlk
theorem ret_v {post : va_W → Prop} (hx : p.tables.exec = Jvm.exec) (hb : c.code = cc) (hr : meth.sig.returnType = none) (hlk : meth.locks = false) (hP : va_P D vwCl w1 H) (hD : va_D A w1) (hS : va_S A s.heap H locs) (hdg : decode cc pc = .ok (.return_, 1)) (hc : cells ≤ mc ∧ slots ≤ ms) (hq : post w1) :
    W p l e R s m args below meth c H locs cells slots (MQ below (Qsv D post A) args s mc ms A) (F0 m pc ls []) := by
  refine W.widen hc.1 hc.2 ?_
  exact W.vret hx hb hr (fun t ht hW => ⟨⟨w1, rfl, hq, by rw [ht]; exact hP, hD⟩, hS.F ht⟩) hS.2.2 hdg hlk
theorem my_pick {is : List Nat} {w : va_W} (hs : is.map (fun i => ws[i]?) = w.map some) (k : Nat) (q : Nat × va_E) (hq : w[k]? = some q) : ∃ i, is[k]? = some i ∧ ws[i]? = some q := by
  have h1 : (is.map (fun i => ws[i]?))[k]? = some (some q) := by rw [hs, List.getElem?_map, hq]; rfl
  rw [List.getElem?_map] at h1
  cases hi : is[k]? with
  | none => rw [hi] at h1; cases h1
  | some i => rw [hi] at h1; exact ⟨i, rfl, Option.some.inj h1⟩
theorem my_sub {is : List Nat} (hP : va_P D vwCl ws H) (hs : is.map (fun i => ws[i]?) = wc.map some) : va_P D vwCl wc H := fun k q hq => by
  obtain ⟨i, -, h⟩ := my_pick hs k q hq
  exact hP i q h
theorem pst_S {av : List Value} (hK : KK D Y s) (hP : va_P D vwCl ws H) (hD : va_D A ws) (isC : List Nat) (hC : isC.map (fun i => ws[i]?) = wc.map some) (hn : va_nd isC = true) : PreS s H (va_Pc av (Pst D Y H.size wc)) av :=
  ⟨Pst.blind, fun U hU hW => ⟨rfl, by rw [hU], by rw [hU]; exact my_sub hP hC, hK.warm hW, (hD.sub isC hn hC).weaken (fun _ _ _ _ => trivial)⟩⟩
theorem pst_V {As : List Value} {C : String} {T : u_T} {N ci b q0 : Nat} {fs : List Value} (hK : KK D Y s) (hP : va_P D vwCl ws H) (hD : va_D A ws) (isC : List Nat) (hC : isC.map (fun i => ws[i]?) = wc.map some) (hn : va_nd isC = true) (he : wc[q0]? = some (b, .inr (ci, fs))) (hc : vwCl[ci]? = some (C, T, N)) : PreV s H C b (va_Pc (.ref b :: As) (Pst D Y H.size wc)) As :=
  ⟨Pst.blind, va_recv hK.1 (my_sub hP hC) hc he, fun U hU hW => ⟨rfl, by rw [hU], by rw [hU]; exact my_sub hP hC, hK.warm hW, (hD.sub isC hn hC).weaken (fun _ _ _ _ => trivial)⟩⟩
/-- behind a call with an int: what it says, and the whole world in an order of yours -/
theorem ck_i {post : Int32 → va_W → Prop} {a : Array Value} (hr : va_Run p l e R s m args below meth c H locs cells slots mc ms (F0 m pc ls st0) rest (Qsi D post (va_A wc H.size) a) (va_A wc H.size))
    (hP : va_P D vwCl ws H) (hD : va_D A ws) (hS : va_S A s.heap H locs) (hA : ∀ q : Nat, s.heap.size ≤ q → A q) (isC isR : List Nat) (hC : isC.map (fun i => ws[i]?) = wc.map some) (hR : isR.map (fun i => ws[i]?) = wr.map some) (hn : va_nd isR = true) (hdis : ∀ i ∈ isR, i ∉ isC)
    (kk : ∀ (r : Int32) (w1 : va_W) (H1 : Heap) (locs1 : List Loc), post r w1 → va_P D vwCl (wr ++ w1) H1 → va_D A (wr ++ w1) → va_S A s.heap H1 locs1 → W p l e R s m args below meth c H1 locs1 (cells + mc) (slots + ms) Q (F0 m (pc + 3) ls (.int r :: rest))) : W p l e R s m args below meth c H locs cells slots Q (F0 m pc ls st0) := by
  have hF := va_free (wc := wc) hD hS hA isC hC
  refine va_calli hr hS (fun q _ h => hF q h) hF (fun r u t H1 locs1 ht hvm hw hB hz1 hk1 hS1 => ?_)
  obtain ⟨hP1, hD1⟩ := hB
  rw [ht] at hP1
  obtain ⟨h1, h2⟩ := va_join (wr := wr) (w1 := u) hP hD isC isR hC hR hn hdis hk1 hF hP1 hD1
  exact kk r u H1 locs1 hw h1 h2 hS1
theorem ck_v {post : va_W → Prop} {a : Array Value} (hr : va_Run p l e R s m args below meth c H locs cells slots mc ms (F0 m pc ls st0) rest (Qsv D post (va_A wc H.size) a) (va_A wc H.size))
    (hP : va_P D vwCl ws H) (hD : va_D A ws) (hS : va_S A s.heap H locs) (hA : ∀ q : Nat, s.heap.size ≤ q → A q) (isC isR : List Nat) (hC : isC.map (fun i => ws[i]?) = wc.map some) (hR : isR.map (fun i => ws[i]?) = wr.map some) (hn : va_nd isR = true) (hdis : ∀ i ∈ isR, i ∉ isC)
    (kk : ∀ (w1 : va_W) (H1 : Heap) (locs1 : List Loc), post w1 → va_P D vwCl (wr ++ w1) H1 → va_D A (wr ++ w1) → va_S A s.heap H1 locs1 → W p l e R s m args below meth c H1 locs1 (cells + mc) (slots + ms) Q (F0 m (pc + 3) ls rest)) : W p l e R s m args below meth c H locs cells slots Q (F0 m pc ls st0) := by
  have hF := va_free (wc := wc) hD hS hA isC hC
  refine va_callv hr hS (fun q _ h => hF q h) hF (fun u t H1 locs1 ht hvm hw hB hz1 hk1 hS1 => ?_)
  obtain ⟨hP1, hD1⟩ := hB
  rw [ht] at hP1
  obtain ⟨h1, h2⟩ := va_join (wr := wr) (w1 := u) hP hD isC isR hC hR hn hdis hk1 hF hP1 hD1
  exact kk u H1 locs1 hw h1 h2 hS1
/-- the same, where the answer and the world behind it are told -/
theorem ck_iD {r0 : Int32} {w0 ws' : va_W} {a : Array Value} (hr : va_Run p l e R s m args below meth c H locs cells slots 0 0 (F0 m pc ls st0) rest (Qsi D (fun r w => r = r0 ∧ w = w0) (va_A wc H.size) a) (va_A wc H.size))
    (hP : va_P D vwCl ws H) (hD : va_D A ws) (hS : va_S A s.heap H locs) (hA : ∀ q : Nat, s.heap.size ≤ q → A q) (isC isR pm : List Nat) (hC : isC.map (fun i => ws[i]?) = wc.map some) (hR : isR.map (fun i => ws[i]?) = wr.map some) (hn : va_nd isR = true) (hdis : ∀ i ∈ isR, i ∉ isC) (hp : pm.map (fun i => (wr ++ w0)[i]?) = ws'.map some) (hpn : va_nd pm = true)
    (kk : ∀ (H1 : Heap) (locs1 : List Loc), va_P D vwCl ws' H1 → va_D A ws' → va_S A s.heap H1 locs1 → W p l e R s m args below meth c H1 locs1 cells slots Q (F0 m (pc + 3) ls (.int r0 :: rest))) : W p l e R s m args below meth c H locs cells slots Q (F0 m pc ls st0) := by
  refine ck_i hr hP hD hS hA isC isR hC hR hn hdis (fun r w1 H1 locs1 hq h1 h2 h3 => ?_)
  obtain ⟨rfl, rfl⟩ := hq
  exact kk H1 locs1 (my_sub h1 hp) (h2.sub pm hpn hp) h3
theorem ck_vD {w0 ws' : va_W} {a : Array Value} (hr : va_Run p l e R s m args below meth c H locs cells slots 0 0 (F0 m pc ls st0) rest (Qsv D (fun w => w = w0) (va_A wc H.size) a) (va_A wc H.size))
    (hP : va_P D vwCl ws H) (hD : va_D A ws) (hS : va_S A s.heap H locs) (hA : ∀ q : Nat, s.heap.size ≤ q → A q) (isC isR pm : List Nat) (hC : isC.map (fun i => ws[i]?) = wc.map some) (hR : isR.map (fun i => ws[i]?) = wr.map some) (hn : va_nd isR = true) (hdis : ∀ i ∈ isR, i ∉ isC) (hp : pm.map (fun i => (wr ++ w0)[i]?) = ws'.map some) (hpn : va_nd pm = true)
    (kk : ∀ (H1 : Heap) (locs1 : List Loc), va_P D vwCl ws' H1 → va_D A ws' → va_S A s.heap H1 locs1 → W p l e R s m args below meth c H1 locs1 cells slots Q (F0 m (pc + 3) ls rest)) : W p l e R s m args below meth c H locs cells slots Q (F0 m pc ls st0) := by
  refine ck_v hr hP hD hS hA isC isR hC hR hn hdis (fun w1 H1 locs1 hq h1 h2 h3 => ?_)
  obtain rfl := hq
  exact kk H1 locs1 (my_sub h1 hp) (h2.sub pm hpn hp) h3
end MYW
/-! STATES AND WORLDS -/
/-- one place of a state's rows -/
def s2 (S : Nat → Nat → Int32) (k i : Nat) (x : Int32) : Nat → Nat → Int32 := fun a => cond (Nat.beq a k) (upd (S a) i x) (S a)
def fR (q : Nat → Nat) (S : Nat → Nat → Int32) : List Value := [.ref (q 0), .int (S 10 0), .ref (q 1), .ref (q 2), .ref (q 3), .ref (q 4), .ref (q 5), .ref (q 6), .ref (q 7), .ref (q 8), .ref (q 9), .int (S 10 1), .int (S 10 2)]
def wR (Y : YY) (r : Nat) (q : Nat → Nat) (S : Nat → Nat → Int32) : va_W := [(r, .inr (2, fR q S)), (q 0, .inl (Y.1, 3, .inl (S 0))), (q 1, .inl (Y.1, 9, .inl (S 1))), (q 2, .inl (Y.1, 9, .inl (S 2))), (q 3, .inl (Y.1, 9, .inl (S 3))), (q 4, .inl (Y.1, 9, .inl (S 4))), (q 5, .inl (Y.1, 9, .inl (S 5))), (q 6, .inl (Y.1, 81, .inl (S 6))), (q 7, .inl (Y.1, 81, .inl (S 7))), (q 8, .inl (Y.1, 81, .inl (S 8))), (q 9, .inl (Y.1, 9, .inl (S 9)))]
def wP (Y : YY) (p t : Nat) (S : Nat → Nat → Int32) : va_W := [(p, .inr (1, [.ref t, .int (S 1 0)])), (t, .inl (Y.2.1, 60, .inl (S 0)))]
def wX (x r tr p h sl : Nat) : va_W := [(x, .inr (3, [.ref r, .ref tr, .ref p, .ref h, .ref sl]))]
def wH (h st : Nat) (n : Int32) : va_W := [(h, .inr (0, [.ref st, .int n]))]
def wA (Y : YY) (a n : Nat) (f : Nat → Option Nat) : va_W := [(a, .inl (Y.2.2, n, .inr (.inr (.inr (.inr f)))))]
def wI (Y : YY) (a n : Nat) (f : Nat → Int32) : va_W := [(a, .inl (Y.1, n, .inl f))]
def fM (q : Nat → Nat) (M : Nat → Nat → Int32) : List Value := [.ref (q 0), .ref (q 1), .ref (q 2), .int (M 9 0), .ref (q 3), .ref (q 4), .ref (q 5), .ref (q 6), .int (M 9 1), .int (M 9 2), .ref (q 7), .ref (q 8), .int (M 9 3)]
def wM (Y : YY) (m : Nat) (q : Nat → Nat) (M : Nat → Nat → Int32) : va_W := [(m, .inr (4, fM q M)), (q 0, .inl (Y.1, 312, .inl (M 0))), (q 1, .inl (Y.1, 312, .inl (M 1))), (q 2, .inl (Y.1, 1872, .inl (M 2))), (q 3, .inl (Y.1, 624, .inl (M 3))), (q 4, .inl (Y.1, 2, .inl (M 4))), (q 5, .inl (Y.1, 9, .inl (M 5))), (q 6, .inl (Y.1, 60, .inl (M 6))), (q 7, .inl (Y.1, 30, .inl (M 7))), (q 8, .inl (Y.1, 30, .inl (M 8)))]
theorem my_lt {x y : Int32} {k N : Nat} (ex : x = nI k) (ey : y = nI N) (hN : N < 2 ^ 31) (hk : k ≤ N) (c : ¬ y ≤ x) : k < N := by
  rcases Nat.lt_or_ge k N with h | h
  · exact h
  · exact absurd (by rw [ex, ey]; exact nI_le h (by omega)) c
theorem nar01 {v : Int32} (h : v = 0 ∨ v = 1) : narrow .boolean (.int v) = .int v := by rcases h with rfl | rfl <;> rfl
end
section
/-! MORE OF MY LAYER -/
theorem Met_ofWF {l : Launch} {y : MethodName} {ws ws' : List Cond} {rm : Room} {Pc : Array Value → State → Prop} {Qc : Array Value → State → Outcome → State → Prop} {mc ms : Nat} {free : Addr → Prop} {cc : ByteArray} {maxL : Nat} {ret : Option FieldType}
    (hy : plainFor y = true) (hw : ws = Cond.code y cc maxL ret :: ws')
    (body : ∀ p e s m args below meth c s₁, BodyLoose p l y (headSpec ws rm) cc maxL ret e s m args below meth c s₁ → c.maxLocals = maxL → Pc args s →
      W p l e (headSpec ws rm).room s m args below meth c s.heap [] 0 0 (MQ below Qc args s mc ms free) (entryFrame m args maxL)) : Met l y ws rm Pc Qc mc ms free := by
  refine MetFree.of_bodySF (code := cc) (maxLocals := maxL) (ret := ret) hy ?_ ?_
  · intro args s m h hn
    obtain ⟨meth, c, h1, h2, h3, h4, h5, h6, -, -⟩ := Cond.code_spec hn (atoms_spec (ws := ws) h _ (by rw [hw]; exact List.mem_cons_self))
    exact ⟨meth, c, h1, h2, h3, h4, h5, h6⟩
  · intro p e s m args below meth c s₁ B hml hP _
    have hh0 : s₁.heap = s.heap := by rw [B.state]; rfl
    obtain ⟨t, a1, o, b1, b2, b3⟩ := body p e s m args below meth c s₁ B hml hP s₁ hh0 (Stand.of_body B)
    exact ⟨t, o, a1, b1, b2, ⟨b3.1, b3.2⟩⟩
theorem ct_inF {l : Launch} {y : MethodName} {ws ws' : List Cond} {rm : Room} {D : va_G} {Y : YY} {sz : Nat} {av : List Value} {w : va_W} {Qc : (Nat → Prop) → Array Value → State → Outcome → State → Prop} {mc ms : Nat} {cc : ByteArray} {maxL : Nat} {ret : Option FieldType}
    (hy : plainFor y = true) (hw : ws = Cond.code y cc maxL ret :: ws') (hn : (lg_sl av).length ≤ maxL)
    (body : ∀ (p : Program) (e : Env) (s : State) (m : MethodId) (below : List Frame) (meth : Method) (c : Code) (A : Nat → Prop) (ls : Array Slot), p.tables.exec = Jvm.exec → c.code = cc → meth.sig.returnType = ret → (∀ x ∈ ws, x.before av.toArray s = true) → s.vm.findClass y.cls = some m.cls → c.maxLocals = maxL → meth.locks = false → meth.name = y.name →
      s.heap.size = sz → (∀ q : Nat, s.heap.size ≤ q → A q) → va_P D vwCl w s.heap → va_D A w → KK D Y s → va_S A s.heap s.heap [] → lv_has ls maxL (lv_args 0 av) →
      W p l e (headSpec ws rm).room s m av.toArray below meth c s.heap [] 0 0 (MQ below (Qc A) av.toArray s mc ms A) (F0 m 0 ls [])) :
    Met l y ws rm (va_Pc av (Pst D Y sz w)) (Qc (va_A w sz)) mc ms (va_A w sz) := by
  refine Met_ofWF (cc := cc) (maxL := maxL) (ret := ret) hy hw ?_
  intro p e s m args below meth c s₁ B hml hv
  obtain ⟨rfl, hsz, hP, hK, hD0⟩ := hv
  have hts := atoms_spec (ws := ws) B.pre
  have hown : s.vm.findClass y.cls = some m.cls := findClass_of_methodNamed B.named
  have hin : meth.name = y.name := (name_of_methodNamed B.named B.method).1
  have hl := lv_entry av (n := maxL) hn
  rw [lg_entry_eq]
  generalize (lg_sl av ++ List.replicate (maxL - (lg_sl av).length) Slot.unset).toArray = ls at hl ⊢
  exact body p e s m below meth c (va_A w sz) ls B.exec B.bytes B.returns hts hown hml B.notSynchronized hin hsz (fun q h => by rw [hsz] at h; exact Or.inr h) hP hD0.self hK va_S.rf hl
section MYX
variable {p : Program} {l : Launch} {e : Env} {R : Room} {s : State} {m : MethodId} {args : Array Value} {below : List Frame} {meth : Method} {c : Code} {H : Heap} {locs : List Loc} {cells slots : Nat} {Q : State → Prop}
variable {cc : ByteArray} {pc : Nat} {ls : Array Slot} {rest : List Value} {D : va_G} {cl : List vw_C} {A : Nat → Prop} {a : Nat} {tys : List (ClassId × FieldType)} {ws : va_W} {H0 : Heap}
theorem my_aldq (hexec : p.tables.exec = Jvm.exec) (hb : c.code = cc) (hK : va_K D cl tys s) (hP : va_P D cl ws H) (q0 t0 : Nat) {cA : ClassId} {C : String} {n : Nat} {f : Nat → Option Nat} (ha : ws[q0]? = some (a, .inl (cA, n, .inr (.inr (.inr (.inr f)))))) (ht : tys[t0]? = some (cA, .object C)) {i : Int32} (hin : vp_in i n) {v : Value} (hv : va_rf (f i.toNatClampNeg) = v) (hdg : decode cc pc = .ok (.aaload, 1))
    (kk : W p l e R s m args below meth c H locs cells slots Q (F0 m (pc + 1) ls (v :: rest))) : W p l e R s m args below meth c H locs cells slots Q (F0 m pc ls (.int i :: .ref a :: rest)) := by
  refine va_aldq hexec hb hK hP q0 t0 ha ht hin hdg ?_
  rw [hv]
  exact kk
end MYX
theorem my_wid {x : Int32} {n N : Nat} (h : vp_in x n) (h2 : n ≤ N) (hb : N < 2 ^ 31) : vp_in x N := by
  obtain ⟨j, hj, rfl⟩ := vp_in_of h (by omega)
  exact vp_in_nI (by omega) hb
theorem my_off (k : Nat) {x : Int32} {n N : Nat} (h : vp_in x n) (h2 : k + n ≤ N) (hb : N < 2 ^ 31) : vp_in (nI k + x) N := by
  obtain ⟨j, hj, rfl⟩ := vp_in_of h (by omega)
  rw [nI_add]
  exact vp_in_nI (by omega) hb
theorem my_add {x y : Int32} {n k N : Nat} (hx : vp_in x n) (hy : vp_in y k) (h2 : n + k ≤ N + 1) (hb : N + 1 < 2 ^ 31) : vp_in (x + y) N := by
  obtain ⟨i, hi, rfl⟩ := vp_in_of hx (by omega)
  obtain ⟨j, hj, rfl⟩ := vp_in_of hy (by omega)
  rw [nI_add]
  exact vp_in_nI (by omega) (by omega)
theorem my_rem {x : Int32} {n : Nat} (h : vp_in x n) (hn : n < 2 ^ 31) : vp_in (x - x / 9 * 9) 9 := by
  obtain ⟨i, hi, rfl⟩ := vp_in_of h hn
  rw [show (9 : Int32) = nI 9 from rfl, pk_rem (by omega) (by decide) (by decide)]
  exact vp_in_nI (Nat.mod_lt _ (by decide)) (by decide)
theorem my_lt2 {x y : Int32} {k N : Nat} (ex : x = nI k) (ey : y = nI N) (hN : N + 1 < 2 ^ 31) (hk : k ≤ N + 1) (c : ¬ y < x) : k < N + 1 := by
  rcases Nat.lt_or_ge k (N + 1) with h | h
  · exact h
  · exact absurd (by rw [ex, ey]; exact nI_lt (by omega) (by omega)) c
end
section
def D_J9_floorMod_7cf53  (x : Int32) (y : Int32) : (Int32) := if 0 ≤ (x ^^^ y) then (x - x / y * y) else (if (x - x / y * y) = 0 then (x - x / y * y) else (x - x / y * y) + y)
set_option maxHeartbeats 4000000 in
set_option maxRecDepth 100000 in
theorem c_J9_floorMod_7cf53 (l : Launch) (D : va_G) (Y : YY) (sz : Nat) (x : Int32) (y : Int32) (hy : ¬ y = 0) : Met l yJ9_floorMod_7cf53 wsJ9_floorMod_7cf53 ({ frames := 0, cells := 0, slots := 0, locals := 0 } : Room) (va_Pc [.int x, .int y] (Pst D Y sz (([] : va_W)))) ((fun A : Nat → Prop => Qsi D (fun r9 w9 => r9 = D_J9_floorMod_7cf53 x y ∧ w9 = ([] : va_W)) A) (va_A (([] : va_W)) sz)) 0 0 (va_A (([] : va_W)) sz) := by
  refine ct_inF (cc := cJ9_floorMod_7cf53) (maxL := 3) (ret := (some .int)) (Qc := fun A : Nat → Prop => Qsi D (fun r9 w9 => r9 = D_J9_floorMod_7cf53 x y ∧ w9 = ([] : va_W)) A) (by decide +kernel) rfl (Nat.le_of_ble_eq_true rfl) ?_
  intro p e s m below meth c A ls hx hb hr hts hown hml hlk hin hsz hA hP hD hK hS hl
  have hown : s.vm.findClass RJ9 = some m.cls := hown
  have hl : lv_has ls 3 [(0, .int x), (1, .int y)] := hl
  show W p l e ({ frames := 0, cells := 0, slots := 0, locals := 0 } : Room) s m ([.int x, .int y] : List Value).toArray below meth c s.heap [] 0 0 (MQ below (Qsi D (fun r9 w9 => r9 = D_J9_floorMod_7cf53 x y ∧ w9 = ([] : va_W)) A) ([.int x, .int y] : List Value).toArray s 0 0 A) (F0 m 0 ls [])
  refine lv_iload_n hx hb dJ9_floorMod_7cf53_0 rfl (lv_at hl 0 rfl) ?_
  refine lv_iload_n hx hb dJ9_floorMod_7cf53_1 rfl (lv_at hl 1 rfl) ?_
  refine lv_irem hx hb dJ9_floorMod_7cf53_2 hy ?_
  refine lv_istore_n (lv' := [(2, .int (x - x / y * y)), (0, .int x), (1, .int y)]) hx hb dJ9_floorMod_7cf53_3 rfl hl (by decide) rfl (fun ls hl => ?_)
  refine lv_iload_n hx hb dJ9_floorMod_7cf53_4 rfl (lv_at hl 1 rfl) ?_
  refine lv_iload_n hx hb dJ9_floorMod_7cf53_5 rfl (lv_at hl 2 rfl) ?_
  refine lv_ixor hx hb dJ9_floorMod_7cf53_6 ?_
  refine lv_if_ge (tgt := 18) hx hb dJ9_floorMod_7cf53_7 (by decide) (fun c_1 => ?_) (fun c_1 => ?_)
  · refine lv_iload_n hx hb dJ9_floorMod_7cf53_18 rfl (lv_at hl 0 rfl) ?_
    have e9 : D_J9_floorMod_7cf53 x y = x - x / y * y := by rw [D_J9_floorMod_7cf53, if_pos c_1]
    exact ret_i hx hb hr hlk hP hD hS dJ9_floorMod_7cf53_19 ⟨Nat.zero_le _, Nat.zero_le _⟩ ⟨e9.symm, rfl⟩
  · refine lv_iload_n hx hb dJ9_floorMod_7cf53_10 rfl (lv_at hl 0 rfl) ?_
    refine lv_if_eq (tgt := 18) hx hb dJ9_floorMod_7cf53_11 (by decide) (fun c_2 => ?_) (fun c_2 => ?_)
    · refine lv_iload_n hx hb dJ9_floorMod_7cf53_18 rfl (lv_at hl 0 rfl) ?_
      have e9 : D_J9_floorMod_7cf53 x y = x - x / y * y := by rw [D_J9_floorMod_7cf53, if_neg c_1, if_pos c_2]
      exact ret_i hx hb hr hlk hP hD hS dJ9_floorMod_7cf53_19 ⟨Nat.zero_le _, Nat.zero_le _⟩ ⟨e9.symm, rfl⟩
    · refine lv_iload_n hx hb dJ9_floorMod_7cf53_14 rfl (lv_at hl 0 rfl) ?_
      refine lv_iload_n hx hb dJ9_floorMod_7cf53_15 rfl (lv_at hl 2 rfl) ?_
      refine lv_iadd hx hb dJ9_floorMod_7cf53_16 ?_
      have e9 : D_J9_floorMod_7cf53 x y = (x - x / y * y) + y := by rw [D_J9_floorMod_7cf53, if_neg c_1, if_neg c_2]
      exact ret_i hx hb hr hlk hP hD hS dJ9_floorMod_7cf53_17 ⟨Nat.zero_le _, Nat.zero_le _⟩ ⟨e9.symm, rfl⟩
def V_J6_bitCount_0f7a4_1 (x : Int32) : Int32 := x - (((x.toUInt32 >>> ((1 : Int32).toUInt32 &&& Int32.toUInt32 31)).toInt32) &&& 1431655765)
def V_J6_bitCount_0f7a4_2 (x : Int32) : Int32 := ((V_J6_bitCount_0f7a4_1 x) &&& 858993459) + ((((V_J6_bitCount_0f7a4_1 x).toUInt32 >>> ((2 : Int32).toUInt32 &&& Int32.toUInt32 31)).toInt32) &&& 858993459)
def V_J6_bitCount_0f7a4_3 (x : Int32) : Int32 := ((V_J6_bitCount_0f7a4_2 x) + (((V_J6_bitCount_0f7a4_2 x).toUInt32 >>> ((4 : Int32).toUInt32 &&& Int32.toUInt32 31)).toInt32)) &&& 252645135
def V_J6_bitCount_0f7a4_4 (x : Int32) : Int32 := (V_J6_bitCount_0f7a4_3 x) + (((V_J6_bitCount_0f7a4_3 x).toUInt32 >>> ((8 : Int32).toUInt32 &&& Int32.toUInt32 31)).toInt32)
def V_J6_bitCount_0f7a4_5 (x : Int32) : Int32 := (V_J6_bitCount_0f7a4_4 x) + (((V_J6_bitCount_0f7a4_4 x).toUInt32 >>> ((16 : Int32).toUInt32 &&& Int32.toUInt32 31)).toInt32)
def D_J6_bitCount_0f7a4  (x : Int32) : (Int32) := (V_J6_bitCount_0f7a4_5 x) &&& 63
set_option maxHeartbeats 4000000 in
set_option maxRecDepth 100000 in
theorem c_J6_bitCount_0f7a4 (l : Launch) (D : va_G) (Y : YY) (sz : Nat) (x : Int32) : Met l yJ6_bitCount_0f7a4 wsJ6_bitCount_0f7a4 ({ frames := 0, cells := 0, slots := 0, locals := 0 } : Room) (va_Pc [.int x] (Pst D Y sz (([] : va_W)))) ((fun A : Nat → Prop => Qsi D (fun r9 w9 => r9 = D_J6_bitCount_0f7a4 x ∧ w9 = ([] : va_W)) A) (va_A (([] : va_W)) sz)) 0 0 (va_A (([] : va_W)) sz) := by
  refine ct_in (cc := cJ6_bitCount_0f7a4) (maxL := 1) (ret := (some .int)) (Qc := fun A : Nat → Prop => Qsi D (fun r9 w9 => r9 = D_J6_bitCount_0f7a4 x ∧ w9 = ([] : va_W)) A) (by decide +kernel) rfl (Nat.le_of_ble_eq_true rfl) ?_
  intro p e s m below meth c A ls hx hb hr hts hown hml hlk hin hsz hA hP hD hK hS hl
  have hown : s.vm.findClass RJ6 = some m.cls := hown
  have hl : lv_has ls 1 [(0, .int x)] := hl
  show W p l e ({ frames := 0, cells := 0, slots := 0, locals := 0 } : Room) s m ([.int x] : List Value).toArray below meth c s.heap [] 0 0 (MQ below (Qsi D (fun r9 w9 => r9 = D_J6_bitCount_0f7a4 x ∧ w9 = ([] : va_W)) A) ([.int x] : List Value).toArray s 0 0 A) (F0 m 0 ls [])
  refine lv_iload_n hx hb dJ6_bitCount_0f7a4_0 rfl (lv_at hl 0 rfl) ?_
  refine lv_iload_n hx hb dJ6_bitCount_0f7a4_1 rfl (lv_at hl 0 rfl) ?_
  refine lv_iconst (v := 1) hx hb dJ6_bitCount_0f7a4_2 (by decide) ?_
  refine lv_iushr (v := (x.toUInt32 >>> ((1 : Int32).toUInt32 &&& Int32.toUInt32 31)).toInt32) hx hb dJ6_bitCount_0f7a4_3 rfl ?_
  refine lv_ldcw (v := 1431655765) hx hb hown (hts (.constant RJ6 265 (1431655765)) (by decide +kernel)) dJ6_bitCount_0f7a4_4 ?_
  refine lv_iand hx hb dJ6_bitCount_0f7a4_7 ?_
  refine lv_isub hx hb dJ6_bitCount_0f7a4_8 ?_
  refine lv_istore_n (lv' := [(0, .int (V_J6_bitCount_0f7a4_1 x))]) hx hb dJ6_bitCount_0f7a4_9 rfl hl (by decide) rfl (fun ls hl => ?_)
  refine lv_iload_n hx hb dJ6_bitCount_0f7a4_10 rfl (lv_at hl 0 rfl) ?_
  refine lv_ldcw (v := 858993459) hx hb hown (hts (.constant RJ6 266 (858993459)) (by decide +kernel)) dJ6_bitCount_0f7a4_11 ?_
  refine lv_iand hx hb dJ6_bitCount_0f7a4_14 ?_
  refine lv_iload_n hx hb dJ6_bitCount_0f7a4_15 rfl (lv_at hl 0 rfl) ?_
  refine lv_iconst (v := 2) hx hb dJ6_bitCount_0f7a4_16 (by decide) ?_
  refine lv_iushr (v := ((V_J6_bitCount_0f7a4_1 x).toUInt32 >>> ((2 : Int32).toUInt32 &&& Int32.toUInt32 31)).toInt32) hx hb dJ6_bitCount_0f7a4_17 rfl ?_
  refine lv_ldcw (v := 858993459) hx hb hown (hts (.constant RJ6 266 (858993459)) (by decide +kernel)) dJ6_bitCount_0f7a4_18 ?_
  refine lv_iand hx hb dJ6_bitCount_0f7a4_21 ?_
  refine lv_iadd hx hb dJ6_bitCount_0f7a4_22 ?_
  refine lv_istore_n (lv' := [(0, .int (V_J6_bitCount_0f7a4_2 x))]) hx hb dJ6_bitCount_0f7a4_23 rfl hl (by decide) rfl (fun ls hl => ?_)
  refine lv_iload_n hx hb dJ6_bitCount_0f7a4_24 rfl (lv_at hl 0 rfl) ?_
  refine lv_iload_n hx hb dJ6_bitCount_0f7a4_25 rfl (lv_at hl 0 rfl) ?_
  refine lv_iconst (v := 4) hx hb dJ6_bitCount_0f7a4_26 (by decide) ?_
  refine lv_iushr (v := ((V_J6_bitCount_0f7a4_2 x).toUInt32 >>> ((4 : Int32).toUInt32 &&& Int32.toUInt32 31)).toInt32) hx hb dJ6_bitCount_0f7a4_27 rfl ?_
  refine lv_iadd hx hb dJ6_bitCount_0f7a4_28 ?_
  refine lv_ldcw (v := 252645135) hx hb hown (hts (.constant RJ6 267 (252645135)) (by decide +kernel)) dJ6_bitCount_0f7a4_29 ?_
  refine lv_iand hx hb dJ6_bitCount_0f7a4_32 ?_
  refine lv_istore_n (lv' := [(0, .int (V_J6_bitCount_0f7a4_3 x))]) hx hb dJ6_bitCount_0f7a4_33 rfl hl (by decide) rfl (fun ls hl => ?_)
  refine lv_iload_n hx hb dJ6_bitCount_0f7a4_34 rfl (lv_at hl 0 rfl) ?_
  refine lv_iload_n hx hb dJ6_bitCount_0f7a4_35 rfl (lv_at hl 0 rfl) ?_
  refine lv_bipush (v := 8) hx hb dJ6_bitCount_0f7a4_36 (by decide) ?_
  refine lv_iushr (v := ((V_J6_bitCount_0f7a4_3 x).toUInt32 >>> ((8 : Int32).toUInt32 &&& Int32.toUInt32 31)).toInt32) hx hb dJ6_bitCount_0f7a4_38 rfl ?_
  refine lv_iadd hx hb dJ6_bitCount_0f7a4_39 ?_
  refine lv_istore_n (lv' := [(0, .int (V_J6_bitCount_0f7a4_4 x))]) hx hb dJ6_bitCount_0f7a4_40 rfl hl (by decide) rfl (fun ls hl => ?_)
  refine lv_iload_n hx hb dJ6_bitCount_0f7a4_41 rfl (lv_at hl 0 rfl) ?_
  refine lv_iload_n hx hb dJ6_bitCount_0f7a4_42 rfl (lv_at hl 0 rfl) ?_
  refine lv_bipush (v := 16) hx hb dJ6_bitCount_0f7a4_43 (by decide) ?_
  refine lv_iushr (v := ((V_J6_bitCount_0f7a4_4 x).toUInt32 >>> ((16 : Int32).toUInt32 &&& Int32.toUInt32 31)).toInt32) hx hb dJ6_bitCount_0f7a4_45 rfl ?_
  refine lv_iadd hx hb dJ6_bitCount_0f7a4_46 ?_
  refine lv_istore_n (lv' := [(0, .int (V_J6_bitCount_0f7a4_5 x))]) hx hb dJ6_bitCount_0f7a4_47 rfl hl (by decide) rfl (fun ls hl => ?_)
  refine lv_iload_n hx hb dJ6_bitCount_0f7a4_48 rfl (lv_at hl 0 rfl) ?_
  refine lv_bipush (v := 63) hx hb dJ6_bitCount_0f7a4_49 (by decide) ?_
  refine lv_iand hx hb dJ6_bitCount_0f7a4_51 ?_
  have e9 : D_J6_bitCount_0f7a4 x = (V_J6_bitCount_0f7a4_5 x) &&& 63 := by rw [D_J6_bitCount_0f7a4]
  exact ret_i hx hb hr hlk hP hD hS dJ6_bitCount_0f7a4_52 ⟨Nat.zero_le _, Nat.zero_le _⟩ ⟨e9.symm, rfl⟩
def L_J7_fill_53178_5 (n : Nat) (f : Nat → Int32) (v : Int32) : Nat → (Int32) → (Nat → Int32) → (Nat → Int32)
  | 0, i, f1 => f1
  | n_5 + 1, i, f1 => if (nI n) ≤ i then f1 else (L_J7_fill_53178_5 n f v n_5 (i + 1) (upd f1 i.toNatClampNeg v))
def D_J7_fill_53178 (n : Nat) (f : Nat → Int32) (v : Int32) : (Nat → Int32) := L_J7_fill_53178_5 n f v (n + 1) 0 f
set_option maxHeartbeats 4000000 in
set_option maxRecDepth 100000 in
theorem c_J7_fill_53178 (l : Launch) (D : va_G) (Y : YY) (sz : Nat) (n : Nat) (f : Nat → Int32) (a : Nat) (v : Int32) (hn : n < 2 ^ 31) : Met l yJ7_fill_53178 wsJ7_fill_53178 ({ frames := 0, cells := 0, slots := 0, locals := 0 } : Room) (va_Pc [.ref a, .int v] (Pst D Y sz (wI Y a n f))) ((fun A : Nat → Prop => Qsv D (fun w9 => w9 = wI Y a n (D_J7_fill_53178 n f v)) A) (va_A (wI Y a n f) sz)) 0 0 (va_A (wI Y a n f) sz) := by
  refine ct_in (cc := cJ7_fill_53178) (maxL := 4) (ret := none) (Qc := fun A : Nat → Prop => Qsv D (fun w9 => w9 = wI Y a n (D_J7_fill_53178 n f v)) A) (by decide +kernel) rfl (Nat.le_of_ble_eq_true rfl) ?_
  intro p e s m below meth c A ls hx hb hr hts hown hml hlk hin hsz hA hP hD hK hS hl
  have hown : s.vm.findClass RJ7 = some m.cls := hown
  have hl : lv_has ls 4 [(0, .ref a), (1, .int v)] := hl
  show W p l e ({ frames := 0, cells := 0, slots := 0, locals := 0 } : Room) s m ([.ref a, .int v] : List Value).toArray below meth c s.heap [] 0 0 (MQ below (Qsv D (fun w9 => w9 = wI Y a n (D_J7_fill_53178 n f v)) A) ([.ref a, .int v] : List Value).toArray s 0 0 A) (F0 m 0 ls [])
  refine lv_iconst (v := 0) hx hb dJ7_fill_53178_0 (by decide) ?_
  refine lv_istore_n (lv' := [(2, .int 0), (0, .ref a), (1, .int v)]) hx hb dJ7_fill_53178_1 rfl hl (by decide) rfl (fun ls hl => ?_)
  refine lv_aload_n hx hb dJ7_fill_53178_2 rfl (lv_at hl 1 rfl) ?_
  refine va_alen (D := D) hx hb hK.1 hP 0 0 rfl rfl (v := nI n) rfl dJ7_fill_53178_3 ?_
  refine lv_istore_n (lv' := [(3, .int (nI n)), (2, .int 0), (0, .ref a), (1, .int v)]) hx hb dJ7_fill_53178_4 rfl hl (by decide) rfl (fun ls hl => ?_)
  have loop_5 : ∀ (n_5 k_5 : Nat) (i : Int32) (f1 : Nat → Int32) (H : Heap) (locs : List Loc) (ls : Array Slot), n + 1 ≤ k_5 + n_5 → k_5 ≤ n → i = nI k_5 → va_P D vwCl (wI Y a n f1) H → va_D A (wI Y a n f1) → va_S A s.heap H locs → lv_has ls 4 [(3, .int (nI n)), (2, .int i), (0, .ref a), (1, .int v)] → L_J7_fill_53178_5 n f v n_5 i f1 = L_J7_fill_53178_5 n f v (n + 1) 0 f → W p l e ({ frames := 0, cells := 0, slots := 0, locals := 0 } : Room) s m ([.ref a, .int v] : List Value).toArray below meth c H locs 0 0 (MQ below (Qsv D (fun w9 => w9 = wI Y a n (D_J7_fill_53178 n f v)) A) ([.ref a, .int v] : List Value).toArray s 0 0 A) (F0 m 5 ls []) := by
    intro n_5
    induction n_5 with
    | zero => intro k_5 i f1 H locs ls hkf hkN_5 ex_5 hP hD hS hl hR_5; exact absurd hkf (by omega)
    | succ n_5 ih_5 =>
      intro k_5 i f1 H locs ls hkf hkN_5 ex_5 hP hD hS hl hR_5
      refine lv_iload_n hx hb dJ7_fill_53178_5 rfl (lv_at hl 1 rfl) ?_
      refine lv_iload_n hx hb dJ7_fill_53178_6 rfl (lv_at hl 0 rfl) ?_
      refine lv_icmp_ge (tgt := 20) hx hb dJ7_fill_53178_7 (by decide) (fun c_1 => ?_) (fun c_1 => ?_)
      · have e8 : L_J7_fill_53178_5 n f v (n_5 + 1) i f1 = f1 := by rw [L_J7_fill_53178_5, if_pos c_1]
        have e8 := hR_5.symm.trans e8
        obtain rfl : f1 = L_J7_fill_53178_5 n f v (n + 1) 0 f := e8.symm
        clear e8 hR_5 ih_5
        have e9 : D_J7_fill_53178 n f v = L_J7_fill_53178_5 n f v (n + 1) 0 f := by rw [D_J7_fill_53178]
        exact ret_v hx hb hr hlk hP hD hS dJ7_fill_53178_20 ⟨Nat.zero_le _, Nat.zero_le _⟩ (by rw [e9])
      · have hk_5 := my_lt ex_5 (show (nI n : Int32) = nI n from rfl) (by omega) hkN_5 c_1
        refine lv_aload_n hx hb dJ7_fill_53178_10 rfl (lv_at hl 2 rfl) ?_
        refine lv_iload_n hx hb dJ7_fill_53178_11 rfl (lv_at hl 1 rfl) ?_
        refine lv_iload_n hx hb dJ7_fill_53178_12 rfl (lv_at hl 3 rfl) ?_
        refine va_iast (D := D) hx hb hK.1 hP hD hS 0 0 rfl rfl (by rw [ex_5]; exact vp_in_nI hk_5 (by omega)) dJ7_fill_53178_13 (fun H locs hP hD hS => ?_)
        have hP : va_P D vwCl (wI Y a n (upd f1 i.toNatClampNeg v)) H := hP
        have hD : va_D A (wI Y a n (upd f1 i.toNatClampNeg v)) := hD
        refine lv_iinc (v := i + 1) (lv' := [(2, .int (i + 1)), (3, .int (nI n)), (0, .ref a), (1, .int v)]) hx hb dJ7_fill_53178_14 hl (k := 1) rfl rfl (by decide) rfl (fun ls hl => ?_)
        refine lv_goto (tgt := 5) hx hb dJ7_fill_53178_17 (by decide) ?_
        exact ih_5 (k_5 + 1) (i + 1) (upd f1 i.toNatClampNeg v) _ _ _ (by omega) (by omega) (by rw [ex_5]; exact nI_1 k_5)  hP hD hS (lv_sub hl [1, 0, 2, 3] rfl) (by rw [L_J7_fill_53178_5, if_neg c_1] at hR_5; exact hR_5)
  exact loop_5 (n + 1) 0 0 f _ _ _ (by omega) (Nat.zero_le _) nI_0.symm  hP hD hS (lv_sub hl [0, 1, 2, 3] rfl) rfl
def D_X3_isVillager  (v : Int32) : (Int32) := if v < 0 then 0 else (if 9 ≤ v then 0 else 1)
set_option maxHeartbeats 4000000 in
set_option maxRecDepth 100000 in
theorem c_X3_isVillager (l : Launch) (D : va_G) (Y : YY) (sz : Nat) (v : Int32) : Met l yX3_isVillager wsX3_isVillager ({ frames := 0, cells := 0, slots := 0, locals := 0 } : Room) (va_Pc [.int v] (Pst D Y sz (([] : va_W)))) ((fun A : Nat → Prop => Qsi D (fun r9 w9 => r9 = D_X3_isVillager v ∧ w9 = ([] : va_W)) A) (va_A (([] : va_W)) sz)) 0 0 (va_A (([] : va_W)) sz) := by
  refine ct_in (cc := cX3_isVillager) (maxL := 1) (ret := (some .boolean)) (Qc := fun A : Nat → Prop => Qsi D (fun r9 w9 => r9 = D_X3_isVillager v ∧ w9 = ([] : va_W)) A) (by decide +kernel) rfl (Nat.le_of_ble_eq_true rfl) ?_
  intro p e s m below meth c A ls hx hb hr hts hown hml hlk hin hsz hA hP hD hK hS hl
  have hown : s.vm.findClass RX3 = some m.cls := hown
  have hl : lv_has ls 1 [(0, .int v)] := hl
  show W p l e ({ frames := 0, cells := 0, slots := 0, locals := 0 } : Room) s m ([.int v] : List Value).toArray below meth c s.heap [] 0 0 (MQ below (Qsi D (fun r9 w9 => r9 = D_X3_isVillager v ∧ w9 = ([] : va_W)) A) ([.int v] : List Value).toArray s 0 0 A) (F0 m 0 ls [])
  refine lv_iload_n hx hb dX3_isVillager_0 rfl (lv_at hl 0 rfl) ?_
  refine lv_if_lt (tgt := 14) hx hb dX3_isVillager_1 (by decide) (fun c_1 => ?_) (fun c_1 => ?_)
  · refine lv_iconst (v := 0) hx hb dX3_isVillager_14 (by decide) ?_
    have e9 : D_X3_isVillager v = 0 := by rw [D_X3_isVillager, if_pos c_1]
    exact ret_z hx hb hr rfl hlk hP hD hS dX3_isVillager_15 ⟨Nat.zero_le _, Nat.zero_le _⟩ ⟨e9.symm, rfl⟩
  · refine lv_iload_n hx hb dX3_isVillager_4 rfl (lv_at hl 0 rfl) ?_
    refine lv_bipush (v := 9) hx hb dX3_isVillager_5 (by decide) ?_
    refine lv_icmp_ge (tgt := 14) hx hb dX3_isVillager_7 (by decide) (fun c_2 => ?_) (fun c_2 => ?_)
    · refine lv_iconst (v := 0) hx hb dX3_isVillager_14 (by decide) ?_
      have e9 : D_X3_isVillager v = 0 := by rw [D_X3_isVillager, if_neg c_1, if_pos c_2]
      exact ret_z hx hb hr rfl hlk hP hD hS dX3_isVillager_15 ⟨Nat.zero_le _, Nat.zero_le _⟩ ⟨e9.symm, rfl⟩
    · refine lv_iconst (v := 1) hx hb dX3_isVillager_10 (by decide) ?_
      refine lv_goto (tgt := 15) hx hb dX3_isVillager_11 (by decide) ?_
      have e9 : D_X3_isVillager v = 1 := by rw [D_X3_isVillager, if_neg c_1, if_neg c_2]
      exact ret_z hx hb hr rfl hlk hP hD hS dX3_isVillager_15 ⟨Nat.zero_le _, Nat.zero_le _⟩ ⟨e9.symm, rfl⟩
theorem z_X3_isVillager  (v : Int32) : D_X3_isVillager v = 0 ∨ D_X3_isVillager v = 1 := by unfold D_X3_isVillager; (repeat' split) <;> simp
def D_X3_isNumber  (v : Int32) : (Int32) := if v < 0 then 0 else (if 999 < v then 0 else 1)
set_option maxHeartbeats 4000000 in
set_option maxRecDepth 100000 in
theorem c_X3_isNumber (l : Launch) (D : va_G) (Y : YY) (sz : Nat) (v : Int32) : Met l yX3_isNumber wsX3_isNumber ({ frames := 0, cells := 0, slots := 0, locals := 0 } : Room) (va_Pc [.int v] (Pst D Y sz (([] : va_W)))) ((fun A : Nat → Prop => Qsi D (fun r9 w9 => r9 = D_X3_isNumber v ∧ w9 = ([] : va_W)) A) (va_A (([] : va_W)) sz)) 0 0 (va_A (([] : va_W)) sz) := by
  refine ct_in (cc := cX3_isNumber) (maxL := 1) (ret := (some .boolean)) (Qc := fun A : Nat → Prop => Qsi D (fun r9 w9 => r9 = D_X3_isNumber v ∧ w9 = ([] : va_W)) A) (by decide +kernel) rfl (Nat.le_of_ble_eq_true rfl) ?_
  intro p e s m below meth c A ls hx hb hr hts hown hml hlk hin hsz hA hP hD hK hS hl
  have hown : s.vm.findClass RX3 = some m.cls := hown
  have hl : lv_has ls 1 [(0, .int v)] := hl
  show W p l e ({ frames := 0, cells := 0, slots := 0, locals := 0 } : Room) s m ([.int v] : List Value).toArray below meth c s.heap [] 0 0 (MQ below (Qsi D (fun r9 w9 => r9 = D_X3_isNumber v ∧ w9 = ([] : va_W)) A) ([.int v] : List Value).toArray s 0 0 A) (F0 m 0 ls [])
  refine lv_iload_n hx hb dX3_isNumber_0 rfl (lv_at hl 0 rfl) ?_
  refine lv_if_lt (tgt := 15) hx hb dX3_isNumber_1 (by decide) (fun c_1 => ?_) (fun c_1 => ?_)
  · refine lv_iconst (v := 0) hx hb dX3_isNumber_15 (by decide) ?_
    have e9 : D_X3_isNumber v = 0 := by rw [D_X3_isNumber, if_pos c_1]
    exact ret_z hx hb hr rfl hlk hP hD hS dX3_isNumber_16 ⟨Nat.zero_le _, Nat.zero_le _⟩ ⟨e9.symm, rfl⟩
  · refine lv_iload_n hx hb dX3_isNumber_4 rfl (lv_at hl 0 rfl) ?_
    refine lv_sipush (v := 999) hx hb dX3_isNumber_5 (by decide) ?_
    refine lv_icmp_gt (tgt := 15) hx hb dX3_isNumber_8 (by decide) (fun c_2 => ?_) (fun c_2 => ?_)
    · refine lv_iconst (v := 0) hx hb dX3_isNumber_15 (by decide) ?_
      have e9 : D_X3_isNumber v = 0 := by rw [D_X3_isNumber, if_neg c_1, if_pos c_2]
      exact ret_z hx hb hr rfl hlk hP hD hS dX3_isNumber_16 ⟨Nat.zero_le _, Nat.zero_le _⟩ ⟨e9.symm, rfl⟩
    · refine lv_iconst (v := 1) hx hb dX3_isNumber_11 (by decide) ?_
      refine lv_goto (tgt := 16) hx hb dX3_isNumber_12 (by decide) ?_
      have e9 : D_X3_isNumber v = 1 := by rw [D_X3_isNumber, if_neg c_1, if_neg c_2]
      exact ret_z hx hb hr rfl hlk hP hD hS dX3_isNumber_16 ⟨Nat.zero_le _, Nat.zero_le _⟩ ⟨e9.symm, rfl⟩
theorem z_X3_isNumber  (v : Int32) : D_X3_isNumber v = 0 ∨ D_X3_isNumber v = 1 := by unfold D_X3_isNumber; (repeat' split) <;> simp
def D_X3_isSlot  (v : Int32) : (Int32) := if v < 0 then 0 else (if 2 ≤ v then 0 else 1)
set_option maxHeartbeats 4000000 in
set_option maxRecDepth 100000 in
theorem c_X3_isSlot (l : Launch) (D : va_G) (Y : YY) (sz : Nat) (v : Int32) : Met l yX3_isSlot wsX3_isSlot ({ frames := 0, cells := 0, slots := 0, locals := 0 } : Room) (va_Pc [.int v] (Pst D Y sz (([] : va_W)))) ((fun A : Nat → Prop => Qsi D (fun r9 w9 => r9 = D_X3_isSlot v ∧ w9 = ([] : va_W)) A) (va_A (([] : va_W)) sz)) 0 0 (va_A (([] : va_W)) sz) := by
  refine ct_in (cc := cX3_isSlot) (maxL := 1) (ret := (some .boolean)) (Qc := fun A : Nat → Prop => Qsi D (fun r9 w9 => r9 = D_X3_isSlot v ∧ w9 = ([] : va_W)) A) (by decide +kernel) rfl (Nat.le_of_ble_eq_true rfl) ?_
  intro p e s m below meth c A ls hx hb hr hts hown hml hlk hin hsz hA hP hD hK hS hl
  have hown : s.vm.findClass RX3 = some m.cls := hown
  have hl : lv_has ls 1 [(0, .int v)] := hl
  show W p l e ({ frames := 0, cells := 0, slots := 0, locals := 0 } : Room) s m ([.int v] : List Value).toArray below meth c s.heap [] 0 0 (MQ below (Qsi D (fun r9 w9 => r9 = D_X3_isSlot v ∧ w9 = ([] : va_W)) A) ([.int v] : List Value).toArray s 0 0 A) (F0 m 0 ls [])
  refine lv_iload_n hx hb dX3_isSlot_0 rfl (lv_at hl 0 rfl) ?_
  refine lv_if_lt (tgt := 13) hx hb dX3_isSlot_1 (by decide) (fun c_1 => ?_) (fun c_1 => ?_)
  · refine lv_iconst (v := 0) hx hb dX3_isSlot_13 (by decide) ?_
    have e9 : D_X3_isSlot v = 0 := by rw [D_X3_isSlot, if_pos c_1]
    exact ret_z hx hb hr rfl hlk hP hD hS dX3_isSlot_14 ⟨Nat.zero_le _, Nat.zero_le _⟩ ⟨e9.symm, rfl⟩
  · refine lv_iload_n hx hb dX3_isSlot_4 rfl (lv_at hl 0 rfl) ?_
    refine lv_iconst (v := 2) hx hb dX3_isSlot_5 (by decide) ?_
    refine lv_icmp_ge (tgt := 13) hx hb dX3_isSlot_6 (by decide) (fun c_2 => ?_) (fun c_2 => ?_)
    · refine lv_iconst (v := 0) hx hb dX3_isSlot_13 (by decide) ?_
      have e9 : D_X3_isSlot v = 0 := by rw [D_X3_isSlot, if_neg c_1, if_pos c_2]
      exact ret_z hx hb hr rfl hlk hP hD hS dX3_isSlot_14 ⟨Nat.zero_le _, Nat.zero_le _⟩ ⟨e9.symm, rfl⟩
    · refine lv_iconst (v := 1) hx hb dX3_isSlot_9 (by decide) ?_
      refine lv_goto (tgt := 14) hx hb dX3_isSlot_10 (by decide) ?_
      have e9 : D_X3_isSlot v = 1 := by rw [D_X3_isSlot, if_neg c_1, if_neg c_2]
      exact ret_z hx hb hr rfl hlk hP hD hS dX3_isSlot_14 ⟨Nat.zero_le _, Nat.zero_le _⟩ ⟨e9.symm, rfl⟩
theorem z_X3_isSlot  (v : Int32) : D_X3_isSlot v = 0 ∨ D_X3_isSlot v = 1 := by unfold D_X3_isSlot; (repeat' split) <;> simp
def D_X3_remainderOf  (x : Int32) : (Int32) := D_J9_floorMod_7cf53 x 9
set_option maxHeartbeats 4000000 in
set_option maxRecDepth 100000 in
theorem c_X3_remainderOf (l : Launch) (D : va_G) (Y : YY) (sz : Nat) (x : Int32) : Met l yX3_remainderOf wsX3_remainderOf ({ frames := 1, cells := 0, slots := 0, locals := 22 } : Room) (va_Pc [.int x] (Pst D Y sz (([] : va_W)))) ((fun A : Nat → Prop => Qsi D (fun r9 w9 => r9 = D_X3_remainderOf x ∧ w9 = ([] : va_W)) A) (va_A (([] : va_W)) sz)) 0 0 (va_A (([] : va_W)) sz) := by
  refine ct_in (cc := cX3_remainderOf) (maxL := 1) (ret := (some .int)) (Qc := fun A : Nat → Prop => Qsi D (fun r9 w9 => r9 = D_X3_remainderOf x ∧ w9 = ([] : va_W)) A) (by decide +kernel) rfl (Nat.le_of_ble_eq_true rfl) ?_
  intro p e s m below meth c A ls hx hb hr hts hown hml hlk hin hsz hA hP hD hK hS hl
  have hown : s.vm.findClass RX3 = some m.cls := hown
  have hl : lv_has ls 1 [(0, .int x)] := hl
  show W p l e ({ frames := 1, cells := 0, slots := 0, locals := 22 } : Room) s m ([.int x] : List Value).toArray below meth c s.heap [] 0 0 (MQ below (Qsi D (fun r9 w9 => r9 = D_X3_remainderOf x ∧ w9 = ([] : va_W)) A) ([.int x] : List Value).toArray s 0 0 A) (F0 m 0 ls [])
  refine lv_iload_n hx hb dX3_remainderOf_0 rfl (lv_at hl 0 rfl) ?_
  refine lv_bipush (v := 9) hx hb dX3_remainderOf_1 (by decide) ?_
  refine ck_iD (wr := ([] : va_W)) (ws' := ([] : va_W)) (va_runS (As := [.int x, .int 9]) (rest := []) ⟨hx, hb, hml, hown, hts⟩ (c_J9_floorMod_7cf53 l D Y s.heap.size x 9 (by decide)) (va_cwS 2 hts gX3_remainderOf_J9_floorMod_7cf53 rfl rfl rfl (by decide +kernel) ⟨Nat.le_of_ble_eq_true rfl, Nat.le_of_ble_eq_true rfl⟩) (pst_S hK hP hD [] rfl (by decide)) rfl rfl hl.1 rfl (lv_room (Nat.le_of_ble_eq_true rfl)) dX3_remainderOf_3 ⟨Nat.zero_le _, Nat.zero_le _⟩) hP hD hS hA [] [] [] rfl rfl (by decide) (by decide) rfl (by decide) (fun H locs hP hD hS => ?_)
  have e9 : D_X3_remainderOf x = D_J9_floorMod_7cf53 x 9 := by rw [D_X3_remainderOf]
  exact ret_i hx hb hr hlk hP hD hS dX3_remainderOf_6 ⟨Nat.zero_le _, Nat.zero_le _⟩ ⟨e9.symm, rfl⟩
theorem sg0 (y : Int32) : 0 ≤ y ↔ y.toBitVec.msb = false := by
  rw [Int32.le_iff_toInt_le, BitVec.msb_eq_toInt, decide_eq_false_iff_not, Int.not_lt]
  exact Iff.rfl
theorem sgx (x : Int32) : 0 ≤ x ^^^ 9 ↔ 0 ≤ x.toInt := by
  rw [sg0, Int32.toBitVec_xor, BitVec.msb_xor, show (9 : Int32).toBitVec.msb = false from by decide, Bool.xor_false, BitVec.msb_eq_toInt, decide_eq_false_iff_not, Int.not_lt]
  exact Iff.rfl
theorem ti_fm (x : Int32) : (D_J9_floorMod_7cf53 x 9).toInt = x.toInt % 9 := by
  unfold D_J9_floorMod_7cf53
  rw [irem_eq_mod]
  have hm : (x % 9).toInt = x.toInt.tmod 9 := by rw [Int32.toInt_mod]; rfl
  by_cases h : 0 ≤ x ^^^ 9
  · rw [if_pos h, hm]
    have h1 := (sgx x).mp h
    rw [Int.tmod_eq_emod_of_nonneg h1]
  · rw [if_neg h]
    have h1 : ¬ 0 ≤ x.toInt := fun q => h ((sgx x).mpr q)
    have h2 : x.toInt.tmod 9 = -((-x.toInt) % 9) := by
      rw [← Int.tmod_eq_emod_of_nonneg (by omega : (0 : Int) ≤ -x.toInt), Int.neg_tmod, Int.neg_neg]
    by_cases h0 : x % 9 = 0
    · rw [if_pos h0, hm]
      have h3 : (x % 9).toInt = 0 := by rw [h0]; rfl
      rw [hm] at h3
      omega
    · rw [if_neg h0, Int32.toInt_add, hm, show (9 : Int32).toInt = 9 from rfl]
      have h3 : ¬ x.toInt.tmod 9 = 0 := fun q => h0 (Int32.toInt_inj.mp (by rw [hm, q]; rfl))
      rw [Int.bmod_eq_of_le_mul_two (by omega) (by omega)]
      omega
theorem ti_remainderOf (x : Int32) : (D_X3_remainderOf x).toInt = x.toInt % 9 := ti_fm x
theorem in_remainderOf (x : Int32) : vp_in (D_X3_remainderOf x) 9 := by
  rw [vp_in_iff, ti_remainderOf]
  omega
def D_X3_counterpart  (v : Int32) (n : Int32) : (Int32) := D_X3_remainderOf (n - v)
set_option maxHeartbeats 4000000 in
set_option maxRecDepth 100000 in
theorem c_X3_counterpart (l : Launch) (D : va_G) (Y : YY) (sz : Nat) (v : Int32) (n : Int32) : Met l yX3_counterpart wsX3_counterpart ({ frames := 2, cells := 0, slots := 0, locals := 42 } : Room) (va_Pc [.int v, .int n] (Pst D Y sz (([] : va_W)))) ((fun A : Nat → Prop => Qsi D (fun r9 w9 => r9 = D_X3_counterpart v n ∧ w9 = ([] : va_W)) A) (va_A (([] : va_W)) sz)) 0 0 (va_A (([] : va_W)) sz) := by
  refine ct_in (cc := cX3_counterpart) (maxL := 2) (ret := (some .int)) (Qc := fun A : Nat → Prop => Qsi D (fun r9 w9 => r9 = D_X3_counterpart v n ∧ w9 = ([] : va_W)) A) (by decide +kernel) rfl (Nat.le_of_ble_eq_true rfl) ?_
  intro p e s m below meth c A ls hx hb hr hts hown hml hlk hin hsz hA hP hD hK hS hl
  have hown : s.vm.findClass RX3 = some m.cls := hown
  have hl : lv_has ls 2 [(0, .int v), (1, .int n)] := hl
  show W p l e ({ frames := 2, cells := 0, slots := 0, locals := 42 } : Room) s m ([.int v, .int n] : List Value).toArray below meth c s.heap [] 0 0 (MQ below (Qsi D (fun r9 w9 => r9 = D_X3_counterpart v n ∧ w9 = ([] : va_W)) A) ([.int v, .int n] : List Value).toArray s 0 0 A) (F0 m 0 ls [])
  refine lv_iload_n hx hb dX3_counterpart_0 rfl (lv_at hl 1 rfl) ?_
  refine lv_iload_n hx hb dX3_counterpart_1 rfl (lv_at hl 0 rfl) ?_
  refine lv_isub hx hb dX3_counterpart_2 ?_
  refine ck_iD (wr := ([] : va_W)) (ws' := ([] : va_W)) (va_runS (As := [.int (n - v)]) (rest := []) ⟨hx, hb, hml, hown, hts⟩ (c_X3_remainderOf l D Y s.heap.size (n - v)) (va_cwS 1 hts gX3_counterpart_X3_remainderOf rfl rfl rfl (by decide +kernel) ⟨Nat.le_of_ble_eq_true rfl, Nat.le_of_ble_eq_true rfl⟩) (pst_S hK hP hD [] rfl (by decide)) rfl rfl hl.1 rfl (lv_room (Nat.le_of_ble_eq_true rfl)) dX3_counterpart_3 ⟨Nat.zero_le _, Nat.zero_le _⟩) hP hD hS hA [] [] [] rfl rfl (by decide) (by decide) rfl (by decide) (fun H locs hP hD hS => ?_)
  have e9 : D_X3_counterpart v n = D_X3_remainderOf (n - v) := by rw [D_X3_counterpart]
  exact ret_i hx hb hr hlk hP hD hS dX3_counterpart_6 ⟨Nat.zero_le _, Nat.zero_le _⟩ ⟨e9.symm, rfl⟩
theorem in_counterpart (v n : Int32) : vp_in (D_X3_counterpart v n) 9 := in_remainderOf _
def D_X3_pairIndex  (a : Int32) (b : Int32) : (Int32) := if b ≤ a then (b * 9) + a else (a * 9) + b
set_option maxHeartbeats 4000000 in
set_option maxRecDepth 100000 in
theorem c_X3_pairIndex (l : Launch) (D : va_G) (Y : YY) (sz : Nat) (a : Int32) (b : Int32) : Met l yX3_pairIndex wsX3_pairIndex ({ frames := 0, cells := 0, slots := 0, locals := 0 } : Room) (va_Pc [.int a, .int b] (Pst D Y sz (([] : va_W)))) ((fun A : Nat → Prop => Qsi D (fun r9 w9 => r9 = D_X3_pairIndex a b ∧ w9 = ([] : va_W)) A) (va_A (([] : va_W)) sz)) 0 0 (va_A (([] : va_W)) sz) := by
  refine ct_in (cc := cX3_pairIndex) (maxL := 2) (ret := (some .int)) (Qc := fun A : Nat → Prop => Qsi D (fun r9 w9 => r9 = D_X3_pairIndex a b ∧ w9 = ([] : va_W)) A) (by decide +kernel) rfl (Nat.le_of_ble_eq_true rfl) ?_
  intro p e s m below meth c A ls hx hb hr hts hown hml hlk hin hsz hA hP hD hK hS hl
  have hown : s.vm.findClass RX3 = some m.cls := hown
  have hl : lv_has ls 2 [(0, .int a), (1, .int b)] := hl
  show W p l e ({ frames := 0, cells := 0, slots := 0, locals := 0 } : Room) s m ([.int a, .int b] : List Value).toArray below meth c s.heap [] 0 0 (MQ below (Qsi D (fun r9 w9 => r9 = D_X3_pairIndex a b ∧ w9 = ([] : va_W)) A) ([.int a, .int b] : List Value).toArray s 0 0 A) (F0 m 0 ls [])
  refine lv_iload_n hx hb dX3_pairIndex_0 rfl (lv_at hl 0 rfl) ?_
  refine lv_iload_n hx hb dX3_pairIndex_1 rfl (lv_at hl 1 rfl) ?_
  refine lv_icmp_ge (tgt := 14) hx hb dX3_pairIndex_2 (by decide) (fun c_1 => ?_) (fun c_1 => ?_)
  · refine lv_iload_n hx hb dX3_pairIndex_14 rfl (lv_at hl 1 rfl) ?_
    refine lv_bipush (v := 9) hx hb dX3_pairIndex_15 (by decide) ?_
    refine lv_imul hx hb dX3_pairIndex_17 ?_
    refine lv_iload_n hx hb dX3_pairIndex_18 rfl (lv_at hl 0 rfl) ?_
    refine lv_iadd hx hb dX3_pairIndex_19 ?_
    have e9 : D_X3_pairIndex a b = (b * 9) + a := by rw [D_X3_pairIndex, if_pos c_1]
    exact ret_i hx hb hr hlk hP hD hS dX3_pairIndex_20 ⟨Nat.zero_le _, Nat.zero_le _⟩ ⟨e9.symm, rfl⟩
  · refine lv_iload_n hx hb dX3_pairIndex_5 rfl (lv_at hl 0 rfl) ?_
    refine lv_bipush (v := 9) hx hb dX3_pairIndex_6 (by decide) ?_
    refine lv_imul hx hb dX3_pairIndex_8 ?_
    refine lv_iload_n hx hb dX3_pairIndex_9 rfl (lv_at hl 1 rfl) ?_
    refine lv_iadd hx hb dX3_pairIndex_10 ?_
    refine lv_goto (tgt := 20) hx hb dX3_pairIndex_11 (by decide) ?_
    have e9 : D_X3_pairIndex a b = (a * 9) + b := by rw [D_X3_pairIndex, if_neg c_1]
    exact ret_i hx hb hr hlk hP hD hS dX3_pairIndex_20 ⟨Nat.zero_le _, Nat.zero_le _⟩ ⟨e9.symm, rfl⟩
theorem in_pairIndex {a b : Int32} (ha : vp_in a 9) (hb : vp_in b 9) : vp_in (D_X3_pairIndex a b) 81 := by
  obtain ⟨j, hj, rfl⟩ := vp_in_of ha (by decide)
  obtain ⟨k, hk, rfl⟩ := vp_in_of hb (by decide)
  unfold D_X3_pairIndex
  split <;> (rw [show (9 : Int32) = nI 9 from rfl, pk_mul, nI_add]; exact vp_in_nI (by omega) (by decide))
end
section
def D_X2_isThere (S : Nat → Nat → Int32) (v : Int32) : (Int32) := if ((S 10 0) &&& (1 <<< (v &&& 31))) = 0 then 0 else 1
set_option maxRecDepth 100000 in
theorem in_X2_isThere_RX2 : ∀ w ∈ u_ws RX2 TX2 13, w ∈ wsX2_isThere := by decide +kernel
set_option maxHeartbeats 4000000 in
set_option maxRecDepth 100000 in
theorem c_X2_isThere (l : Launch) (D : va_G) (Y : YY) (sz : Nat) (q : Nat → Nat) (S : Nat → Nat → Int32) (r : Nat) (v : Int32) : Met l yX2_isThere wsX2_isThere ({ frames := 0, cells := 0, slots := 0, locals := 0 } : Room) (va_Pc [.ref r, .int v] (Pst D Y sz (wR Y r q S))) ((fun A : Nat → Prop => Qsi D (fun r9 w9 => r9 = D_X2_isThere S v ∧ w9 = wR Y r q S) A) (va_A (wR Y r q S) sz)) 0 0 (va_A (wR Y r q S) sz) := by
  refine ct_in (cc := cX2_isThere) (maxL := 2) (ret := (some .boolean)) (Qc := fun A : Nat → Prop => Qsi D (fun r9 w9 => r9 = D_X2_isThere S v ∧ w9 = wR Y r q S) A) (by decide +kernel) rfl (Nat.le_of_ble_eq_true rfl) ?_
  intro p e s m below meth c A ls hx hb hr hts hown hml hlk hin hsz hA hP hD hK hS hl
  have hown : s.vm.findClass RX2 = some m.cls := hown
  have hl : lv_has ls 2 [(0, .ref r), (1, .int v)] := hl
  show W p l e ({ frames := 0, cells := 0, slots := 0, locals := 0 } : Room) s m ([.ref r, .int v] : List Value).toArray below meth c s.heap [] 0 0 (MQ below (Qsi D (fun r9 w9 => r9 = D_X2_isThere S v ∧ w9 = wR Y r q S) A) ([.ref r, .int v] : List Value).toArray s 0 0 A) (F0 m 0 ls [])
  refine lv_aload_n hx hb dX2_isThere_0 rfl (lv_at hl 0 rfl) ?_
  refine va_get (D := D) (ci := 2) (v := .int (S 10 0)) (C := RX2) (T := TX2) (N := 13) hx hb hts in_X2_isThere_RX2 hown hK.1 hP 0 rfl rfl 1 (by decide) (hts (.fieldLink RX2 15 "NineDancers$Ring" "there" "I") (by decide +kernel)) (fun _ h9 => h9) rfl dX2_isThere_1 ?_
  refine lv_iconst (v := 1) hx hb dX2_isThere_4 (by decide) ?_
  refine lv_iload_n hx hb dX2_isThere_5 rfl (lv_at hl 1 rfl) ?_
  refine lv_ishl hx hb dX2_isThere_6 ?_
  refine lv_iand hx hb dX2_isThere_7 ?_
  refine lv_if_eq (tgt := 15) hx hb dX2_isThere_8 (by decide) (fun c_1 => ?_) (fun c_1 => ?_)
  · refine lv_iconst (v := 0) hx hb dX2_isThere_15 (by decide) ?_
    have e9 : D_X2_isThere S v = 0 := by rw [D_X2_isThere, if_pos c_1]
    exact ret_z hx hb hr rfl hlk hP hD hS dX2_isThere_16 ⟨Nat.zero_le _, Nat.zero_le _⟩ ⟨e9.symm, rfl⟩
  · refine lv_iconst (v := 1) hx hb dX2_isThere_11 (by decide) ?_
    refine lv_goto (tgt := 16) hx hb dX2_isThere_12 (by decide) ?_
    have e9 : D_X2_isThere S v = 1 := by rw [D_X2_isThere, if_neg c_1]
    exact ret_z hx hb hr rfl hlk hP hD hS dX2_isThere_16 ⟨Nat.zero_le _, Nat.zero_le _⟩ ⟨e9.symm, rfl⟩
theorem z_X2_isThere (S : Nat → Nat → Int32) (v : Int32) : D_X2_isThere S v = 0 ∨ D_X2_isThere S v = 1 := by unfold D_X2_isThere; (repeat' split) <;> simp
def D_X2_wouldDance (S : Nat → Nat → Int32) (a : Int32) (b : Int32) : (Int32) := if (D_X2_isThere S a) = 0 then 0 else (if (D_X2_isThere S b) = 0 then 0 else (if (S 1 a.toNatClampNeg) < (S 0 (0 : Int32).toNatClampNeg) then 0 else (if (S 1 b.toNatClampNeg) < (S 0 (0 : Int32).toNatClampNeg) then 0 else 1)))
set_option maxRecDepth 100000 in
theorem in_X2_wouldDance_RX2 : ∀ w ∈ u_ws RX2 TX2 13, w ∈ wsX2_wouldDance := by decide +kernel
set_option maxHeartbeats 4000000 in
set_option maxRecDepth 100000 in
theorem c_X2_wouldDance (l : Launch) (D : va_G) (Y : YY) (sz : Nat) (q : Nat → Nat) (S : Nat → Nat → Int32) (r : Nat) (a : Int32) (b : Int32) (h_a : vp_in a 9) (h_b : vp_in b 9) : Met l yX2_wouldDance wsX2_wouldDance ({ frames := 1, cells := 0, slots := 0, locals := 21 } : Room) (va_Pc [.ref r, .int a, .int b] (Pst D Y sz (wR Y r q S))) ((fun A : Nat → Prop => Qsi D (fun r9 w9 => r9 = D_X2_wouldDance S a b ∧ w9 = wR Y r q S) A) (va_A (wR Y r q S) sz)) 0 0 (va_A (wR Y r q S) sz) := by
  refine ct_in (cc := cX2_wouldDance) (maxL := 3) (ret := (some .boolean)) (Qc := fun A : Nat → Prop => Qsi D (fun r9 w9 => r9 = D_X2_wouldDance S a b ∧ w9 = wR Y r q S) A) (by decide +kernel) rfl (Nat.le_of_ble_eq_true rfl) ?_
  intro p e s m below meth c A ls hx hb hr hts hown hml hlk hin hsz hA hP hD hK hS hl
  have hown : s.vm.findClass RX2 = some m.cls := hown
  have hl : lv_has ls 3 [(0, .ref r), (1, .int a), (2, .int b)] := hl
  show W p l e ({ frames := 1, cells := 0, slots := 0, locals := 21 } : Room) s m ([.ref r, .int a, .int b] : List Value).toArray below meth c s.heap [] 0 0 (MQ below (Qsi D (fun r9 w9 => r9 = D_X2_wouldDance S a b ∧ w9 = wR Y r q S) A) ([.ref r, .int a, .int b] : List Value).toArray s 0 0 A) (F0 m 0 ls [])
  refine lv_aload_n hx hb dX2_wouldDance_0 rfl (lv_at hl 0 rfl) ?_
  refine lv_iload_n hx hb dX2_wouldDance_1 rfl (lv_at hl 1 rfl) ?_
  refine ck_iD (wr := ([] : va_W)) (ws' := wR Y r q S) (va_runV (As := [.int a]) (rest := []) ⟨hx, hb, hml, hown, hts⟩ (c_X2_isThere l D Y s.heap.size q S r a) (cwV 1 hts gX2_wouldDance_X2_isThere rfl rfl rfl (by decide +kernel) ⟨Nat.le_of_ble_eq_true rfl, Nat.le_of_ble_eq_true rfl⟩) (pst_V hK hP hD [0, 1, 2, 3, 4, 5, 6, 7, 8, 9, 10] rfl (by decide) (q0 := 0) rfl rfl) rfl rfl hl.1 rfl (lv_room (Nat.le_of_ble_eq_true rfl)) dX2_wouldDance_2 ⟨Nat.zero_le _, Nat.zero_le _⟩) hP hD hS hA [0, 1, 2, 3, 4, 5, 6, 7, 8, 9, 10] [] [0, 1, 2, 3, 4, 5, 6, 7, 8, 9, 10] rfl rfl (by decide) (by decide) rfl (by decide) (fun H locs hP hD hS => ?_)
  refine lv_if_eq (tgt := 50) hx hb dX2_wouldDance_5 (by decide) (fun c_1 => ?_) (fun c_1 => ?_)
  · refine lv_iconst (v := 0) hx hb dX2_wouldDance_50 (by decide) ?_
    have e9 : D_X2_wouldDance S a b = 0 := by rw [D_X2_wouldDance, if_pos c_1]
    exact ret_z hx hb hr rfl hlk hP hD hS dX2_wouldDance_51 ⟨Nat.zero_le _, Nat.zero_le _⟩ ⟨e9.symm, rfl⟩
  · refine lv_aload_n hx hb dX2_wouldDance_8 rfl (lv_at hl 0 rfl) ?_
    refine lv_iload_n hx hb dX2_wouldDance_9 rfl (lv_at hl 2 rfl) ?_
    refine ck_iD (wr := ([] : va_W)) (ws' := wR Y r q S) (va_runV (As := [.int b]) (rest := []) ⟨hx, hb, hml, hown, hts⟩ (c_X2_isThere l D Y H.size q S r b) (cwV 1 hts gX2_wouldDance_X2_isThere rfl rfl rfl (by decide +kernel) ⟨Nat.le_of_ble_eq_true rfl, Nat.le_of_ble_eq_true rfl⟩) (pst_V hK hP hD [0, 1, 2, 3, 4, 5, 6, 7, 8, 9, 10] rfl (by decide) (q0 := 0) rfl rfl) rfl rfl hl.1 rfl (lv_room (Nat.le_of_ble_eq_true rfl)) dX2_wouldDance_10 ⟨Nat.zero_le _, Nat.zero_le _⟩) hP hD hS hA [0, 1, 2, 3, 4, 5, 6, 7, 8, 9, 10] [] [0, 1, 2, 3, 4, 5, 6, 7, 8, 9, 10] rfl rfl (by decide) (by decide) rfl (by decide) (fun H locs hP hD hS => ?_)
    refine lv_if_eq (tgt := 50) hx hb dX2_wouldDance_13 (by decide) (fun c_2 => ?_) (fun c_2 => ?_)
    · refine lv_iconst (v := 0) hx hb dX2_wouldDance_50 (by decide) ?_
      have e9 : D_X2_wouldDance S a b = 0 := by rw [D_X2_wouldDance, if_neg c_1, if_pos c_2]
      exact ret_z hx hb hr rfl hlk hP hD hS dX2_wouldDance_51 ⟨Nat.zero_le _, Nat.zero_le _⟩ ⟨e9.symm, rfl⟩
    · refine lv_aload_n hx hb dX2_wouldDance_16 rfl (lv_at hl 0 rfl) ?_
      refine va_get (D := D) (ci := 2) (v := .ref (q 1)) (C := RX2) (T := TX2) (N := 13) hx hb hts in_X2_wouldDance_RX2 hown hK.1 hP 0 rfl rfl 2 (by decide) (hts (.fieldLink RX2 19 "NineDancers$Ring" "strengths" "[I") (by decide +kernel)) (fun _ h9 => h9) rfl dX2_wouldDance_17 ?_
      refine lv_iload_n hx hb dX2_wouldDance_20 rfl (lv_at hl 1 rfl) ?_
      refine va_iald (D := D) hx hb hK.1 hP 2 0 rfl rfl h_a dX2_wouldDance_21 ?_
      refine lv_aload_n hx hb dX2_wouldDance_22 rfl (lv_at hl 0 rfl) ?_
      refine va_get (D := D) (ci := 2) (v := .ref (q 0)) (C := RX2) (T := TX2) (N := 13) hx hb hts in_X2_wouldDance_RX2 hown hK.1 hP 0 rfl rfl 0 (by decide) (hts (.fieldLink RX2 9 "NineDancers$Ring" "settings" "[I") (by decide +kernel)) (fun _ h9 => h9) rfl dX2_wouldDance_23 ?_
      refine lv_iconst (v := 0) hx hb dX2_wouldDance_26 (by decide) ?_
      refine va_iald (D := D) hx hb hK.1 hP 1 0 rfl rfl (by unfold vp_in; decide) dX2_wouldDance_27 ?_
      refine lv_icmp_lt (tgt := 50) hx hb dX2_wouldDance_28 (by decide) (fun c_3 => ?_) (fun c_3 => ?_)
      · refine lv_iconst (v := 0) hx hb dX2_wouldDance_50 (by decide) ?_
        have e9 : D_X2_wouldDance S a b = 0 := by rw [D_X2_wouldDance, if_neg c_1, if_neg c_2, if_pos c_3]
        exact ret_z hx hb hr rfl hlk hP hD hS dX2_wouldDance_51 ⟨Nat.zero_le _, Nat.zero_le _⟩ ⟨e9.symm, rfl⟩
      · refine lv_aload_n hx hb dX2_wouldDance_31 rfl (lv_at hl 0 rfl) ?_
        refine va_get (D := D) (ci := 2) (v := .ref (q 1)) (C := RX2) (T := TX2) (N := 13) hx hb hts in_X2_wouldDance_RX2 hown hK.1 hP 0 rfl rfl 2 (by decide) (hts (.fieldLink RX2 19 "NineDancers$Ring" "strengths" "[I") (by decide +kernel)) (fun _ h9 => h9) rfl dX2_wouldDance_32 ?_
        refine lv_iload_n hx hb dX2_wouldDance_35 rfl (lv_at hl 2 rfl) ?_
        refine va_iald (D := D) hx hb hK.1 hP 2 0 rfl rfl h_b dX2_wouldDance_36 ?_
        refine lv_aload_n hx hb dX2_wouldDance_37 rfl (lv_at hl 0 rfl) ?_
        refine va_get (D := D) (ci := 2) (v := .ref (q 0)) (C := RX2) (T := TX2) (N := 13) hx hb hts in_X2_wouldDance_RX2 hown hK.1 hP 0 rfl rfl 0 (by decide) (hts (.fieldLink RX2 9 "NineDancers$Ring" "settings" "[I") (by decide +kernel)) (fun _ h9 => h9) rfl dX2_wouldDance_38 ?_
        refine lv_iconst (v := 0) hx hb dX2_wouldDance_41 (by decide) ?_
        refine va_iald (D := D) hx hb hK.1 hP 1 0 rfl rfl (by unfold vp_in; decide) dX2_wouldDance_42 ?_
        refine lv_icmp_lt (tgt := 50) hx hb dX2_wouldDance_43 (by decide) (fun c_4 => ?_) (fun c_4 => ?_)
        · refine lv_iconst (v := 0) hx hb dX2_wouldDance_50 (by decide) ?_
          have e9 : D_X2_wouldDance S a b = 0 := by rw [D_X2_wouldDance, if_neg c_1, if_neg c_2, if_neg c_3, if_pos c_4]
          exact ret_z hx hb hr rfl hlk hP hD hS dX2_wouldDance_51 ⟨Nat.zero_le _, Nat.zero_le _⟩ ⟨e9.symm, rfl⟩
        · refine lv_iconst (v := 1) hx hb dX2_wouldDance_46 (by decide) ?_
          refine lv_goto (tgt := 51) hx hb dX2_wouldDance_47 (by decide) ?_
          have e9 : D_X2_wouldDance S a b = 1 := by rw [D_X2_wouldDance, if_neg c_1, if_neg c_2, if_neg c_3, if_neg c_4]
          exact ret_z hx hb hr rfl hlk hP hD hS dX2_wouldDance_51 ⟨Nat.zero_le _, Nat.zero_le _⟩ ⟨e9.symm, rfl⟩
theorem z_X2_wouldDance (S : Nat → Nat → Int32) (a : Int32) (b : Int32) : D_X2_wouldDance S a b = 0 ∨ D_X2_wouldDance S a b = 1 := by unfold D_X2_wouldDance; (repeat' split) <;> simp
def D_X2_joyOfEach (S : Nat → Nat → Int32) (a : Int32) (b : Int32) : (Int32) := (S 0 (2 : Int32).toNatClampNeg) + (S 6 (D_X3_pairIndex a b).toNatClampNeg)
set_option maxRecDepth 100000 in
theorem in_X2_joyOfEach_RX2 : ∀ w ∈ u_ws RX2 TX2 13, w ∈ wsX2_joyOfEach := by decide +kernel
set_option maxHeartbeats 4000000 in
set_option maxRecDepth 100000 in
theorem c_X2_joyOfEach (l : Launch) (D : va_G) (Y : YY) (sz : Nat) (q : Nat → Nat) (S : Nat → Nat → Int32) (r : Nat) (a : Int32) (b : Int32) (h_a : vp_in a 9) (h_b : vp_in b 9) : Met l yX2_joyOfEach wsX2_joyOfEach ({ frames := 1, cells := 0, slots := 0, locals := 21 } : Room) (va_Pc [.ref r, .int a, .int b] (Pst D Y sz (wR Y r q S))) ((fun A : Nat → Prop => Qsi D (fun r9 w9 => r9 = D_X2_joyOfEach S a b ∧ w9 = wR Y r q S) A) (va_A (wR Y r q S) sz)) 0 0 (va_A (wR Y r q S) sz) := by
  refine ct_in (cc := cX2_joyOfEach) (maxL := 3) (ret := (some .int)) (Qc := fun A : Nat → Prop => Qsi D (fun r9 w9 => r9 = D_X2_joyOfEach S a b ∧ w9 = wR Y r q S) A) (by decide +kernel) rfl (Nat.le_of_ble_eq_true rfl) ?_
  intro p e s m below meth c A ls hx hb hr hts hown hml hlk hin hsz hA hP hD hK hS hl
  have hown : s.vm.findClass RX2 = some m.cls := hown
  have hl : lv_has ls 3 [(0, .ref r), (1, .int a), (2, .int b)] := hl
  show W p l e ({ frames := 1, cells := 0, slots := 0, locals := 21 } : Room) s m ([.ref r, .int a, .int b] : List Value).toArray below meth c s.heap [] 0 0 (MQ below (Qsi D (fun r9 w9 => r9 = D_X2_joyOfEach S a b ∧ w9 = wR Y r q S) A) ([.ref r, .int a, .int b] : List Value).toArray s 0 0 A) (F0 m 0 ls [])
  refine lv_aload_n hx hb dX2_joyOfEach_0 rfl (lv_at hl 0 rfl) ?_
  refine va_get (D := D) (ci := 2) (v := .ref (q 0)) (C := RX2) (T := TX2) (N := 13) hx hb hts in_X2_joyOfEach_RX2 hown hK.1 hP 0 rfl rfl 0 (by decide) (hts (.fieldLink RX2 9 "NineDancers$Ring" "settings" "[I") (by decide +kernel)) (fun _ h9 => h9) rfl dX2_joyOfEach_1 ?_
  refine lv_iconst (v := 2) hx hb dX2_joyOfEach_4 (by decide) ?_
  refine va_iald (D := D) hx hb hK.1 hP 1 0 rfl rfl (by unfold vp_in; decide) dX2_joyOfEach_5 ?_
  refine lv_aload_n hx hb dX2_joyOfEach_6 rfl (lv_at hl 0 rfl) ?_
  refine va_get (D := D) (ci := 2) (v := .ref (q 6)) (C := RX2) (T := TX2) (N := 13) hx hb hts in_X2_joyOfEach_RX2 hown hK.1 hP 0 rfl rfl 7 (by decide) (hts (.fieldLink RX2 34 "NineDancers$Ring" "likings" "[I") (by decide +kernel)) (fun _ h9 => h9) rfl dX2_joyOfEach_7 ?_
  refine lv_iload_n hx hb dX2_joyOfEach_10 rfl (lv_at hl 1 rfl) ?_
  refine lv_iload_n hx hb dX2_joyOfEach_11 rfl (lv_at hl 2 rfl) ?_
  refine ck_iD (wr := wR Y r q S) (ws' := wR Y r q S) (va_runSN (As := [.int a, .int b]) (rest := [.ref (q 6), .int (S 0 (2 : Int32).toNatClampNeg)]) ⟨hx, hb, hml, hown, hts⟩ (c_X3_pairIndex l D Y s.heap.size a b) ⟨va_cnB 2 hts gX2_joyOfEach_X3_pairIndex_n107 rfl rfl rfl hK.2.2.2.1 (hts (.initialized RX3) (by decide +kernel)) (by decide +kernel) ⟨Nat.le_of_ble_eq_true rfl, Nat.le_of_ble_eq_true rfl⟩, hts (.static yX3_pairIndex) (by decide +kernel), trivial⟩ (pst_S hK hP hD [] rfl (by decide)) rfl rfl hl.1 rfl (lv_room (Nat.le_of_ble_eq_true rfl)) dX2_joyOfEach_12 ⟨Nat.zero_le _, Nat.zero_le _⟩) hP hD hS hA [] [0, 1, 2, 3, 4, 5, 6, 7, 8, 9, 10] [0, 1, 2, 3, 4, 5, 6, 7, 8, 9, 10] rfl rfl (by decide) (by decide) rfl (by decide) (fun H locs hP hD hS => ?_)
  refine va_iald (D := D) hx hb hK.1 hP 7 0 rfl rfl (in_pairIndex h_a h_b) dX2_joyOfEach_15 ?_
  refine lv_iadd hx hb dX2_joyOfEach_16 ?_
  have e9 : D_X2_joyOfEach S a b = (S 0 (2 : Int32).toNatClampNeg) + (S 6 (D_X3_pairIndex a b).toNatClampNeg) := by rw [D_X2_joyOfEach]
  exact ret_i hx hb hr hlk hP hD hS dX2_joyOfEach_17 ⟨Nat.zero_le _, Nat.zero_le _⟩ ⟨e9.symm, rfl⟩
def T_X2_takePart_1 (S : Nat → Nat → Int32) (v : Int32) (j : Int32) : Nat → Nat → Int32 := s2 S 2 v.toNatClampNeg ((S 2 v.toNatClampNeg) + j)
def T_X2_takePart_2 (v : Int32) (S_1 : Nat → Nat → Int32) : Nat → Nat → Int32 := s2 S_1 1 v.toNatClampNeg ((S_1 1 v.toNatClampNeg) - (S_1 0 (0 : Int32).toNatClampNeg))
def T_X2_takePart_3 (v : Int32) (S_2 : Nat → Nat → Int32) : Nat → Nat → Int32 := s2 S_2 3 v.toNatClampNeg ((S_2 3 v.toNatClampNeg) + 1)
def D_X2_takePart (S : Nat → Nat → Int32) (v : Int32) (j : Int32) : (Nat → Nat → Int32) := (T_X2_takePart_3 v (T_X2_takePart_2 v (T_X2_takePart_1 S v j)))
set_option maxRecDepth 100000 in
theorem in_X2_takePart_RX2 : ∀ w ∈ u_ws RX2 TX2 13, w ∈ wsX2_takePart := by decide +kernel
set_option maxHeartbeats 4000000 in
set_option maxRecDepth 100000 in
theorem c_X2_takePart (l : Launch) (D : va_G) (Y : YY) (sz : Nat) (q : Nat → Nat) (S : Nat → Nat → Int32) (r : Nat) (v : Int32) (j : Int32) (h_v : vp_in v 9) : Met l yX2_takePart wsX2_takePart ({ frames := 0, cells := 0, slots := 0, locals := 0 } : Room) (va_Pc [.ref r, .int v, .int j] (Pst D Y sz (wR Y r q S))) ((fun A : Nat → Prop => Qsv D (fun w9 => w9 = wR Y r q (D_X2_takePart S v j)) A) (va_A (wR Y r q S) sz)) 0 0 (va_A (wR Y r q S) sz) := by
  refine ct_in (cc := cX2_takePart) (maxL := 3) (ret := none) (Qc := fun A : Nat → Prop => Qsv D (fun w9 => w9 = wR Y r q (D_X2_takePart S v j)) A) (by decide +kernel) rfl (Nat.le_of_ble_eq_true rfl) ?_
  intro p e s m below meth c A ls hx hb hr hts hown hml hlk hin hsz hA hP hD hK hS hl
  have hown : s.vm.findClass RX2 = some m.cls := hown
  have hl : lv_has ls 3 [(0, .ref r), (1, .int v), (2, .int j)] := hl
  show W p l e ({ frames := 0, cells := 0, slots := 0, locals := 0 } : Room) s m ([.ref r, .int v, .int j] : List Value).toArray below meth c s.heap [] 0 0 (MQ below (Qsv D (fun w9 => w9 = wR Y r q (D_X2_takePart S v j)) A) ([.ref r, .int v, .int j] : List Value).toArray s 0 0 A) (F0 m 0 ls [])
  refine lv_aload_n hx hb dX2_takePart_0 rfl (lv_at hl 0 rfl) ?_
  refine va_get (D := D) (ci := 2) (v := .ref (q 2)) (C := RX2) (T := TX2) (N := 13) hx hb hts in_X2_takePart_RX2 hown hK.1 hP 0 rfl rfl 3 (by decide) (hts (.fieldLink RX2 22 "NineDancers$Ring" "joys" "[I") (by decide +kernel)) (fun _ h9 => h9) rfl dX2_takePart_1 ?_
  refine lv_iload_n hx hb dX2_takePart_4 rfl (lv_at hl 1 rfl) ?_
  refine lv_dup2_11 hx hb dX2_takePart_5 rfl rfl ?_
  refine va_iald (D := D) hx hb hK.1 hP 3 0 rfl rfl h_v dX2_takePart_6 ?_
  refine lv_iload_n hx hb dX2_takePart_7 rfl (lv_at hl 2 rfl) ?_
  refine lv_iadd hx hb dX2_takePart_8 ?_
  refine va_iast (D := D) hx hb hK.1 hP hD hS 3 0 rfl rfl h_v dX2_takePart_9 (fun H locs hP hD hS => ?_)
  have hP : va_P D vwCl (wR Y r q (T_X2_takePart_1 S v j)) H := hP
  have hD : va_D A (wR Y r q (T_X2_takePart_1 S v j)) := hD
  obtain ⟨S_1, eS_1⟩ : ∃ z9, T_X2_takePart_1 S v j = z9 := ⟨_, rfl⟩
  rw [eS_1] at hP hD
  refine lv_aload_n hx hb dX2_takePart_10 rfl (lv_at hl 0 rfl) ?_
  refine va_get (D := D) (ci := 2) (v := .ref (q 1)) (C := RX2) (T := TX2) (N := 13) hx hb hts in_X2_takePart_RX2 hown hK.1 hP 0 rfl rfl 2 (by decide) (hts (.fieldLink RX2 19 "NineDancers$Ring" "strengths" "[I") (by decide +kernel)) (fun _ h9 => h9) rfl dX2_takePart_11 ?_
  refine lv_iload_n hx hb dX2_takePart_14 rfl (lv_at hl 1 rfl) ?_
  refine lv_dup2_11 hx hb dX2_takePart_15 rfl rfl ?_
  refine va_iald (D := D) hx hb hK.1 hP 2 0 rfl rfl h_v dX2_takePart_16 ?_
  refine lv_aload_n hx hb dX2_takePart_17 rfl (lv_at hl 0 rfl) ?_
  refine va_get (D := D) (ci := 2) (v := .ref (q 0)) (C := RX2) (T := TX2) (N := 13) hx hb hts in_X2_takePart_RX2 hown hK.1 hP 0 rfl rfl 0 (by decide) (hts (.fieldLink RX2 9 "NineDancers$Ring" "settings" "[I") (by decide +kernel)) (fun _ h9 => h9) rfl dX2_takePart_18 ?_
  refine lv_iconst (v := 0) hx hb dX2_takePart_21 (by decide) ?_
  refine va_iald (D := D) hx hb hK.1 hP 1 0 rfl rfl (by unfold vp_in; decide) dX2_takePart_22 ?_
  refine lv_isub hx hb dX2_takePart_23 ?_
  refine va_iast (D := D) hx hb hK.1 hP hD hS 2 0 rfl rfl h_v dX2_takePart_24 (fun H locs hP hD hS => ?_)
  have hP : va_P D vwCl (wR Y r q (T_X2_takePart_2 v S_1)) H := hP
  have hD : va_D A (wR Y r q (T_X2_takePart_2 v S_1)) := hD
  obtain ⟨S_2, eS_2⟩ : ∃ z9, T_X2_takePart_2 v S_1 = z9 := ⟨_, rfl⟩
  rw [eS_2] at hP hD
  refine lv_aload_n hx hb dX2_takePart_25 rfl (lv_at hl 0 rfl) ?_
  refine va_get (D := D) (ci := 2) (v := .ref (q 3)) (C := RX2) (T := TX2) (N := 13) hx hb hts in_X2_takePart_RX2 hown hK.1 hP 0 rfl rfl 4 (by decide) (hts (.fieldLink RX2 25 "NineDancers$Ring" "roundsDanced" "[I") (by decide +kernel)) (fun _ h9 => h9) rfl dX2_takePart_26 ?_
  refine lv_iload_n hx hb dX2_takePart_29 rfl (lv_at hl 1 rfl) ?_
  refine lv_dup2_11 hx hb dX2_takePart_30 rfl rfl ?_
  refine va_iald (D := D) hx hb hK.1 hP 4 0 rfl rfl h_v dX2_takePart_31 ?_
  refine lv_iconst (v := 1) hx hb dX2_takePart_32 (by decide) ?_
  refine lv_iadd hx hb dX2_takePart_33 ?_
  refine va_iast (D := D) hx hb hK.1 hP hD hS 4 0 rfl rfl h_v dX2_takePart_34 (fun H locs hP hD hS => ?_)
  have hP : va_P D vwCl (wR Y r q (T_X2_takePart_3 v S_2)) H := hP
  have hD : va_D A (wR Y r q (T_X2_takePart_3 v S_2)) := hD
  obtain ⟨S_3, eS_3⟩ : ∃ z9, T_X2_takePart_3 v S_2 = z9 := ⟨_, rfl⟩
  rw [eS_3] at hP hD
  subst eS_3
  subst eS_2
  subst eS_1
  have e9 : D_X2_takePart S v j = (T_X2_takePart_3 v (T_X2_takePart_2 v (T_X2_takePart_1 S v j))) := by rw [D_X2_takePart]
  exact ret_v hx hb hr hlk hP hD hS dX2_takePart_35 ⟨Nat.zero_le _, Nat.zero_le _⟩ (by rw [e9])
def T_X2_rest_1 (S : Nat → Nat → Int32) (v : Int32) : Nat → Nat → Int32 := s2 S 4 v.toNatClampNeg ((S 4 v.toNatClampNeg) + 1)
def T_X2_rest_2 (v : Int32) (S_1 : Nat → Nat → Int32) : Nat → Nat → Int32 := s2 S_1 1 v.toNatClampNeg (if 20 < ((S_1 1 v.toNatClampNeg) + (S_1 0 (1 : Int32).toNatClampNeg)) then 20 else ((S_1 1 v.toNatClampNeg) + (S_1 0 (1 : Int32).toNatClampNeg)))
def D_X2_rest (S : Nat → Nat → Int32) (v : Int32) : (Nat → Nat → Int32) := if (D_X2_isThere S v) = 0 then S else (T_X2_rest_2 v (T_X2_rest_1 S v))
set_option maxRecDepth 100000 in
theorem in_X2_rest_RX2 : ∀ w ∈ u_ws RX2 TX2 13, w ∈ wsX2_rest := by decide +kernel
set_option maxHeartbeats 4000000 in
set_option maxRecDepth 100000 in
theorem c_X2_rest (l : Launch) (D : va_G) (Y : YY) (sz : Nat) (q : Nat → Nat) (S : Nat → Nat → Int32) (r : Nat) (v : Int32) (h_v : vp_in v 9) : Met l yX2_rest wsX2_rest ({ frames := 1, cells := 0, slots := 0, locals := 21 } : Room) (va_Pc [.ref r, .int v] (Pst D Y sz (wR Y r q S))) ((fun A : Nat → Prop => Qsv D (fun w9 => w9 = wR Y r q (D_X2_rest S v)) A) (va_A (wR Y r q S) sz)) 0 0 (va_A (wR Y r q S) sz) := by
  refine ct_in (cc := cX2_rest) (maxL := 2) (ret := none) (Qc := fun A : Nat → Prop => Qsv D (fun w9 => w9 = wR Y r q (D_X2_rest S v)) A) (by decide +kernel) rfl (Nat.le_of_ble_eq_true rfl) ?_
  intro p e s m below meth c A ls hx hb hr hts hown hml hlk hin hsz hA hP hD hK hS hl
  have hown : s.vm.findClass RX2 = some m.cls := hown
  have hl : lv_has ls 2 [(0, .ref r), (1, .int v)] := hl
  show W p l e ({ frames := 1, cells := 0, slots := 0, locals := 21 } : Room) s m ([.ref r, .int v] : List Value).toArray below meth c s.heap [] 0 0 (MQ below (Qsv D (fun w9 => w9 = wR Y r q (D_X2_rest S v)) A) ([.ref r, .int v] : List Value).toArray s 0 0 A) (F0 m 0 ls [])
  refine lv_aload_n hx hb dX2_rest_0 rfl (lv_at hl 0 rfl) ?_
  refine lv_iload_n hx hb dX2_rest_1 rfl (lv_at hl 1 rfl) ?_
  refine ck_iD (wr := ([] : va_W)) (ws' := wR Y r q S) (va_runV (As := [.int v]) (rest := []) ⟨hx, hb, hml, hown, hts⟩ (c_X2_isThere l D Y s.heap.size q S r v) (cwV 1 hts gX2_rest_X2_isThere rfl rfl rfl (by decide +kernel) ⟨Nat.le_of_ble_eq_true rfl, Nat.le_of_ble_eq_true rfl⟩) (pst_V hK hP hD [0, 1, 2, 3, 4, 5, 6, 7, 8, 9, 10] rfl (by decide) (q0 := 0) rfl rfl) rfl rfl hl.1 rfl (lv_room (Nat.le_of_ble_eq_true rfl)) dX2_rest_2 ⟨Nat.zero_le _, Nat.zero_le _⟩) hP hD hS hA [0, 1, 2, 3, 4, 5, 6, 7, 8, 9, 10] [] [0, 1, 2, 3, 4, 5, 6, 7, 8, 9, 10] rfl rfl (by decide) (by decide) rfl (by decide) (fun H locs hP hD hS => ?_)
  refine lv_if_eq (tgt := 42) hx hb dX2_rest_5 (by decide) (fun c_1 => ?_) (fun c_1 => ?_)
  · have e9 : D_X2_rest S v = S := by rw [D_X2_rest, if_pos c_1]
    exact ret_v hx hb hr hlk hP hD hS dX2_rest_42 ⟨Nat.zero_le _, Nat.zero_le _⟩ (by rw [e9])
  · refine lv_aload_n hx hb dX2_rest_8 rfl (lv_at hl 0 rfl) ?_
    refine va_get (D := D) (ci := 2) (v := .ref (q 4)) (C := RX2) (T := TX2) (N := 13) hx hb hts in_X2_rest_RX2 hown hK.1 hP 0 rfl rfl 5 (by decide) (hts (.fieldLink RX2 28 "NineDancers$Ring" "roundsRested" "[I") (by decide +kernel)) (fun _ h9 => h9) rfl dX2_rest_9 ?_
    refine lv_iload_n hx hb dX2_rest_12 rfl (lv_at hl 1 rfl) ?_
    refine lv_dup2_11 hx hb dX2_rest_13 rfl rfl ?_
    refine va_iald (D := D) hx hb hK.1 hP 5 0 rfl rfl h_v dX2_rest_14 ?_
    refine lv_iconst (v := 1) hx hb dX2_rest_15 (by decide) ?_
    refine lv_iadd hx hb dX2_rest_16 ?_
    refine va_iast (D := D) hx hb hK.1 hP hD hS 5 0 rfl rfl h_v dX2_rest_17 (fun H locs hP hD hS => ?_)
    have hP : va_P D vwCl (wR Y r q (T_X2_rest_1 S v)) H := hP
    have hD : va_D A (wR Y r q (T_X2_rest_1 S v)) := hD
    obtain ⟨S_1, eS_1⟩ : ∃ z9, T_X2_rest_1 S v = z9 := ⟨_, rfl⟩
    rw [eS_1] at hP hD
    refine lv_aload_n hx hb dX2_rest_18 rfl (lv_at hl 0 rfl) ?_
    refine va_get (D := D) (ci := 2) (v := .ref (q 1)) (C := RX2) (T := TX2) (N := 13) hx hb hts in_X2_rest_RX2 hown hK.1 hP 0 rfl rfl 2 (by decide) (hts (.fieldLink RX2 19 "NineDancers$Ring" "strengths" "[I") (by decide +kernel)) (fun _ h9 => h9) rfl dX2_rest_19 ?_
    refine lv_iload_n hx hb dX2_rest_22 rfl (lv_at hl 1 rfl) ?_
    refine lv_aload_n hx hb dX2_rest_23 rfl (lv_at hl 0 rfl) ?_
    refine va_get (D := D) (ci := 2) (v := .ref (q 1)) (C := RX2) (T := TX2) (N := 13) hx hb hts in_X2_rest_RX2 hown hK.1 hP 0 rfl rfl 2 (by decide) (hts (.fieldLink RX2 19 "NineDancers$Ring" "strengths" "[I") (by decide +kernel)) (fun _ h9 => h9) rfl dX2_rest_24 ?_
    refine lv_iload_n hx hb dX2_rest_27 rfl (lv_at hl 1 rfl) ?_
    refine va_iald (D := D) hx hb hK.1 hP 2 0 rfl rfl h_v dX2_rest_28 ?_
    refine lv_aload_n hx hb dX2_rest_29 rfl (lv_at hl 0 rfl) ?_
    refine va_get (D := D) (ci := 2) (v := .ref (q 0)) (C := RX2) (T := TX2) (N := 13) hx hb hts in_X2_rest_RX2 hown hK.1 hP 0 rfl rfl 0 (by decide) (hts (.fieldLink RX2 9 "NineDancers$Ring" "settings" "[I") (by decide +kernel)) (fun _ h9 => h9) rfl dX2_rest_30 ?_
    refine lv_iconst (v := 1) hx hb dX2_rest_33 (by decide) ?_
    refine va_iald (D := D) hx hb hK.1 hP 1 0 rfl rfl (by unfold vp_in; decide) dX2_rest_34 ?_
    refine lv_iadd hx hb dX2_rest_35 ?_
    refine lv_bipush (v := 20) hx hb dX2_rest_36 (by decide) ?_
    refine va_mmin hx hb (by rw [hml]; exact hl.1.symm) hown (hts (.methodLink RX2 63 Lib.Math.min.name) (by decide +kernel)) (hts (.static Lib.Math.min.name) (by decide +kernel)) (hts (.initialized "java/lang/Math") (by decide +kernel)) (hts (.code Lib.Math.min.name Lib.Math.min.code 2 (some .int)) (by decide +kernel)) (Nat.le_of_ble_eq_true rfl) (Nat.le_of_ble_eq_true rfl) (Nat.zero_le _) (Nat.zero_le _) dX2_rest_38 ?_
    refine va_iast (D := D) hx hb hK.1 hP hD hS 2 0 rfl rfl h_v dX2_rest_41 (fun H locs hP hD hS => ?_)
    have hP : va_P D vwCl (wR Y r q (T_X2_rest_2 v S_1)) H := hP
    have hD : va_D A (wR Y r q (T_X2_rest_2 v S_1)) := hD
    obtain ⟨S_2, eS_2⟩ : ∃ z9, T_X2_rest_2 v S_1 = z9 := ⟨_, rfl⟩
    rw [eS_2] at hP hD
    subst eS_2
    subst eS_1
    have e9 : D_X2_rest S v = (T_X2_rest_2 v (T_X2_rest_1 S v)) := by rw [D_X2_rest, if_neg c_1]
    exact ret_v hx hb hr hlk hP hD hS dX2_rest_42 ⟨Nat.zero_le _, Nat.zero_le _⟩ (by rw [e9])
def T_X2_leaveAlone_1 (S : Nat → Nat → Int32) (v : Int32) : Nat → Nat → Int32 := s2 S 5 v.toNatClampNeg ((S 5 v.toNatClampNeg) + 1)
def D_X2_leaveAlone (S : Nat → Nat → Int32) (v : Int32) : (Nat → Nat → Int32) := if (D_X2_isThere S v) = 0 then S else (D_X2_rest (T_X2_leaveAlone_1 S v) v)
set_option maxRecDepth 100000 in
theorem in_X2_leaveAlone_RX2 : ∀ w ∈ u_ws RX2 TX2 13, w ∈ wsX2_leaveAlone := by decide +kernel
set_option maxHeartbeats 4000000 in
set_option maxRecDepth 100000 in
theorem c_X2_leaveAlone (l : Launch) (D : va_G) (Y : YY) (sz : Nat) (q : Nat → Nat) (S : Nat → Nat → Int32) (r : Nat) (v : Int32) (h_v : vp_in v 9) : Met l yX2_leaveAlone wsX2_leaveAlone ({ frames := 2, cells := 0, slots := 0, locals := 42 } : Room) (va_Pc [.ref r, .int v] (Pst D Y sz (wR Y r q S))) ((fun A : Nat → Prop => Qsv D (fun w9 => w9 = wR Y r q (D_X2_leaveAlone S v)) A) (va_A (wR Y r q S) sz)) 0 0 (va_A (wR Y r q S) sz) := by
  refine ct_in (cc := cX2_leaveAlone) (maxL := 2) (ret := none) (Qc := fun A : Nat → Prop => Qsv D (fun w9 => w9 = wR Y r q (D_X2_leaveAlone S v)) A) (by decide +kernel) rfl (Nat.le_of_ble_eq_true rfl) ?_
  intro p e s m below meth c A ls hx hb hr hts hown hml hlk hin hsz hA hP hD hK hS hl
  have hown : s.vm.findClass RX2 = some m.cls := hown
  have hl : lv_has ls 2 [(0, .ref r), (1, .int v)] := hl
  show W p l e ({ frames := 2, cells := 0, slots := 0, locals := 42 } : Room) s m ([.ref r, .int v] : List Value).toArray below meth c s.heap [] 0 0 (MQ below (Qsv D (fun w9 => w9 = wR Y r q (D_X2_leaveAlone S v)) A) ([.ref r, .int v] : List Value).toArray s 0 0 A) (F0 m 0 ls [])
  refine lv_aload_n hx hb dX2_leaveAlone_0 rfl (lv_at hl 0 rfl) ?_
  refine lv_iload_n hx hb dX2_leaveAlone_1 rfl (lv_at hl 1 rfl) ?_
  refine ck_iD (wr := ([] : va_W)) (ws' := wR Y r q S) (va_runV (As := [.int v]) (rest := []) ⟨hx, hb, hml, hown, hts⟩ (c_X2_isThere l D Y s.heap.size q S r v) (cwV 1 hts gX2_leaveAlone_X2_isThere rfl rfl rfl (by decide +kernel) ⟨Nat.le_of_ble_eq_true rfl, Nat.le_of_ble_eq_true rfl⟩) (pst_V hK hP hD [0, 1, 2, 3, 4, 5, 6, 7, 8, 9, 10] rfl (by decide) (q0 := 0) rfl rfl) rfl rfl hl.1 rfl (lv_room (Nat.le_of_ble_eq_true rfl)) dX2_leaveAlone_2 ⟨Nat.zero_le _, Nat.zero_le _⟩) hP hD hS hA [0, 1, 2, 3, 4, 5, 6, 7, 8, 9, 10] [] [0, 1, 2, 3, 4, 5, 6, 7, 8, 9, 10] rfl rfl (by decide) (by decide) rfl (by decide) (fun H locs hP hD hS => ?_)
  refine lv_if_eq (tgt := 23) hx hb dX2_leaveAlone_5 (by decide) (fun c_1 => ?_) (fun c_1 => ?_)
  · have e9 : D_X2_leaveAlone S v = S := by rw [D_X2_leaveAlone, if_pos c_1]
    exact ret_v hx hb hr hlk hP hD hS dX2_leaveAlone_23 ⟨Nat.zero_le _, Nat.zero_le _⟩ (by rw [e9])
  · refine lv_aload_n hx hb dX2_leaveAlone_8 rfl (lv_at hl 0 rfl) ?_
    refine va_get (D := D) (ci := 2) (v := .ref (q 5)) (C := RX2) (T := TX2) (N := 13) hx hb hts in_X2_leaveAlone_RX2 hown hK.1 hP 0 rfl rfl 6 (by decide) (hts (.fieldLink RX2 31 "NineDancers$Ring" "roundsAlone" "[I") (by decide +kernel)) (fun _ h9 => h9) rfl dX2_leaveAlone_9 ?_
    refine lv_iload_n hx hb dX2_leaveAlone_12 rfl (lv_at hl 1 rfl) ?_
    refine lv_dup2_11 hx hb dX2_leaveAlone_13 rfl rfl ?_
    refine va_iald (D := D) hx hb hK.1 hP 6 0 rfl rfl h_v dX2_leaveAlone_14 ?_
    refine lv_iconst (v := 1) hx hb dX2_leaveAlone_15 (by decide) ?_
    refine lv_iadd hx hb dX2_leaveAlone_16 ?_
    refine va_iast (D := D) hx hb hK.1 hP hD hS 6 0 rfl rfl h_v dX2_leaveAlone_17 (fun H locs hP hD hS => ?_)
    have hP : va_P D vwCl (wR Y r q (T_X2_leaveAlone_1 S v)) H := hP
    have hD : va_D A (wR Y r q (T_X2_leaveAlone_1 S v)) := hD
    obtain ⟨S_1, eS_1⟩ : ∃ z9, T_X2_leaveAlone_1 S v = z9 := ⟨_, rfl⟩
    rw [eS_1] at hP hD
    refine lv_aload_n hx hb dX2_leaveAlone_18 rfl (lv_at hl 0 rfl) ?_
    refine lv_iload_n hx hb dX2_leaveAlone_19 rfl (lv_at hl 1 rfl) ?_
    refine ck_vD (wr := ([] : va_W)) (ws' := wR Y r q (D_X2_rest S_1 v)) (va_runV (As := [.int v]) (rest := []) ⟨hx, hb, hml, hown, hts⟩ (c_X2_rest l D Y H.size q S_1 r v h_v) (cwV 1 hts gX2_leaveAlone_X2_rest rfl rfl rfl (by decide +kernel) ⟨Nat.le_of_ble_eq_true rfl, Nat.le_of_ble_eq_true rfl⟩) (pst_V hK hP hD [0, 1, 2, 3, 4, 5, 6, 7, 8, 9, 10] rfl (by decide) (q0 := 0) rfl rfl) rfl rfl hl.1 rfl (lv_room (Nat.le_of_ble_eq_true rfl)) dX2_leaveAlone_20 ⟨Nat.zero_le _, Nat.zero_le _⟩) hP hD hS hA [0, 1, 2, 3, 4, 5, 6, 7, 8, 9, 10] [] [0, 1, 2, 3, 4, 5, 6, 7, 8, 9, 10] rfl rfl (by decide) (by decide) rfl (by decide) (fun H locs hP hD hS => ?_)
    obtain ⟨S_2, eS_2⟩ : ∃ z9, (D_X2_rest S_1 v) = z9 := ⟨_, rfl⟩
    rw [eS_2] at hP hD
    subst eS_2
    subst eS_1
    have e9 : D_X2_leaveAlone S v = (D_X2_rest (T_X2_leaveAlone_1 S v) v) := by rw [D_X2_leaveAlone, if_neg c_1]
    exact ret_v hx hb hr hlk hP hD hS dX2_leaveAlone_23 ⟨Nat.zero_le _, Nat.zero_le _⟩ (by rw [e9])
def T_X2_dance_1 (a : Int32) (b : Int32) (S_2 : Nat → Nat → Int32) : Nat → Nat → Int32 := s2 S_2 7 (D_X3_pairIndex a b).toNatClampNeg ((S_2 7 (D_X3_pairIndex a b).toNatClampNeg) + 1)
def T_X2_dance_2 (a : Int32) (b : Int32) (S_3 : Nat → Nat → Int32) : Nat → Nat → Int32 := s2 S_3 8 (D_X3_pairIndex a b).toNatClampNeg (S_3 10 1)
def D_X2_dance (S : Nat → Nat → Int32) (a : Int32) (b : Int32) : (Nat → Nat → Int32) := (T_X2_dance_2 a b (T_X2_dance_1 a b (D_X2_takePart (D_X2_takePart S a (D_X2_joyOfEach S a b)) b (D_X2_joyOfEach S a b))))
set_option maxRecDepth 100000 in
theorem in_X2_dance_RX2 : ∀ w ∈ u_ws RX2 TX2 13, w ∈ wsX2_dance := by decide +kernel
set_option maxHeartbeats 4000000 in
set_option maxRecDepth 100000 in
theorem c_X2_dance (l : Launch) (D : va_G) (Y : YY) (sz : Nat) (q : Nat → Nat) (S : Nat → Nat → Int32) (r : Nat) (a : Int32) (b : Int32) (h_a : vp_in a 9) (h_b : vp_in b 9) : Met l yX2_dance wsX2_dance ({ frames := 2, cells := 0, slots := 0, locals := 43 } : Room) (va_Pc [.ref r, .int a, .int b] (Pst D Y sz (wR Y r q S))) ((fun A : Nat → Prop => Qsv D (fun w9 => w9 = wR Y r q (D_X2_dance S a b)) A) (va_A (wR Y r q S) sz)) 0 0 (va_A (wR Y r q S) sz) := by
  refine ct_in (cc := cX2_dance) (maxL := 5) (ret := none) (Qc := fun A : Nat → Prop => Qsv D (fun w9 => w9 = wR Y r q (D_X2_dance S a b)) A) (by decide +kernel) rfl (Nat.le_of_ble_eq_true rfl) ?_
  intro p e s m below meth c A ls hx hb hr hts hown hml hlk hin hsz hA hP hD hK hS hl
  have hown : s.vm.findClass RX2 = some m.cls := hown
  have hl : lv_has ls 5 [(0, .ref r), (1, .int a), (2, .int b)] := hl
  show W p l e ({ frames := 2, cells := 0, slots := 0, locals := 43 } : Room) s m ([.ref r, .int a, .int b] : List Value).toArray below meth c s.heap [] 0 0 (MQ below (Qsv D (fun w9 => w9 = wR Y r q (D_X2_dance S a b)) A) ([.ref r, .int a, .int b] : List Value).toArray s 0 0 A) (F0 m 0 ls [])
  refine lv_aload_n hx hb dX2_dance_0 rfl (lv_at hl 0 rfl) ?_
  refine lv_iload_n hx hb dX2_dance_1 rfl (lv_at hl 1 rfl) ?_
  refine lv_iload_n hx hb dX2_dance_2 rfl (lv_at hl 2 rfl) ?_
  refine ck_iD (wr := ([] : va_W)) (ws' := wR Y r q S) (va_runV (As := [.int a, .int b]) (rest := []) ⟨hx, hb, hml, hown, hts⟩ (c_X2_joyOfEach l D Y s.heap.size q S r a b h_a h_b) (cwV 2 hts gX2_dance_X2_joyOfEach rfl rfl rfl (by decide +kernel) ⟨Nat.le_of_ble_eq_true rfl, Nat.le_of_ble_eq_true rfl⟩) (pst_V hK hP hD [0, 1, 2, 3, 4, 5, 6, 7, 8, 9, 10] rfl (by decide) (q0 := 0) rfl rfl) rfl rfl hl.1 rfl (lv_room (Nat.le_of_ble_eq_true rfl)) dX2_dance_3 ⟨Nat.zero_le _, Nat.zero_le _⟩) hP hD hS hA [0, 1, 2, 3, 4, 5, 6, 7, 8, 9, 10] [] [0, 1, 2, 3, 4, 5, 6, 7, 8, 9, 10] rfl rfl (by decide) (by decide) rfl (by decide) (fun H locs hP hD hS => ?_)
  refine lv_istore_n (lv' := [(3, .int (D_X2_joyOfEach S a b)), (0, .ref r), (1, .int a), (2, .int b)]) hx hb dX2_dance_6 rfl hl (by decide) rfl (fun ls hl => ?_)
  refine lv_aload_n hx hb dX2_dance_7 rfl (lv_at hl 1 rfl) ?_
  refine lv_iload_n hx hb dX2_dance_8 rfl (lv_at hl 2 rfl) ?_
  refine lv_iload_n hx hb dX2_dance_9 rfl (lv_at hl 0 rfl) ?_
  refine ck_vD (wr := ([] : va_W)) (ws' := wR Y r q (D_X2_takePart S a (D_X2_joyOfEach S a b))) (va_runV (As := [.int a, .int (D_X2_joyOfEach S a b)]) (rest := []) ⟨hx, hb, hml, hown, hts⟩ (c_X2_takePart l D Y H.size q S r a (D_X2_joyOfEach S a b) h_a) (cwV 2 hts gX2_dance_X2_takePart rfl rfl rfl (by decide +kernel) ⟨Nat.le_of_ble_eq_true rfl, Nat.le_of_ble_eq_true rfl⟩) (pst_V hK hP hD [0, 1, 2, 3, 4, 5, 6, 7, 8, 9, 10] rfl (by decide) (q0 := 0) rfl rfl) rfl rfl hl.1 rfl (lv_room (Nat.le_of_ble_eq_true rfl)) dX2_dance_10 ⟨Nat.zero_le _, Nat.zero_le _⟩) hP hD hS hA [0, 1, 2, 3, 4, 5, 6, 7, 8, 9, 10] [] [0, 1, 2, 3, 4, 5, 6, 7, 8, 9, 10] rfl rfl (by decide) (by decide) rfl (by decide) (fun H locs hP hD hS => ?_)
  obtain ⟨S_1, eS_1⟩ : ∃ z9, (D_X2_takePart S a (D_X2_joyOfEach S a b)) = z9 := ⟨_, rfl⟩
  rw [eS_1] at hP hD
  refine lv_aload_n hx hb dX2_dance_13 rfl (lv_at hl 1 rfl) ?_
  refine lv_iload_n hx hb dX2_dance_14 rfl (lv_at hl 3 rfl) ?_
  refine lv_iload_n hx hb dX2_dance_15 rfl (lv_at hl 0 rfl) ?_
  refine ck_vD (wr := ([] : va_W)) (ws' := wR Y r q (D_X2_takePart S_1 b (D_X2_joyOfEach S a b))) (va_runV (As := [.int b, .int (D_X2_joyOfEach S a b)]) (rest := []) ⟨hx, hb, hml, hown, hts⟩ (c_X2_takePart l D Y H.size q S_1 r b (D_X2_joyOfEach S a b) h_b) (cwV 2 hts gX2_dance_X2_takePart rfl rfl rfl (by decide +kernel) ⟨Nat.le_of_ble_eq_true rfl, Nat.le_of_ble_eq_true rfl⟩) (pst_V hK hP hD [0, 1, 2, 3, 4, 5, 6, 7, 8, 9, 10] rfl (by decide) (q0 := 0) rfl rfl) rfl rfl hl.1 rfl (lv_room (Nat.le_of_ble_eq_true rfl)) dX2_dance_16 ⟨Nat.zero_le _, Nat.zero_le _⟩) hP hD hS hA [0, 1, 2, 3, 4, 5, 6, 7, 8, 9, 10] [] [0, 1, 2, 3, 4, 5, 6, 7, 8, 9, 10] rfl rfl (by decide) (by decide) rfl (by decide) (fun H locs hP hD hS => ?_)
  obtain ⟨S_2, eS_2⟩ : ∃ z9, (D_X2_takePart S_1 b (D_X2_joyOfEach S a b)) = z9 := ⟨_, rfl⟩
  rw [eS_2] at hP hD
  refine lv_iload_n hx hb dX2_dance_19 rfl (lv_at hl 2 rfl) ?_
  refine lv_iload_n hx hb dX2_dance_20 rfl (lv_at hl 3 rfl) ?_
  refine ck_iD (wr := wR Y r q S_2) (ws' := wR Y r q S_2) (va_runSN (As := [.int a, .int b]) (rest := []) ⟨hx, hb, hml, hown, hts⟩ (c_X3_pairIndex l D Y H.size a b) ⟨va_cnB 2 hts gX2_dance_X3_pairIndex_n107 rfl rfl rfl hK.2.2.2.1 (hts (.initialized RX3) (by decide +kernel)) (by decide +kernel) ⟨Nat.le_of_ble_eq_true rfl, Nat.le_of_ble_eq_true rfl⟩, hts (.static yX3_pairIndex) (by decide +kernel), trivial⟩ (pst_S hK hP hD [] rfl (by decide)) rfl rfl hl.1 rfl (lv_room (Nat.le_of_ble_eq_true rfl)) dX2_dance_21 ⟨Nat.zero_le _, Nat.zero_le _⟩) hP hD hS hA [] [0, 1, 2, 3, 4, 5, 6, 7, 8, 9, 10] [0, 1, 2, 3, 4, 5, 6, 7, 8, 9, 10] rfl rfl (by decide) (by decide) rfl (by decide) (fun H locs hP hD hS => ?_)
  refine lv_istore (lv' := [(4, .int (D_X3_pairIndex a b)), (3, .int (D_X2_joyOfEach S a b)), (0, .ref r), (1, .int a), (2, .int b)]) hx hb dX2_dance_24 hl (by decide) rfl (fun ls hl => ?_)
  refine lv_aload_n hx hb dX2_dance_26 rfl (lv_at hl 2 rfl) ?_
  refine va_get (D := D) (ci := 2) (v := .ref (q 7)) (C := RX2) (T := TX2) (N := 13) hx hb hts in_X2_dance_RX2 hown hK.1 hP 0 rfl rfl 8 (by decide) (hts (.fieldLink RX2 37 "NineDancers$Ring" "dances" "[I") (by decide +kernel)) (fun _ h9 => h9) rfl dX2_dance_27 ?_
  refine lv_iload hx hb dX2_dance_30 (lv_at hl 0 rfl) ?_
  refine lv_dup2_11 hx hb dX2_dance_32 rfl rfl ?_
  refine va_iald (D := D) hx hb hK.1 hP 8 0 rfl rfl (in_pairIndex h_a h_b) dX2_dance_33 ?_
  refine lv_iconst (v := 1) hx hb dX2_dance_34 (by decide) ?_
  refine lv_iadd hx hb dX2_dance_35 ?_
  refine va_iast (D := D) hx hb hK.1 hP hD hS 8 0 rfl rfl (in_pairIndex h_a h_b) dX2_dance_36 (fun H locs hP hD hS => ?_)
  have hP : va_P D vwCl (wR Y r q (T_X2_dance_1 a b S_2)) H := hP
  have hD : va_D A (wR Y r q (T_X2_dance_1 a b S_2)) := hD
  obtain ⟨S_3, eS_3⟩ : ∃ z9, T_X2_dance_1 a b S_2 = z9 := ⟨_, rfl⟩
  rw [eS_3] at hP hD
  refine lv_aload_n hx hb dX2_dance_37 rfl (lv_at hl 2 rfl) ?_
  refine va_get (D := D) (ci := 2) (v := .ref (q 8)) (C := RX2) (T := TX2) (N := 13) hx hb hts in_X2_dance_RX2 hown hK.1 hP 0 rfl rfl 9 (by decide) (hts (.fieldLink RX2 40 "NineDancers$Ring" "lastDances" "[I") (by decide +kernel)) (fun _ h9 => h9) rfl dX2_dance_38 ?_
  refine lv_iload hx hb dX2_dance_41 (lv_at hl 0 rfl) ?_
  refine lv_aload_n hx hb dX2_dance_43 rfl (lv_at hl 2 rfl) ?_
  refine va_get (D := D) (ci := 2) (v := .int (S_3 10 1)) (C := RX2) (T := TX2) (N := 13) hx hb hts in_X2_dance_RX2 hown hK.1 hP 0 rfl rfl 11 (by decide) (hts (.fieldLink RX2 46 "NineDancers$Ring" "rounds" "I") (by decide +kernel)) (fun _ h9 => h9) rfl dX2_dance_44 ?_
  refine va_iast (D := D) hx hb hK.1 hP hD hS 9 0 rfl rfl (in_pairIndex h_a h_b) dX2_dance_47 (fun H locs hP hD hS => ?_)
  have hP : va_P D vwCl (wR Y r q (T_X2_dance_2 a b S_3)) H := hP
  have hD : va_D A (wR Y r q (T_X2_dance_2 a b S_3)) := hD
  obtain ⟨S_4, eS_4⟩ : ∃ z9, T_X2_dance_2 a b S_3 = z9 := ⟨_, rfl⟩
  rw [eS_4] at hP hD
  subst eS_4
  subst eS_3
  subst eS_2
  subst eS_1
  have e9 : D_X2_dance S a b = (T_X2_dance_2 a b (T_X2_dance_1 a b (D_X2_takePart (D_X2_takePart S a (D_X2_joyOfEach S a b)) b (D_X2_joyOfEach S a b)))) := by rw [D_X2_dance]
  exact ret_v hx hb hr hlk hP hD hS dX2_dance_48 ⟨Nat.zero_le _, Nat.zero_le _⟩ (by rw [e9])
def L_X2_danceRound_4 (S : Nat → Nat → Int32) (n : Int32) : Nat → (Int32) → (Int32) → (Nat → Nat → Int32) → (Int32) × (Nat → Nat → Int32)
  | 0, i, pz, S1 => (pz, S1)
  | n_4 + 1, i, pz, S1 => if 9 ≤ i then (pz, S1) else (if i = (D_X3_counterpart i n) then (L_X2_danceRound_4 S n n_4 (i + 1) pz (D_X2_rest S1 i)) else (if (D_X3_counterpart i n) ≤ i then (if (D_X3_counterpart i n) ≤ i then (L_X2_danceRound_4 S n n_4 (i + 1) pz S1) else (L_X2_danceRound_4 S n n_4 (i + 1) pz (D_X2_leaveAlone (D_X2_leaveAlone S1 i) (D_X3_counterpart i n)))) else (if (D_X2_wouldDance S1 i (D_X3_counterpart i n)) = 0 then (if (D_X3_counterpart i n) ≤ i then (L_X2_danceRound_4 S n n_4 (i + 1) pz S1) else (L_X2_danceRound_4 S n n_4 (i + 1) pz (D_X2_leaveAlone (D_X2_leaveAlone S1 i) (D_X3_counterpart i n)))) else (L_X2_danceRound_4 S n n_4 (i + 1) (pz + 1) (D_X2_dance S1 i (D_X3_counterpart i n))))))
def T_X2_danceRound_1 (n : Int32) (S1 : Nat → Nat → Int32) : Nat → Nat → Int32 := s2 S1 9 (D_X3_remainderOf n).toNatClampNeg ((S1 9 (D_X3_remainderOf n).toNatClampNeg) + 1)
def T_X2_danceRound_2 (n : Int32) (S_1 : Nat → Nat → Int32) : Nat → Nat → Int32 := s2 S_1 10 2 n
def T_X2_danceRound_3 (S_2 : Nat → Nat → Int32) : Nat → Nat → Int32 := s2 S_2 10 1 ((S_2 10 1) + 1)
def D_X2_danceRound (S : Nat → Nat → Int32) (n : Int32) : (Int32) × (Nat → Nat → Int32) := (((L_X2_danceRound_4 S n 10 0 0 S).1), (T_X2_danceRound_3 (T_X2_danceRound_2 n (T_X2_danceRound_1 n ((L_X2_danceRound_4 S n 10 0 0 S).2)))))
set_option maxRecDepth 100000 in
theorem in_X2_danceRound_RX2 : ∀ w ∈ u_ws RX2 TX2 13, w ∈ wsX2_danceRound := by decide +kernel
set_option maxHeartbeats 4000000 in
set_option maxRecDepth 100000 in
theorem c_X2_danceRound (l : Launch) (D : va_G) (Y : YY) (sz : Nat) (q : Nat → Nat) (S : Nat → Nat → Int32) (r : Nat) (n : Int32) : Met l yX2_danceRound wsX2_danceRound ({ frames := 3, cells := 0, slots := 0, locals := 67 } : Room) (va_Pc [.ref r, .int n] (Pst D Y sz (wR Y r q S))) ((fun A : Nat → Prop => Qsi D (fun r9 w9 => r9 = (D_X2_danceRound S n).1 ∧ w9 = wR Y r q ((D_X2_danceRound S n).2)) A) (va_A (wR Y r q S) sz)) 0 0 (va_A (wR Y r q S) sz) := by
  refine ct_in (cc := cX2_danceRound) (maxL := 5) (ret := (some .int)) (Qc := fun A : Nat → Prop => Qsi D (fun r9 w9 => r9 = (D_X2_danceRound S n).1 ∧ w9 = wR Y r q ((D_X2_danceRound S n).2)) A) (by decide +kernel) rfl (Nat.le_of_ble_eq_true rfl) ?_
  intro p e s m below meth c A ls hx hb hr hts hown hml hlk hin hsz hA hP hD hK hS hl
  have hown : s.vm.findClass RX2 = some m.cls := hown
  have hl : lv_has ls 5 [(0, .ref r), (1, .int n)] := hl
  show W p l e ({ frames := 3, cells := 0, slots := 0, locals := 67 } : Room) s m ([.ref r, .int n] : List Value).toArray below meth c s.heap [] 0 0 (MQ below (Qsi D (fun r9 w9 => r9 = (D_X2_danceRound S n).1 ∧ w9 = wR Y r q ((D_X2_danceRound S n).2)) A) ([.ref r, .int n] : List Value).toArray s 0 0 A) (F0 m 0 ls [])
  refine lv_iconst (v := 0) hx hb dX2_danceRound_0 (by decide) ?_
  refine lv_istore_n (lv' := [(2, .int 0), (0, .ref r), (1, .int n)]) hx hb dX2_danceRound_1 rfl hl (by decide) rfl (fun ls hl => ?_)
  refine lv_iconst (v := 0) hx hb dX2_danceRound_2 (by decide) ?_
  refine lv_istore_n (lv' := [(3, .int 0), (2, .int 0), (0, .ref r), (1, .int n)]) hx hb dX2_danceRound_3 rfl hl (by decide) rfl (fun ls hl => ?_)
  have loop_4 : ∀ (n_4 k_4 : Nat) (i : Int32) (pz : Int32) (S1 : Nat → Nat → Int32) (H : Heap) (locs : List Loc) (ls : Array Slot), 10 ≤ k_4 + n_4 → k_4 ≤ 9 → i = nI k_4 → va_P D vwCl (wR Y r q S1) H → va_D A (wR Y r q S1) → va_S A s.heap H locs → lv_has ls 5 [(3, .int i), (2, .int pz), (0, .ref r), (1, .int n)] → L_X2_danceRound_4 S n n_4 i pz S1 = L_X2_danceRound_4 S n 10 0 0 S → W p l e ({ frames := 3, cells := 0, slots := 0, locals := 67 } : Room) s m ([.ref r, .int n] : List Value).toArray below meth c H locs 0 0 (MQ below (Qsi D (fun r9 w9 => r9 = (D_X2_danceRound S n).1 ∧ w9 = wR Y r q ((D_X2_danceRound S n).2)) A) ([.ref r, .int n] : List Value).toArray s 0 0 A) (F0 m 4 ls []) := by
    intro n_4
    induction n_4 with
    | zero => intro k_4 i pz S1 H locs ls hkf hkN_4 ex_4 hP hD hS hl hR_4; exact absurd hkf (by omega)
    | succ n_4 ih_4 =>
      intro k_4 i pz S1 H locs ls hkf hkN_4 ex_4 hP hD hS hl hR_4
      refine lv_iload_n hx hb dX2_danceRound_4 rfl (lv_at hl 0 rfl) ?_
      refine lv_bipush (v := 9) hx hb dX2_danceRound_5 (by decide) ?_
      refine lv_icmp_ge (tgt := 83) hx hb dX2_danceRound_7 (by decide) (fun c_1 => ?_) (fun c_1 => ?_)
      · have e8 : L_X2_danceRound_4 S n (n_4 + 1) i pz S1 = (pz, S1) := by rw [L_X2_danceRound_4, if_pos c_1]
        have e8 := hR_4.symm.trans e8
        have epz : (L_X2_danceRound_4 S n 10 0 0 S).1 = pz := by rw [e8]
        have eS1 : (L_X2_danceRound_4 S n 10 0 0 S).2 = S1 := by rw [e8]
        clear e8 hR_4 ih_4
        refine lv_aload_n hx hb dX2_danceRound_83 rfl (lv_at hl 2 rfl) ?_
        refine va_get (D := D) (ci := 2) (v := .ref (q 9)) (C := RX2) (T := TX2) (N := 13) hx hb hts in_X2_danceRound_RX2 hown hK.1 hP 0 rfl rfl 10 (by decide) (hts (.fieldLink RX2 43 "NineDancers$Ring" "timesTold" "[I") (by decide +kernel)) (fun _ h9 => h9) rfl dX2_danceRound_84 ?_
        refine lv_iload_n hx hb dX2_danceRound_87 rfl (lv_at hl 3 rfl) ?_
        refine ck_iD (wr := wR Y r q S1) (ws' := wR Y r q S1) (va_runSN (As := [.int n]) (rest := [.ref (q 9)]) ⟨hx, hb, hml, hown, hts⟩ (c_X3_remainderOf l D Y H.size n) ⟨va_cnB 1 hts gX2_danceRound_X3_remainderOf_n93 rfl rfl rfl hK.2.2.2.2 (hts (.initialized RX3) (by decide +kernel)) (by decide +kernel) ⟨Nat.le_of_ble_eq_true rfl, Nat.le_of_ble_eq_true rfl⟩, hts (.static yX3_remainderOf) (by decide +kernel), trivial⟩ (pst_S hK hP hD [] rfl (by decide)) rfl rfl hl.1 rfl (lv_room (Nat.le_of_ble_eq_true rfl)) dX2_danceRound_88 ⟨Nat.zero_le _, Nat.zero_le _⟩) hP hD hS hA [] [0, 1, 2, 3, 4, 5, 6, 7, 8, 9, 10] [0, 1, 2, 3, 4, 5, 6, 7, 8, 9, 10] rfl rfl (by decide) (by decide) rfl (by decide) (fun H locs hP hD hS => ?_)
        refine lv_dup2_11 hx hb dX2_danceRound_91 rfl rfl ?_
        refine va_iald (D := D) hx hb hK.1 hP 10 0 rfl rfl (in_remainderOf _) dX2_danceRound_92 ?_
        refine lv_iconst (v := 1) hx hb dX2_danceRound_93 (by decide) ?_
        refine lv_iadd hx hb dX2_danceRound_94 ?_
        refine va_iast (D := D) hx hb hK.1 hP hD hS 10 0 rfl rfl (in_remainderOf _) dX2_danceRound_95 (fun H locs hP hD hS => ?_)
        have hP : va_P D vwCl (wR Y r q (T_X2_danceRound_1 n S1)) H := hP
        have hD : va_D A (wR Y r q (T_X2_danceRound_1 n S1)) := hD
        obtain ⟨S_1, eS_1⟩ : ∃ z9, T_X2_danceRound_1 n S1 = z9 := ⟨_, rfl⟩
        rw [eS_1] at hP hD
        refine lv_aload_n hx hb dX2_danceRound_96 rfl (lv_at hl 2 rfl) ?_
        refine lv_iload_n hx hb dX2_danceRound_97 rfl (lv_at hl 3 rfl) ?_
        refine va_put (D := D) (ci := 2) (v := .int n) (ty := .int) (C := RX2) (T := TX2) (N := 13) hx hb hts in_X2_danceRound_RX2 tyX2 tyX2_ok nmX2 hown hK.1 hP hD hS 0 rfl rfl 12 (by decide) (hts (.fieldLink RX2 50 "NineDancers$Ring" "lastNumber" "I") (by decide +kernel)) (fun _ h9 => h9) rfl (by decide +kernel) rfl rfl (Nat.le_of_ble_eq_true rfl) dX2_danceRound_98 (fun H locs hP hD hS => ?_)
        have hP : va_P D vwCl (wR Y r q (T_X2_danceRound_2 n S_1)) H := hP
        have hD : va_D A (wR Y r q (T_X2_danceRound_2 n S_1)) := hD
        obtain ⟨S_2, eS_2⟩ : ∃ z9, T_X2_danceRound_2 n S_1 = z9 := ⟨_, rfl⟩
        rw [eS_2] at hP hD
        refine lv_aload_n hx hb dX2_danceRound_101 rfl (lv_at hl 2 rfl) ?_
        refine lv_dup hx hb dX2_danceRound_102 rfl ?_
        refine va_get (D := D) (ci := 2) (v := .int (S_2 10 1)) (C := RX2) (T := TX2) (N := 13) hx hb hts in_X2_danceRound_RX2 hown hK.1 hP 0 rfl rfl 11 (by decide) (hts (.fieldLink RX2 46 "NineDancers$Ring" "rounds" "I") (by decide +kernel)) (fun _ h9 => h9) rfl dX2_danceRound_103 ?_
        refine lv_iconst (v := 1) hx hb dX2_danceRound_106 (by decide) ?_
        refine lv_iadd hx hb dX2_danceRound_107 ?_
        refine va_put (D := D) (ci := 2) (v := .int ((S_2 10 1) + 1)) (ty := .int) (C := RX2) (T := TX2) (N := 13) hx hb hts in_X2_danceRound_RX2 tyX2 tyX2_ok nmX2 hown hK.1 hP hD hS 0 rfl rfl 11 (by decide) (hts (.fieldLink RX2 46 "NineDancers$Ring" "rounds" "I") (by decide +kernel)) (fun _ h9 => h9) rfl (by decide +kernel) rfl rfl (Nat.le_of_ble_eq_true rfl) dX2_danceRound_108 (fun H locs hP hD hS => ?_)
        have hP : va_P D vwCl (wR Y r q (T_X2_danceRound_3 S_2)) H := hP
        have hD : va_D A (wR Y r q (T_X2_danceRound_3 S_2)) := hD
        obtain ⟨S_3, eS_3⟩ : ∃ z9, T_X2_danceRound_3 S_2 = z9 := ⟨_, rfl⟩
        rw [eS_3] at hP hD
        refine lv_iload_n hx hb dX2_danceRound_111 rfl (lv_at hl 1 rfl) ?_
        subst eS_3
        subst eS_2
        subst eS_1
        subst eS1
        subst epz
        have e9 : D_X2_danceRound S n = (((L_X2_danceRound_4 S n 10 0 0 S).1), (T_X2_danceRound_3 (T_X2_danceRound_2 n (T_X2_danceRound_1 n ((L_X2_danceRound_4 S n 10 0 0 S).2))))) := by rw [D_X2_danceRound]
        exact ret_i hx hb hr hlk hP hD hS dX2_danceRound_112 ⟨Nat.zero_le _, Nat.zero_le _⟩ ⟨by rw [e9], by rw [e9]⟩
      · have hk_4 := my_lt ex_4 (show (9 : Int32) = nI 9 from rfl) (by decide) hkN_4 c_1
        refine lv_iload_n hx hb dX2_danceRound_10 rfl (lv_at hl 0 rfl) ?_
        refine lv_iload_n hx hb dX2_danceRound_11 rfl (lv_at hl 3 rfl) ?_
        refine ck_iD (wr := wR Y r q S1) (ws' := wR Y r q S1) (va_runSN (As := [.int i, .int n]) (rest := []) ⟨hx, hb, hml, hown, hts⟩ (c_X3_counterpart l D Y H.size i n) ⟨va_cnB 2 hts gX2_danceRound_X3_counterpart_n75 rfl rfl rfl hK.2.2.1 (hts (.initialized RX3) (by decide +kernel)) (by decide +kernel) ⟨Nat.le_of_ble_eq_true rfl, Nat.le_of_ble_eq_true rfl⟩, hts (.static yX3_counterpart) (by decide +kernel), trivial⟩ (pst_S hK hP hD [] rfl (by decide)) rfl rfl hl.1 rfl (lv_room (Nat.le_of_ble_eq_true rfl)) dX2_danceRound_12 ⟨Nat.zero_le _, Nat.zero_le _⟩) hP hD hS hA [] [0, 1, 2, 3, 4, 5, 6, 7, 8, 9, 10] [0, 1, 2, 3, 4, 5, 6, 7, 8, 9, 10] rfl rfl (by decide) (by decide) rfl (by decide) (fun H locs hP hD hS => ?_)
        refine lv_istore (lv' := [(4, .int (D_X3_counterpart i n)), (3, .int i), (2, .int pz), (0, .ref r), (1, .int n)]) hx hb dX2_danceRound_15 hl (by decide) rfl (fun ls hl => ?_)
        refine lv_iload_n hx hb dX2_danceRound_17 rfl (lv_at hl 1 rfl) ?_
        refine lv_iload hx hb dX2_danceRound_18 (lv_at hl 0 rfl) ?_
        refine lv_icmp_ne (tgt := 31) hx hb dX2_danceRound_20 (by decide) (fun c_2 => ?_) (fun c_2 => ?_)
        · refine lv_iload_n hx hb dX2_danceRound_31 rfl (lv_at hl 1 rfl) ?_
          refine lv_iload hx hb dX2_danceRound_32 (lv_at hl 0 rfl) ?_
          refine lv_icmp_ge (tgt := 60) hx hb dX2_danceRound_34 (by decide) (fun c_3 => ?_) (fun c_3 => ?_)
          · refine lv_iload_n hx hb dX2_danceRound_60 rfl (lv_at hl 1 rfl) ?_
            refine lv_iload hx hb dX2_danceRound_61 (lv_at hl 0 rfl) ?_
            refine lv_icmp_ge (tgt := 77) hx hb dX2_danceRound_63 (by decide) (fun c_4 => ?_) (fun c_4 => ?_)
            · refine lv_iinc (v := i + 1) (lv' := [(3, .int (i + 1)), (4, .int (D_X3_counterpart i n)), (2, .int pz), (0, .ref r), (1, .int n)]) hx hb dX2_danceRound_77 hl (k := 1) rfl rfl (by decide) rfl (fun ls hl => ?_)
              refine lv_goto (tgt := 4) hx hb dX2_danceRound_80 (by decide) ?_
              exact ih_4 (k_4 + 1) (i + 1) pz S1 _ _ _ (by omega) (by omega) (by rw [ex_4]; exact nI_1 k_4)  hP hD hS (lv_sub hl [0, 2, 3, 4] rfl) (by rw [L_X2_danceRound_4, if_neg c_1, if_neg c_2, if_pos c_3, if_pos c_4] at hR_4; exact hR_4)
            · refine lv_aload_n hx hb dX2_danceRound_66 rfl (lv_at hl 3 rfl) ?_
              refine lv_iload_n hx hb dX2_danceRound_67 rfl (lv_at hl 1 rfl) ?_
              refine ck_vD (wr := ([] : va_W)) (ws' := wR Y r q (D_X2_leaveAlone S1 i)) (va_runV (As := [.int i]) (rest := []) ⟨hx, hb, hml, hown, hts⟩ (c_X2_leaveAlone l D Y H.size q S1 r i (by rw [ex_4]; exact vp_in_nI hk_4 (by decide))) (cwV 1 hts gX2_danceRound_X2_leaveAlone rfl rfl rfl (by decide +kernel) ⟨Nat.le_of_ble_eq_true rfl, Nat.le_of_ble_eq_true rfl⟩) (pst_V hK hP hD [0, 1, 2, 3, 4, 5, 6, 7, 8, 9, 10] rfl (by decide) (q0 := 0) rfl rfl) rfl rfl hl.1 rfl (lv_room (Nat.le_of_ble_eq_true rfl)) dX2_danceRound_68 ⟨Nat.zero_le _, Nat.zero_le _⟩) hP hD hS hA [0, 1, 2, 3, 4, 5, 6, 7, 8, 9, 10] [] [0, 1, 2, 3, 4, 5, 6, 7, 8, 9, 10] rfl rfl (by decide) (by decide) rfl (by decide) (fun H locs hP hD hS => ?_)
              obtain ⟨S_4, eS_4⟩ : ∃ z9, (D_X2_leaveAlone S1 i) = z9 := ⟨_, rfl⟩
              rw [eS_4] at hP hD
              refine lv_aload_n hx hb dX2_danceRound_71 rfl (lv_at hl 3 rfl) ?_
              refine lv_iload hx hb dX2_danceRound_72 (lv_at hl 0 rfl) ?_
              refine ck_vD (wr := ([] : va_W)) (ws' := wR Y r q (D_X2_leaveAlone S_4 (D_X3_counterpart i n))) (va_runV (As := [.int (D_X3_counterpart i n)]) (rest := []) ⟨hx, hb, hml, hown, hts⟩ (c_X2_leaveAlone l D Y H.size q S_4 r (D_X3_counterpart i n) (in_counterpart _ _)) (cwV 1 hts gX2_danceRound_X2_leaveAlone rfl rfl rfl (by decide +kernel) ⟨Nat.le_of_ble_eq_true rfl, Nat.le_of_ble_eq_true rfl⟩) (pst_V hK hP hD [0, 1, 2, 3, 4, 5, 6, 7, 8, 9, 10] rfl (by decide) (q0 := 0) rfl rfl) rfl rfl hl.1 rfl (lv_room (Nat.le_of_ble_eq_true rfl)) dX2_danceRound_74 ⟨Nat.zero_le _, Nat.zero_le _⟩) hP hD hS hA [0, 1, 2, 3, 4, 5, 6, 7, 8, 9, 10] [] [0, 1, 2, 3, 4, 5, 6, 7, 8, 9, 10] rfl rfl (by decide) (by decide) rfl (by decide) (fun H locs hP hD hS => ?_)
              obtain ⟨S_5, eS_5⟩ : ∃ z9, (D_X2_leaveAlone S_4 (D_X3_counterpart i n)) = z9 := ⟨_, rfl⟩
              rw [eS_5] at hP hD
              refine lv_iinc (v := i + 1) (lv' := [(3, .int (i + 1)), (4, .int (D_X3_counterpart i n)), (2, .int pz), (0, .ref r), (1, .int n)]) hx hb dX2_danceRound_77 hl (k := 1) rfl rfl (by decide) rfl (fun ls hl => ?_)
              refine lv_goto (tgt := 4) hx hb dX2_danceRound_80 (by decide) ?_
              subst eS_5
              subst eS_4
              exact ih_4 (k_4 + 1) (i + 1) pz (D_X2_leaveAlone (D_X2_leaveAlone S1 i) (D_X3_counterpart i n)) _ _ _ (by omega) (by omega) (by rw [ex_4]; exact nI_1 k_4)  hP hD hS (lv_sub hl [0, 2, 3, 4] rfl) (by rw [L_X2_danceRound_4, if_neg c_1, if_neg c_2, if_pos c_3, if_neg c_4] at hR_4; exact hR_4)
          · refine lv_aload_n hx hb dX2_danceRound_37 rfl (lv_at hl 3 rfl) ?_
            refine lv_iload_n hx hb dX2_danceRound_38 rfl (lv_at hl 1 rfl) ?_
            refine lv_iload hx hb dX2_danceRound_39 (lv_at hl 0 rfl) ?_
            refine ck_iD (wr := ([] : va_W)) (ws' := wR Y r q S1) (va_runV (As := [.int i, .int (D_X3_counterpart i n)]) (rest := []) ⟨hx, hb, hml, hown, hts⟩ (c_X2_wouldDance l D Y H.size q S1 r i (D_X3_counterpart i n) (by rw [ex_4]; exact vp_in_nI hk_4 (by decide)) (in_counterpart _ _)) (cwV 2 hts gX2_danceRound_X2_wouldDance rfl rfl rfl (by decide +kernel) ⟨Nat.le_of_ble_eq_true rfl, Nat.le_of_ble_eq_true rfl⟩) (pst_V hK hP hD [0, 1, 2, 3, 4, 5, 6, 7, 8, 9, 10] rfl (by decide) (q0 := 0) rfl rfl) rfl rfl hl.1 rfl (lv_room (Nat.le_of_ble_eq_true rfl)) dX2_danceRound_41 ⟨Nat.zero_le _, Nat.zero_le _⟩) hP hD hS hA [0, 1, 2, 3, 4, 5, 6, 7, 8, 9, 10] [] [0, 1, 2, 3, 4, 5, 6, 7, 8, 9, 10] rfl rfl (by decide) (by decide) rfl (by decide) (fun H locs hP hD hS => ?_)
            refine lv_if_eq (tgt := 60) hx hb dX2_danceRound_44 (by decide) (fun c_5 => ?_) (fun c_5 => ?_)
            · refine lv_iload_n hx hb dX2_danceRound_60 rfl (lv_at hl 1 rfl) ?_
              refine lv_iload hx hb dX2_danceRound_61 (lv_at hl 0 rfl) ?_
              refine lv_icmp_ge (tgt := 77) hx hb dX2_danceRound_63 (by decide) (fun c_6 => ?_) (fun c_6 => ?_)
              · refine lv_iinc (v := i + 1) (lv' := [(3, .int (i + 1)), (4, .int (D_X3_counterpart i n)), (2, .int pz), (0, .ref r), (1, .int n)]) hx hb dX2_danceRound_77 hl (k := 1) rfl rfl (by decide) rfl (fun ls hl => ?_)
                refine lv_goto (tgt := 4) hx hb dX2_danceRound_80 (by decide) ?_
                exact ih_4 (k_4 + 1) (i + 1) pz S1 _ _ _ (by omega) (by omega) (by rw [ex_4]; exact nI_1 k_4)  hP hD hS (lv_sub hl [0, 2, 3, 4] rfl) (by rw [L_X2_danceRound_4, if_neg c_1, if_neg c_2, if_neg c_3, if_pos c_5, if_pos c_6] at hR_4; exact hR_4)
              · refine lv_aload_n hx hb dX2_danceRound_66 rfl (lv_at hl 3 rfl) ?_
                refine lv_iload_n hx hb dX2_danceRound_67 rfl (lv_at hl 1 rfl) ?_
                refine ck_vD (wr := ([] : va_W)) (ws' := wR Y r q (D_X2_leaveAlone S1 i)) (va_runV (As := [.int i]) (rest := []) ⟨hx, hb, hml, hown, hts⟩ (c_X2_leaveAlone l D Y H.size q S1 r i (by rw [ex_4]; exact vp_in_nI hk_4 (by decide))) (cwV 1 hts gX2_danceRound_X2_leaveAlone rfl rfl rfl (by decide +kernel) ⟨Nat.le_of_ble_eq_true rfl, Nat.le_of_ble_eq_true rfl⟩) (pst_V hK hP hD [0, 1, 2, 3, 4, 5, 6, 7, 8, 9, 10] rfl (by decide) (q0 := 0) rfl rfl) rfl rfl hl.1 rfl (lv_room (Nat.le_of_ble_eq_true rfl)) dX2_danceRound_68 ⟨Nat.zero_le _, Nat.zero_le _⟩) hP hD hS hA [0, 1, 2, 3, 4, 5, 6, 7, 8, 9, 10] [] [0, 1, 2, 3, 4, 5, 6, 7, 8, 9, 10] rfl rfl (by decide) (by decide) rfl (by decide) (fun H locs hP hD hS => ?_)
                obtain ⟨S_6, eS_6⟩ : ∃ z9, (D_X2_leaveAlone S1 i) = z9 := ⟨_, rfl⟩
                rw [eS_6] at hP hD
                refine lv_aload_n hx hb dX2_danceRound_71 rfl (lv_at hl 3 rfl) ?_
                refine lv_iload hx hb dX2_danceRound_72 (lv_at hl 0 rfl) ?_
                refine ck_vD (wr := ([] : va_W)) (ws' := wR Y r q (D_X2_leaveAlone S_6 (D_X3_counterpart i n))) (va_runV (As := [.int (D_X3_counterpart i n)]) (rest := []) ⟨hx, hb, hml, hown, hts⟩ (c_X2_leaveAlone l D Y H.size q S_6 r (D_X3_counterpart i n) (in_counterpart _ _)) (cwV 1 hts gX2_danceRound_X2_leaveAlone rfl rfl rfl (by decide +kernel) ⟨Nat.le_of_ble_eq_true rfl, Nat.le_of_ble_eq_true rfl⟩) (pst_V hK hP hD [0, 1, 2, 3, 4, 5, 6, 7, 8, 9, 10] rfl (by decide) (q0 := 0) rfl rfl) rfl rfl hl.1 rfl (lv_room (Nat.le_of_ble_eq_true rfl)) dX2_danceRound_74 ⟨Nat.zero_le _, Nat.zero_le _⟩) hP hD hS hA [0, 1, 2, 3, 4, 5, 6, 7, 8, 9, 10] [] [0, 1, 2, 3, 4, 5, 6, 7, 8, 9, 10] rfl rfl (by decide) (by decide) rfl (by decide) (fun H locs hP hD hS => ?_)
                obtain ⟨S_7, eS_7⟩ : ∃ z9, (D_X2_leaveAlone S_6 (D_X3_counterpart i n)) = z9 := ⟨_, rfl⟩
                rw [eS_7] at hP hD
                refine lv_iinc (v := i + 1) (lv' := [(3, .int (i + 1)), (4, .int (D_X3_counterpart i n)), (2, .int pz), (0, .ref r), (1, .int n)]) hx hb dX2_danceRound_77 hl (k := 1) rfl rfl (by decide) rfl (fun ls hl => ?_)
                refine lv_goto (tgt := 4) hx hb dX2_danceRound_80 (by decide) ?_
                subst eS_7
                subst eS_6
                exact ih_4 (k_4 + 1) (i + 1) pz (D_X2_leaveAlone (D_X2_leaveAlone S1 i) (D_X3_counterpart i n)) _ _ _ (by omega) (by omega) (by rw [ex_4]; exact nI_1 k_4)  hP hD hS (lv_sub hl [0, 2, 3, 4] rfl) (by rw [L_X2_danceRound_4, if_neg c_1, if_neg c_2, if_neg c_3, if_pos c_5, if_neg c_6] at hR_4; exact hR_4)
            · refine lv_aload_n hx hb dX2_danceRound_47 rfl (lv_at hl 3 rfl) ?_
              refine lv_iload_n hx hb dX2_danceRound_48 rfl (lv_at hl 1 rfl) ?_
              refine lv_iload hx hb dX2_danceRound_49 (lv_at hl 0 rfl) ?_
              refine ck_vD (wr := ([] : va_W)) (ws' := wR Y r q (D_X2_dance S1 i (D_X3_counterpart i n))) (va_runV (As := [.int i, .int (D_X3_counterpart i n)]) (rest := []) ⟨hx, hb, hml, hown, hts⟩ (c_X2_dance l D Y H.size q S1 r i (D_X3_counterpart i n) (by rw [ex_4]; exact vp_in_nI hk_4 (by decide)) (in_counterpart _ _)) (cwV 2 hts gX2_danceRound_X2_dance rfl rfl rfl (by decide +kernel) ⟨Nat.le_of_ble_eq_true rfl, Nat.le_of_ble_eq_true rfl⟩) (pst_V hK hP hD [0, 1, 2, 3, 4, 5, 6, 7, 8, 9, 10] rfl (by decide) (q0 := 0) rfl rfl) rfl rfl hl.1 rfl (lv_room (Nat.le_of_ble_eq_true rfl)) dX2_danceRound_51 ⟨Nat.zero_le _, Nat.zero_le _⟩) hP hD hS hA [0, 1, 2, 3, 4, 5, 6, 7, 8, 9, 10] [] [0, 1, 2, 3, 4, 5, 6, 7, 8, 9, 10] rfl rfl (by decide) (by decide) rfl (by decide) (fun H locs hP hD hS => ?_)
              obtain ⟨S_8, eS_8⟩ : ∃ z9, (D_X2_dance S1 i (D_X3_counterpart i n)) = z9 := ⟨_, rfl⟩
              rw [eS_8] at hP hD
              refine lv_iinc (v := pz + 1) (lv' := [(2, .int (pz + 1)), (4, .int (D_X3_counterpart i n)), (3, .int i), (0, .ref r), (1, .int n)]) hx hb dX2_danceRound_54 hl (k := 2) rfl rfl (by decide) rfl (fun ls hl => ?_)
              refine lv_goto (tgt := 77) hx hb dX2_danceRound_57 (by decide) ?_
              refine lv_iinc (v := i + 1) (lv' := [(3, .int (i + 1)), (2, .int (pz + 1)), (4, .int (D_X3_counterpart i n)), (0, .ref r), (1, .int n)]) hx hb dX2_danceRound_77 hl (k := 2) rfl rfl (by decide) rfl (fun ls hl => ?_)
              refine lv_goto (tgt := 4) hx hb dX2_danceRound_80 (by decide) ?_
              subst eS_8
              exact ih_4 (k_4 + 1) (i + 1) (pz + 1) (D_X2_dance S1 i (D_X3_counterpart i n)) _ _ _ (by omega) (by omega) (by rw [ex_4]; exact nI_1 k_4)  hP hD hS (lv_sub hl [0, 1, 3, 4] rfl) (by rw [L_X2_danceRound_4, if_neg c_1, if_neg c_2, if_neg c_3, if_neg c_5] at hR_4; exact hR_4)
        · refine lv_aload_n hx hb dX2_danceRound_23 rfl (lv_at hl 3 rfl) ?_
          refine lv_iload_n hx hb dX2_danceRound_24 rfl (lv_at hl 1 rfl) ?_
          refine ck_vD (wr := ([] : va_W)) (ws' := wR Y r q (D_X2_rest S1 i)) (va_runV (As := [.int i]) (rest := []) ⟨hx, hb, hml, hown, hts⟩ (c_X2_rest l D Y H.size q S1 r i (by rw [ex_4]; exact vp_in_nI hk_4 (by decide))) (cwV 1 hts gX2_danceRound_X2_rest rfl rfl rfl (by decide +kernel) ⟨Nat.le_of_ble_eq_true rfl, Nat.le_of_ble_eq_true rfl⟩) (pst_V hK hP hD [0, 1, 2, 3, 4, 5, 6, 7, 8, 9, 10] rfl (by decide) (q0 := 0) rfl rfl) rfl rfl hl.1 rfl (lv_room (Nat.le_of_ble_eq_true rfl)) dX2_danceRound_25 ⟨Nat.zero_le _, Nat.zero_le _⟩) hP hD hS hA [0, 1, 2, 3, 4, 5, 6, 7, 8, 9, 10] [] [0, 1, 2, 3, 4, 5, 6, 7, 8, 9, 10] rfl rfl (by decide) (by decide) rfl (by decide) (fun H locs hP hD hS => ?_)
          obtain ⟨S_9, eS_9⟩ : ∃ z9, (D_X2_rest S1 i) = z9 := ⟨_, rfl⟩
          rw [eS_9] at hP hD
          refine lv_goto (tgt := 77) hx hb dX2_danceRound_28 (by decide) ?_
          refine lv_iinc (v := i + 1) (lv' := [(3, .int (i + 1)), (4, .int (D_X3_counterpart i n)), (2, .int pz), (0, .ref r), (1, .int n)]) hx hb dX2_danceRound_77 hl (k := 1) rfl rfl (by decide) rfl (fun ls hl => ?_)
          refine lv_goto (tgt := 4) hx hb dX2_danceRound_80 (by decide) ?_
          subst eS_9
          exact ih_4 (k_4 + 1) (i + 1) pz (D_X2_rest S1 i) _ _ _ (by omega) (by omega) (by rw [ex_4]; exact nI_1 k_4)  hP hD hS (lv_sub hl [0, 2, 3, 4] rfl) (by rw [L_X2_danceRound_4, if_neg c_1, if_pos c_2] at hR_4; exact hR_4)
  exact loop_4 10 0 0 0 S _ _ _ (by omega) (Nat.zero_le _) nI_0.symm  hP hD hS (lv_sub hl [0, 1, 2, 3] rfl) rfl
end
section
def L_X2_dancedWith_4 (S : Nat → Nat → Int32) (v : Int32) : Nat → (Int32) → (Int32) → (Int32)
  | 0, i, pz => pz
  | n_4 + 1, i, pz => if 9 ≤ i then pz else (if (S 7 (D_X3_pairIndex v i).toNatClampNeg) ≤ 0 then (L_X2_dancedWith_4 S v n_4 (i + 1) pz) else (L_X2_dancedWith_4 S v n_4 (i + 1) (pz ||| (1 <<< (i &&& 31)))))
def D_X2_dancedWith (S : Nat → Nat → Int32) (v : Int32) : (Int32) := (L_X2_dancedWith_4 S v 10 0 0)
set_option maxRecDepth 100000 in
theorem in_X2_dancedWith_RX2 : ∀ w ∈ u_ws RX2 TX2 13, w ∈ wsX2_dancedWith := by decide +kernel
set_option maxHeartbeats 4000000 in
set_option maxRecDepth 100000 in
theorem c_X2_dancedWith (l : Launch) (D : va_G) (Y : YY) (sz : Nat) (q : Nat → Nat) (S : Nat → Nat → Int32) (r : Nat) (v : Int32) (h_v : vp_in v 9) : Met l yX2_dancedWith wsX2_dancedWith ({ frames := 1, cells := 0, slots := 0, locals := 21 } : Room) (va_Pc [.ref r, .int v] (Pst D Y sz (wR Y r q S))) ((fun A : Nat → Prop => Qsi D (fun r9 w9 => r9 = D_X2_dancedWith S v ∧ w9 = wR Y r q S) A) (va_A (wR Y r q S) sz)) 0 0 (va_A (wR Y r q S) sz) := by
  refine ct_in (cc := cX2_dancedWith) (maxL := 4) (ret := (some .int)) (Qc := fun A : Nat → Prop => Qsi D (fun r9 w9 => r9 = D_X2_dancedWith S v ∧ w9 = wR Y r q S) A) (by decide +kernel) rfl (Nat.le_of_ble_eq_true rfl) ?_
  intro p e s m below meth c A ls hx hb hr hts hown hml hlk hin hsz hA hP hD hK hS hl
  have hown : s.vm.findClass RX2 = some m.cls := hown
  have hl : lv_has ls 4 [(0, .ref r), (1, .int v)] := hl
  show W p l e ({ frames := 1, cells := 0, slots := 0, locals := 21 } : Room) s m ([.ref r, .int v] : List Value).toArray below meth c s.heap [] 0 0 (MQ below (Qsi D (fun r9 w9 => r9 = D_X2_dancedWith S v ∧ w9 = wR Y r q S) A) ([.ref r, .int v] : List Value).toArray s 0 0 A) (F0 m 0 ls [])
  refine lv_iconst (v := 0) hx hb dX2_dancedWith_0 (by decide) ?_
  refine lv_istore_n (lv' := [(2, .int 0), (0, .ref r), (1, .int v)]) hx hb dX2_dancedWith_1 rfl hl (by decide) rfl (fun ls hl => ?_)
  refine lv_iconst (v := 0) hx hb dX2_dancedWith_2 (by decide) ?_
  refine lv_istore_n (lv' := [(3, .int 0), (2, .int 0), (0, .ref r), (1, .int v)]) hx hb dX2_dancedWith_3 rfl hl (by decide) rfl (fun ls hl => ?_)
  have loop_4 : ∀ (n_4 k_4 : Nat) (i : Int32) (pz : Int32) (H : Heap) (locs : List Loc) (ls : Array Slot), 10 ≤ k_4 + n_4 → k_4 ≤ 9 → i = nI k_4 → va_P D vwCl (wR Y r q S) H → va_D A (wR Y r q S) → va_S A s.heap H locs → lv_has ls 4 [(3, .int i), (2, .int pz), (0, .ref r), (1, .int v)] → L_X2_dancedWith_4 S v n_4 i pz = L_X2_dancedWith_4 S v 10 0 0 → W p l e ({ frames := 1, cells := 0, slots := 0, locals := 21 } : Room) s m ([.ref r, .int v] : List Value).toArray below meth c H locs 0 0 (MQ below (Qsi D (fun r9 w9 => r9 = D_X2_dancedWith S v ∧ w9 = wR Y r q S) A) ([.ref r, .int v] : List Value).toArray s 0 0 A) (F0 m 4 ls []) := by
    intro n_4
    induction n_4 with
    | zero => intro k_4 i pz H locs ls hkf hkN_4 ex_4 hP hD hS hl hR_4; exact absurd hkf (by omega)
    | succ n_4 ih_4 =>
      intro k_4 i pz H locs ls hkf hkN_4 ex_4 hP hD hS hl hR_4
      refine lv_iload_n hx hb dX2_dancedWith_4 rfl (lv_at hl 0 rfl) ?_
      refine lv_bipush (v := 9) hx hb dX2_dancedWith_5 (by decide) ?_
      refine lv_icmp_ge (tgt := 35) hx hb dX2_dancedWith_7 (by decide) (fun c_1 => ?_) (fun c_1 => ?_)
      · have e8 : L_X2_dancedWith_4 S v (n_4 + 1) i pz = pz := by rw [L_X2_dancedWith_4, if_pos c_1]
        have e8 := hR_4.symm.trans e8
        have epz : L_X2_dancedWith_4 S v 10 0 0 = pz := by rw [e8]
        clear e8 hR_4 ih_4
        refine lv_iload_n hx hb dX2_dancedWith_35 rfl (lv_at hl 1 rfl) ?_
        subst epz
        have e9 : D_X2_dancedWith S v = (L_X2_dancedWith_4 S v 10 0 0) := by rw [D_X2_dancedWith]
        exact ret_i hx hb hr hlk hP hD hS dX2_dancedWith_36 ⟨Nat.zero_le _, Nat.zero_le _⟩ ⟨e9.symm, rfl⟩
      · have hk_4 := my_lt ex_4 (show (9 : Int32) = nI 9 from rfl) (by decide) hkN_4 c_1
        refine lv_aload_n hx hb dX2_dancedWith_10 rfl (lv_at hl 2 rfl) ?_
        refine va_get (D := D) (ci := 2) (v := .ref (q 7)) (C := RX2) (T := TX2) (N := 13) hx hb hts in_X2_dancedWith_RX2 hown hK.1 hP 0 rfl rfl 8 (by decide) (hts (.fieldLink RX2 37 "NineDancers$Ring" "dances" "[I") (by decide +kernel)) (fun _ h9 => h9) rfl dX2_dancedWith_11 ?_
        refine lv_iload_n hx hb dX2_dancedWith_14 rfl (lv_at hl 3 rfl) ?_
        refine lv_iload_n hx hb dX2_dancedWith_15 rfl (lv_at hl 0 rfl) ?_
        refine ck_iD (wr := wR Y r q S) (ws' := wR Y r q S) (va_runSN (As := [.int v, .int i]) (rest := [.ref (q 7)]) ⟨hx, hb, hml, hown, hts⟩ (c_X3_pairIndex l D Y H.size v i) ⟨va_cnB 2 hts gX2_dancedWith_X3_pairIndex_n107 rfl rfl rfl hK.2.2.2.1 (hts (.initialized RX3) (by decide +kernel)) (by decide +kernel) ⟨Nat.le_of_ble_eq_true rfl, Nat.le_of_ble_eq_true rfl⟩, hts (.static yX3_pairIndex) (by decide +kernel), trivial⟩ (pst_S hK hP hD [] rfl (by decide)) rfl rfl hl.1 rfl (lv_room (Nat.le_of_ble_eq_true rfl)) dX2_dancedWith_16 ⟨Nat.zero_le _, Nat.zero_le _⟩) hP hD hS hA [] [0, 1, 2, 3, 4, 5, 6, 7, 8, 9, 10] [0, 1, 2, 3, 4, 5, 6, 7, 8, 9, 10] rfl rfl (by decide) (by decide) rfl (by decide) (fun H locs hP hD hS => ?_)
        refine va_iald (D := D) hx hb hK.1 hP 8 0 rfl rfl (in_pairIndex h_v (by rw [ex_4]; exact vp_in_nI hk_4 (by decide))) dX2_dancedWith_19 ?_
        refine lv_if_le (tgt := 29) hx hb dX2_dancedWith_20 (by decide) (fun c_2 => ?_) (fun c_2 => ?_)
        · refine lv_iinc (v := i + 1) (lv' := [(3, .int (i + 1)), (2, .int pz), (0, .ref r), (1, .int v)]) hx hb dX2_dancedWith_29 hl (k := 0) rfl rfl (by decide) rfl (fun ls hl => ?_)
          refine lv_goto (tgt := 4) hx hb dX2_dancedWith_32 (by decide) ?_
          exact ih_4 (k_4 + 1) (i + 1) pz _ _ _ (by omega) (by omega) (by rw [ex_4]; exact nI_1 k_4)  hP hD hS (lv_sub hl [0, 1, 2, 3] rfl) (by rw [L_X2_dancedWith_4, if_neg c_1, if_pos c_2] at hR_4; exact hR_4)
        · refine lv_iload_n hx hb dX2_dancedWith_23 rfl (lv_at hl 1 rfl) ?_
          refine lv_iconst (v := 1) hx hb dX2_dancedWith_24 (by decide) ?_
          refine lv_iload_n hx hb dX2_dancedWith_25 rfl (lv_at hl 0 rfl) ?_
          refine lv_ishl hx hb dX2_dancedWith_26 ?_
          refine lv_ior hx hb dX2_dancedWith_27 ?_
          refine lv_istore_n (lv' := [(2, .int (pz ||| (1 <<< (i &&& 31)))), (3, .int i), (0, .ref r), (1, .int v)]) hx hb dX2_dancedWith_28 rfl hl (by decide) rfl (fun ls hl => ?_)
          refine lv_iinc (v := i + 1) (lv' := [(3, .int (i + 1)), (2, .int (pz ||| (1 <<< (i &&& 31)))), (0, .ref r), (1, .int v)]) hx hb dX2_dancedWith_29 hl (k := 1) rfl rfl (by decide) rfl (fun ls hl => ?_)
          refine lv_goto (tgt := 4) hx hb dX2_dancedWith_32 (by decide) ?_
          exact ih_4 (k_4 + 1) (i + 1) (pz ||| (1 <<< (i &&& 31))) _ _ _ (by omega) (by omega) (by rw [ex_4]; exact nI_1 k_4)  hP hD hS (lv_sub hl [0, 1, 2, 3] rfl) (by rw [L_X2_dancedWith_4, if_neg c_1, if_neg c_2] at hR_4; exact hR_4)
  exact loop_4 10 0 0 0 _ _ _ (by omega) (Nat.zero_le _) nI_0.symm  hP hD hS (lv_sub hl [0, 1, 2, 3] rfl) rfl
def L_X2_mostFrequentPartner_8 (S : Nat → Nat → Int32) (v : Int32) : Nat → (Int32) → (Int32) → (Int32) → (Int32) × (Int32)
  | 0, i, pz, w => (pz, w)
  | n_8 + 1, i, pz, w => if 9 ≤ i then (pz, w) else (if (S 7 (D_X3_pairIndex v i).toNatClampNeg) ≤ w then (L_X2_mostFrequentPartner_8 S v n_8 (i + 1) pz w) else (L_X2_mostFrequentPartner_8 S v n_8 (i + 1) i (S 7 (D_X3_pairIndex v i).toNatClampNeg)))
def D_X2_mostFrequentPartner (S : Nat → Nat → Int32) (v : Int32) : (Int32) := ((L_X2_mostFrequentPartner_8 S v 10 0 (-1000006) 0).1)
set_option maxRecDepth 100000 in
theorem in_X2_mostFrequentPartner_RX2 : ∀ w ∈ u_ws RX2 TX2 13, w ∈ wsX2_mostFrequentPartner := by decide +kernel
set_option maxHeartbeats 4000000 in
set_option maxRecDepth 100000 in
theorem c_X2_mostFrequentPartner (l : Launch) (D : va_G) (Y : YY) (sz : Nat) (q : Nat → Nat) (S : Nat → Nat → Int32) (r : Nat) (v : Int32) (h_v : vp_in v 9) : Met l yX2_mostFrequentPartner wsX2_mostFrequentPartner ({ frames := 1, cells := 0, slots := 0, locals := 21 } : Room) (va_Pc [.ref r, .int v] (Pst D Y sz (wR Y r q S))) ((fun A : Nat → Prop => Qsi D (fun r9 w9 => r9 = D_X2_mostFrequentPartner S v ∧ w9 = wR Y r q S) A) (va_A (wR Y r q S) sz)) 0 0 (va_A (wR Y r q S) sz) := by
  refine ct_in (cc := cX2_mostFrequentPartner) (maxL := 6) (ret := (some .int)) (Qc := fun A : Nat → Prop => Qsi D (fun r9 w9 => r9 = D_X2_mostFrequentPartner S v ∧ w9 = wR Y r q S) A) (by decide +kernel) rfl (Nat.le_of_ble_eq_true rfl) ?_
  intro p e s m below meth c A ls hx hb hr hts hown hml hlk hin hsz hA hP hD hK hS hl
  have hown : s.vm.findClass RX2 = some m.cls := hown
  have hl : lv_has ls 6 [(0, .ref r), (1, .int v)] := hl
  show W p l e ({ frames := 1, cells := 0, slots := 0, locals := 21 } : Room) s m ([.ref r, .int v] : List Value).toArray below meth c s.heap [] 0 0 (MQ below (Qsi D (fun r9 w9 => r9 = D_X2_mostFrequentPartner S v ∧ w9 = wR Y r q S) A) ([.ref r, .int v] : List Value).toArray s 0 0 A) (F0 m 0 ls [])
  refine lv_ldc (v := (-1000006)) hx hb hown (hts (.constant RX2 49 (-1000006)) (by decide +kernel)) dX2_mostFrequentPartner_0 ?_
  refine lv_istore_n (lv' := [(2, .int (-1000006)), (0, .ref r), (1, .int v)]) hx hb dX2_mostFrequentPartner_2 rfl hl (by decide) rfl (fun ls hl => ?_)
  refine lv_iconst (v := 0) hx hb dX2_mostFrequentPartner_3 (by decide) ?_
  refine lv_istore_n (lv' := [(3, .int 0), (2, .int (-1000006)), (0, .ref r), (1, .int v)]) hx hb dX2_mostFrequentPartner_4 rfl hl (by decide) rfl (fun ls hl => ?_)
  refine lv_iconst (v := 0) hx hb dX2_mostFrequentPartner_5 (by decide) ?_
  refine lv_istore (lv' := [(4, .int 0), (3, .int 0), (2, .int (-1000006)), (0, .ref r), (1, .int v)]) hx hb dX2_mostFrequentPartner_6 hl (by decide) rfl (fun ls hl => ?_)
  have loop_8 : ∀ (n_8 k_8 : Nat) (i : Int32) (pz : Int32) (w : Int32) (H : Heap) (locs : List Loc) (ls : Array Slot), 10 ≤ k_8 + n_8 → k_8 ≤ 9 → i = nI k_8 → va_P D vwCl (wR Y r q S) H → va_D A (wR Y r q S) → va_S A s.heap H locs → lv_has ls 6 [(4, .int i), (3, .int w), (2, .int pz), (0, .ref r), (1, .int v)] → L_X2_mostFrequentPartner_8 S v n_8 i pz w = L_X2_mostFrequentPartner_8 S v 10 0 (-1000006) 0 → W p l e ({ frames := 1, cells := 0, slots := 0, locals := 21 } : Room) s m ([.ref r, .int v] : List Value).toArray below meth c H locs 0 0 (MQ below (Qsi D (fun r9 w9 => r9 = D_X2_mostFrequentPartner S v ∧ w9 = wR Y r q S) A) ([.ref r, .int v] : List Value).toArray s 0 0 A) (F0 m 8 ls []) := by
    intro n_8
    induction n_8 with
    | zero => intro k_8 i pz w H locs ls hkf hkN_8 ex_8 hP hD hS hl hR_8; exact absurd hkf (by omega)
    | succ n_8 ih_8 =>
      intro k_8 i pz w H locs ls hkf hkN_8 ex_8 hP hD hS hl hR_8
      refine lv_iload hx hb dX2_mostFrequentPartner_8 (lv_at hl 0 rfl) ?_
      refine lv_bipush (v := 9) hx hb dX2_mostFrequentPartner_10 (by decide) ?_
      refine lv_icmp_ge (tgt := 46) hx hb dX2_mostFrequentPartner_12 (by decide) (fun c_1 => ?_) (fun c_1 => ?_)
      · have e8 : L_X2_mostFrequentPartner_8 S v (n_8 + 1) i pz w = (pz, w) := by rw [L_X2_mostFrequentPartner_8, if_pos c_1]
        have e8 := hR_8.symm.trans e8
        have epz : (L_X2_mostFrequentPartner_8 S v 10 0 (-1000006) 0).1 = pz := by rw [e8]
        have ew : (L_X2_mostFrequentPartner_8 S v 10 0 (-1000006) 0).2 = w := by rw [e8]
        clear e8 hR_8 ih_8
        refine lv_iload_n hx hb dX2_mostFrequentPartner_46 rfl (lv_at hl 2 rfl) ?_
        subst ew
        subst epz
        have e9 : D_X2_mostFrequentPartner S v = ((L_X2_mostFrequentPartner_8 S v 10 0 (-1000006) 0).1) := by rw [D_X2_mostFrequentPartner]
        exact ret_i hx hb hr hlk hP hD hS dX2_mostFrequentPartner_47 ⟨Nat.zero_le _, Nat.zero_le _⟩ ⟨e9.symm, rfl⟩
      · have hk_8 := my_lt ex_8 (show (9 : Int32) = nI 9 from rfl) (by decide) hkN_8 c_1
        refine lv_aload_n hx hb dX2_mostFrequentPartner_15 rfl (lv_at hl 3 rfl) ?_
        refine va_get (D := D) (ci := 2) (v := .ref (q 7)) (C := RX2) (T := TX2) (N := 13) hx hb hts in_X2_mostFrequentPartner_RX2 hown hK.1 hP 0 rfl rfl 8 (by decide) (hts (.fieldLink RX2 37 "NineDancers$Ring" "dances" "[I") (by decide +kernel)) (fun _ h9 => h9) rfl dX2_mostFrequentPartner_16 ?_
        refine lv_iload_n hx hb dX2_mostFrequentPartner_19 rfl (lv_at hl 4 rfl) ?_
        refine lv_iload hx hb dX2_mostFrequentPartner_20 (lv_at hl 0 rfl) ?_
        refine ck_iD (wr := wR Y r q S) (ws' := wR Y r q S) (va_runSN (As := [.int v, .int i]) (rest := [.ref (q 7)]) ⟨hx, hb, hml, hown, hts⟩ (c_X3_pairIndex l D Y H.size v i) ⟨va_cnB 2 hts gX2_mostFrequentPartner_X3_pairIndex_n107 rfl rfl rfl hK.2.2.2.1 (hts (.initialized RX3) (by decide +kernel)) (by decide +kernel) ⟨Nat.le_of_ble_eq_true rfl, Nat.le_of_ble_eq_true rfl⟩, hts (.static yX3_pairIndex) (by decide +kernel), trivial⟩ (pst_S hK hP hD [] rfl (by decide)) rfl rfl hl.1 rfl (lv_room (Nat.le_of_ble_eq_true rfl)) dX2_mostFrequentPartner_22 ⟨Nat.zero_le _, Nat.zero_le _⟩) hP hD hS hA [] [0, 1, 2, 3, 4, 5, 6, 7, 8, 9, 10] [0, 1, 2, 3, 4, 5, 6, 7, 8, 9, 10] rfl rfl (by decide) (by decide) rfl (by decide) (fun H locs hP hD hS => ?_)
        refine va_iald (D := D) hx hb hK.1 hP 8 0 rfl rfl (in_pairIndex h_v (by rw [ex_8]; exact vp_in_nI hk_8 (by decide))) dX2_mostFrequentPartner_25 ?_
        refine lv_istore (lv' := [(5, .int (S 7 (D_X3_pairIndex v i).toNatClampNeg)), (4, .int i), (3, .int w), (2, .int pz), (0, .ref r), (1, .int v)]) hx hb dX2_mostFrequentPartner_26 hl (by decide) rfl (fun ls hl => ?_)
        refine lv_iload hx hb dX2_mostFrequentPartner_28 (lv_at hl 0 rfl) ?_
        refine lv_iload_n hx hb dX2_mostFrequentPartner_30 rfl (lv_at hl 2 rfl) ?_
        refine lv_icmp_le (tgt := 40) hx hb dX2_mostFrequentPartner_31 (by decide) (fun c_2 => ?_) (fun c_2 => ?_)
        · refine lv_iinc (v := i + 1) (lv' := [(4, .int (i + 1)), (5, .int (S 7 (D_X3_pairIndex v i).toNatClampNeg)), (3, .int w), (2, .int pz), (0, .ref r), (1, .int v)]) hx hb dX2_mostFrequentPartner_40 hl (k := 1) rfl rfl (by decide) rfl (fun ls hl => ?_)
          refine lv_goto (tgt := 8) hx hb dX2_mostFrequentPartner_43 (by decide) ?_
          exact ih_8 (k_8 + 1) (i + 1) pz w _ _ _ (by omega) (by omega) (by rw [ex_8]; exact nI_1 k_8)  hP hD hS (lv_sub hl [0, 2, 3, 4, 5] rfl) (by rw [L_X2_mostFrequentPartner_8, if_neg c_1, if_pos c_2] at hR_8; exact hR_8)
        · refine lv_iload hx hb dX2_mostFrequentPartner_34 (lv_at hl 1 rfl) ?_
          refine lv_istore_n (lv' := [(2, .int i), (5, .int (S 7 (D_X3_pairIndex v i).toNatClampNeg)), (4, .int i), (3, .int w), (0, .ref r), (1, .int v)]) hx hb dX2_mostFrequentPartner_36 rfl hl (by decide) rfl (fun ls hl => ?_)
          refine lv_iload hx hb dX2_mostFrequentPartner_37 (lv_at hl 1 rfl) ?_
          refine lv_istore_n (lv' := [(3, .int (S 7 (D_X3_pairIndex v i).toNatClampNeg)), (2, .int i), (5, .int (S 7 (D_X3_pairIndex v i).toNatClampNeg)), (4, .int i), (0, .ref r), (1, .int v)]) hx hb dX2_mostFrequentPartner_39 rfl hl (by decide) rfl (fun ls hl => ?_)
          refine lv_iinc (v := i + 1) (lv' := [(4, .int (i + 1)), (3, .int (S 7 (D_X3_pairIndex v i).toNatClampNeg)), (2, .int i), (5, .int (S 7 (D_X3_pairIndex v i).toNatClampNeg)), (0, .ref r), (1, .int v)]) hx hb dX2_mostFrequentPartner_40 hl (k := 3) rfl rfl (by decide) rfl (fun ls hl => ?_)
          refine lv_goto (tgt := 8) hx hb dX2_mostFrequentPartner_43 (by decide) ?_
          exact ih_8 (k_8 + 1) (i + 1) i (S 7 (D_X3_pairIndex v i).toNatClampNeg) _ _ _ (by omega) (by omega) (by rw [ex_8]; exact nI_1 k_8)  hP hD hS (lv_sub hl [0, 1, 2, 4, 5] rfl) (by rw [L_X2_mostFrequentPartner_8, if_neg c_1, if_neg c_2] at hR_8; exact hR_8)
  exact loop_8 10 0 0 (-1000006) 0 _ _ _ (by omega) (Nat.zero_le _) nI_0.symm  hP hD hS (lv_sub hl [0, 1, 2, 3, 4] rfl) rfl
def D_X2_isUnmet (S : Nat → Nat → Int32) (a : Int32) (b : Int32) : (Int32) := if (D_X2_isThere S a) = 0 then 0 else (if (D_X2_isThere S b) = 0 then 0 else (if (S 7 (D_X3_pairIndex a b).toNatClampNeg) = 0 then 1 else 0))
set_option maxRecDepth 100000 in
theorem in_X2_isUnmet_RX2 : ∀ w ∈ u_ws RX2 TX2 13, w ∈ wsX2_isUnmet := by decide +kernel
set_option maxHeartbeats 4000000 in
set_option maxRecDepth 100000 in
theorem c_X2_isUnmet (l : Launch) (D : va_G) (Y : YY) (sz : Nat) (q : Nat → Nat) (S : Nat → Nat → Int32) (r : Nat) (a : Int32) (b : Int32) (h_a : vp_in a 9) (h_b : vp_in b 9) : Met l yX2_isUnmet wsX2_isUnmet ({ frames := 1, cells := 0, slots := 0, locals := 21 } : Room) (va_Pc [.ref r, .int a, .int b] (Pst D Y sz (wR Y r q S))) ((fun A : Nat → Prop => Qsi D (fun r9 w9 => r9 = D_X2_isUnmet S a b ∧ w9 = wR Y r q S) A) (va_A (wR Y r q S) sz)) 0 0 (va_A (wR Y r q S) sz) := by
  refine ct_in (cc := cX2_isUnmet) (maxL := 3) (ret := (some .boolean)) (Qc := fun A : Nat → Prop => Qsi D (fun r9 w9 => r9 = D_X2_isUnmet S a b ∧ w9 = wR Y r q S) A) (by decide +kernel) rfl (Nat.le_of_ble_eq_true rfl) ?_
  intro p e s m below meth c A ls hx hb hr hts hown hml hlk hin hsz hA hP hD hK hS hl
  have hown : s.vm.findClass RX2 = some m.cls := hown
  have hl : lv_has ls 3 [(0, .ref r), (1, .int a), (2, .int b)] := hl
  show W p l e ({ frames := 1, cells := 0, slots := 0, locals := 21 } : Room) s m ([.ref r, .int a, .int b] : List Value).toArray below meth c s.heap [] 0 0 (MQ below (Qsi D (fun r9 w9 => r9 = D_X2_isUnmet S a b ∧ w9 = wR Y r q S) A) ([.ref r, .int a, .int b] : List Value).toArray s 0 0 A) (F0 m 0 ls [])
  refine lv_aload_n hx hb dX2_isUnmet_0 rfl (lv_at hl 0 rfl) ?_
  refine lv_iload_n hx hb dX2_isUnmet_1 rfl (lv_at hl 1 rfl) ?_
  refine ck_iD (wr := ([] : va_W)) (ws' := wR Y r q S) (va_runV (As := [.int a]) (rest := []) ⟨hx, hb, hml, hown, hts⟩ (c_X2_isThere l D Y s.heap.size q S r a) (cwV 1 hts gX2_isUnmet_X2_isThere rfl rfl rfl (by decide +kernel) ⟨Nat.le_of_ble_eq_true rfl, Nat.le_of_ble_eq_true rfl⟩) (pst_V hK hP hD [0, 1, 2, 3, 4, 5, 6, 7, 8, 9, 10] rfl (by decide) (q0 := 0) rfl rfl) rfl rfl hl.1 rfl (lv_room (Nat.le_of_ble_eq_true rfl)) dX2_isUnmet_2 ⟨Nat.zero_le _, Nat.zero_le _⟩) hP hD hS hA [0, 1, 2, 3, 4, 5, 6, 7, 8, 9, 10] [] [0, 1, 2, 3, 4, 5, 6, 7, 8, 9, 10] rfl rfl (by decide) (by decide) rfl (by decide) (fun H locs hP hD hS => ?_)
  refine lv_if_eq (tgt := 33) hx hb dX2_isUnmet_5 (by decide) (fun c_1 => ?_) (fun c_1 => ?_)
  · refine lv_iconst (v := 0) hx hb dX2_isUnmet_33 (by decide) ?_
    have e9 : D_X2_isUnmet S a b = 0 := by rw [D_X2_isUnmet, if_pos c_1]
    exact ret_z hx hb hr rfl hlk hP hD hS dX2_isUnmet_34 ⟨Nat.zero_le _, Nat.zero_le _⟩ ⟨e9.symm, rfl⟩
  · refine lv_aload_n hx hb dX2_isUnmet_8 rfl (lv_at hl 0 rfl) ?_
    refine lv_iload_n hx hb dX2_isUnmet_9 rfl (lv_at hl 2 rfl) ?_
    refine ck_iD (wr := ([] : va_W)) (ws' := wR Y r q S) (va_runV (As := [.int b]) (rest := []) ⟨hx, hb, hml, hown, hts⟩ (c_X2_isThere l D Y H.size q S r b) (cwV 1 hts gX2_isUnmet_X2_isThere rfl rfl rfl (by decide +kernel) ⟨Nat.le_of_ble_eq_true rfl, Nat.le_of_ble_eq_true rfl⟩) (pst_V hK hP hD [0, 1, 2, 3, 4, 5, 6, 7, 8, 9, 10] rfl (by decide) (q0 := 0) rfl rfl) rfl rfl hl.1 rfl (lv_room (Nat.le_of_ble_eq_true rfl)) dX2_isUnmet_10 ⟨Nat.zero_le _, Nat.zero_le _⟩) hP hD hS hA [0, 1, 2, 3, 4, 5, 6, 7, 8, 9, 10] [] [0, 1, 2, 3, 4, 5, 6, 7, 8, 9, 10] rfl rfl (by decide) (by decide) rfl (by decide) (fun H locs hP hD hS => ?_)
    refine lv_if_eq (tgt := 33) hx hb dX2_isUnmet_13 (by decide) (fun c_2 => ?_) (fun c_2 => ?_)
    · refine lv_iconst (v := 0) hx hb dX2_isUnmet_33 (by decide) ?_
      have e9 : D_X2_isUnmet S a b = 0 := by rw [D_X2_isUnmet, if_neg c_1, if_pos c_2]
      exact ret_z hx hb hr rfl hlk hP hD hS dX2_isUnmet_34 ⟨Nat.zero_le _, Nat.zero_le _⟩ ⟨e9.symm, rfl⟩
    · refine lv_aload_n hx hb dX2_isUnmet_16 rfl (lv_at hl 0 rfl) ?_
      refine va_get (D := D) (ci := 2) (v := .ref (q 7)) (C := RX2) (T := TX2) (N := 13) hx hb hts in_X2_isUnmet_RX2 hown hK.1 hP 0 rfl rfl 8 (by decide) (hts (.fieldLink RX2 37 "NineDancers$Ring" "dances" "[I") (by decide +kernel)) (fun _ h9 => h9) rfl dX2_isUnmet_17 ?_
      refine lv_iload_n hx hb dX2_isUnmet_20 rfl (lv_at hl 1 rfl) ?_
      refine lv_iload_n hx hb dX2_isUnmet_21 rfl (lv_at hl 2 rfl) ?_
      refine ck_iD (wr := wR Y r q S) (ws' := wR Y r q S) (va_runSN (As := [.int a, .int b]) (rest := [.ref (q 7)]) ⟨hx, hb, hml, hown, hts⟩ (c_X3_pairIndex l D Y H.size a b) ⟨va_cnB 2 hts gX2_isUnmet_X3_pairIndex_n107 rfl rfl rfl hK.2.2.2.1 (hts (.initialized RX3) (by decide +kernel)) (by decide +kernel) ⟨Nat.le_of_ble_eq_true rfl, Nat.le_of_ble_eq_true rfl⟩, hts (.static yX3_pairIndex) (by decide +kernel), trivial⟩ (pst_S hK hP hD [] rfl (by decide)) rfl rfl hl.1 rfl (lv_room (Nat.le_of_ble_eq_true rfl)) dX2_isUnmet_22 ⟨Nat.zero_le _, Nat.zero_le _⟩) hP hD hS hA [] [0, 1, 2, 3, 4, 5, 6, 7, 8, 9, 10] [0, 1, 2, 3, 4, 5, 6, 7, 8, 9, 10] rfl rfl (by decide) (by decide) rfl (by decide) (fun H locs hP hD hS => ?_)
      refine va_iald (D := D) hx hb hK.1 hP 8 0 rfl rfl (in_pairIndex h_a h_b) dX2_isUnmet_25 ?_
      refine lv_if_ne (tgt := 33) hx hb dX2_isUnmet_26 (by decide) (fun c_3 => ?_) (fun c_3 => ?_)
      · refine lv_iconst (v := 0) hx hb dX2_isUnmet_33 (by decide) ?_
        have e9 : D_X2_isUnmet S a b = 0 := by rw [D_X2_isUnmet, if_neg c_1, if_neg c_2, if_neg c_3]
        exact ret_z hx hb hr rfl hlk hP hD hS dX2_isUnmet_34 ⟨Nat.zero_le _, Nat.zero_le _⟩ ⟨e9.symm, rfl⟩
      · refine lv_iconst (v := 1) hx hb dX2_isUnmet_29 (by decide) ?_
        refine lv_goto (tgt := 34) hx hb dX2_isUnmet_30 (by decide) ?_
        have e9 : D_X2_isUnmet S a b = 1 := by rw [D_X2_isUnmet, if_neg c_1, if_neg c_2, if_pos c_3]
        exact ret_z hx hb hr rfl hlk hP hD hS dX2_isUnmet_34 ⟨Nat.zero_le _, Nat.zero_le _⟩ ⟨e9.symm, rfl⟩
theorem z_X2_isUnmet (S : Nat → Nat → Int32) (a : Int32) (b : Int32) : D_X2_isUnmet S a b = 0 ∨ D_X2_isUnmet S a b = 1 := by unfold D_X2_isUnmet; (repeat' split) <;> simp
def L_X2_unmetPairs_14 (S : Nat → Nat → Int32) (i : Int32) (u : Int32) : Nat → (Int32) → (Int32) → (Int32)
  | 0, j, u1 => u1
  | n_14 + 1, j, u1 => if 9 ≤ j then u1 else (if (D_X2_isUnmet S i j) = 0 then (L_X2_unmetPairs_14 S i u n_14 (j + 1) u1) else (L_X2_unmetPairs_14 S i u n_14 (j + 1) (u1 + 1)))
def L_X2_unmetPairs_4 (S : Nat → Nat → Int32) : Nat → (Int32) → (Int32) → (Int32)
  | 0, i, u => u
  | n_4 + 1, i, u => if 9 ≤ i then u else (L_X2_unmetPairs_4 S n_4 (i + 1) (L_X2_unmetPairs_14 S i u 10 (i + 1) u))
def D_X2_unmetPairs (S : Nat → Nat → Int32)  : (Int32) := (L_X2_unmetPairs_4 S 10 0 0)
set_option maxHeartbeats 4000000 in
set_option maxRecDepth 100000 in
theorem c_X2_unmetPairs (l : Launch) (D : va_G) (Y : YY) (sz : Nat) (q : Nat → Nat) (S : Nat → Nat → Int32) (r : Nat) : Met l yX2_unmetPairs wsX2_unmetPairs ({ frames := 2, cells := 0, slots := 0, locals := 43 } : Room) (va_Pc [.ref r] (Pst D Y sz (wR Y r q S))) ((fun A : Nat → Prop => Qsi D (fun r9 w9 => r9 = D_X2_unmetPairs S ∧ w9 = wR Y r q S) A) (va_A (wR Y r q S) sz)) 0 0 (va_A (wR Y r q S) sz) := by
  refine ct_in (cc := cX2_unmetPairs) (maxL := 4) (ret := (some .int)) (Qc := fun A : Nat → Prop => Qsi D (fun r9 w9 => r9 = D_X2_unmetPairs S ∧ w9 = wR Y r q S) A) (by decide +kernel) rfl (Nat.le_of_ble_eq_true rfl) ?_
  intro p e s m below meth c A ls hx hb hr hts hown hml hlk hin hsz hA hP hD hK hS hl
  have hown : s.vm.findClass RX2 = some m.cls := hown
  have hl : lv_has ls 4 [(0, .ref r)] := hl
  show W p l e ({ frames := 2, cells := 0, slots := 0, locals := 43 } : Room) s m ([.ref r] : List Value).toArray below meth c s.heap [] 0 0 (MQ below (Qsi D (fun r9 w9 => r9 = D_X2_unmetPairs S ∧ w9 = wR Y r q S) A) ([.ref r] : List Value).toArray s 0 0 A) (F0 m 0 ls [])
  refine lv_iconst (v := 0) hx hb dX2_unmetPairs_0 (by decide) ?_
  refine lv_istore_n (lv' := [(1, .int 0), (0, .ref r)]) hx hb dX2_unmetPairs_1 rfl hl (by decide) rfl (fun ls hl => ?_)
  refine lv_iconst (v := 0) hx hb dX2_unmetPairs_2 (by decide) ?_
  refine lv_istore_n (lv' := [(2, .int 0), (1, .int 0), (0, .ref r)]) hx hb dX2_unmetPairs_3 rfl hl (by decide) rfl (fun ls hl => ?_)
  have loop_4 : ∀ (n_4 k_4 : Nat) (i : Int32) (u : Int32) (H : Heap) (locs : List Loc) (ls : Array Slot), 10 ≤ k_4 + n_4 → k_4 ≤ 9 → i = nI k_4 → va_P D vwCl (wR Y r q S) H → va_D A (wR Y r q S) → va_S A s.heap H locs → lv_has ls 4 [(2, .int i), (1, .int u), (0, .ref r)] → L_X2_unmetPairs_4 S n_4 i u = L_X2_unmetPairs_4 S 10 0 0 → W p l e ({ frames := 2, cells := 0, slots := 0, locals := 43 } : Room) s m ([.ref r] : List Value).toArray below meth c H locs 0 0 (MQ below (Qsi D (fun r9 w9 => r9 = D_X2_unmetPairs S ∧ w9 = wR Y r q S) A) ([.ref r] : List Value).toArray s 0 0 A) (F0 m 4 ls []) := by
    intro n_4
    induction n_4 with
    | zero => intro k_4 i u H locs ls hkf hkN_4 ex_4 hP hD hS hl hR_4; exact absurd hkf (by omega)
    | succ n_4 ih_4 =>
      intro k_4 i u H locs ls hkf hkN_4 ex_4 hP hD hS hl hR_4
      refine lv_iload_n hx hb dX2_unmetPairs_4 rfl (lv_at hl 0 rfl) ?_
      refine lv_bipush (v := 9) hx hb dX2_unmetPairs_5 (by decide) ?_
      refine lv_icmp_ge (tgt := 44) hx hb dX2_unmetPairs_7 (by decide) (fun c_1 => ?_) (fun c_1 => ?_)
      · have e8 : L_X2_unmetPairs_4 S (n_4 + 1) i u = u := by rw [L_X2_unmetPairs_4, if_pos c_1]
        have e8 := hR_4.symm.trans e8
        have eu : L_X2_unmetPairs_4 S 10 0 0 = u := by rw [e8]
        clear e8 hR_4 ih_4
        refine lv_iload_n hx hb dX2_unmetPairs_44 rfl (lv_at hl 1 rfl) ?_
        subst eu
        have e9 : D_X2_unmetPairs S = (L_X2_unmetPairs_4 S 10 0 0) := by rw [D_X2_unmetPairs]
        exact ret_i hx hb hr hlk hP hD hS dX2_unmetPairs_45 ⟨Nat.zero_le _, Nat.zero_le _⟩ ⟨e9.symm, rfl⟩
      · have hk_4 := my_lt ex_4 (show (9 : Int32) = nI 9 from rfl) (by decide) hkN_4 c_1
        refine lv_iload_n hx hb dX2_unmetPairs_10 rfl (lv_at hl 0 rfl) ?_
        refine lv_iconst (v := 1) hx hb dX2_unmetPairs_11 (by decide) ?_
        refine lv_iadd hx hb dX2_unmetPairs_12 ?_
        refine lv_istore_n (lv' := [(3, .int (i + 1)), (2, .int i), (1, .int u), (0, .ref r)]) hx hb dX2_unmetPairs_13 rfl hl (by decide) rfl (fun ls hl => ?_)
        have loop_14 : ∀ (n_14 k_14 : Nat) (j : Int32) (u1 : Int32) (H : Heap) (locs : List Loc) (ls : Array Slot), 10 ≤ k_14 + n_14 → k_14 ≤ 9 → j = nI k_14 → va_P D vwCl (wR Y r q S) H → va_D A (wR Y r q S) → va_S A s.heap H locs → lv_has ls 4 [(3, .int j), (2, .int i), (1, .int u1), (0, .ref r)] → L_X2_unmetPairs_14 S i u n_14 j u1 = L_X2_unmetPairs_14 S i u 10 (i + 1) u → W p l e ({ frames := 2, cells := 0, slots := 0, locals := 43 } : Room) s m ([.ref r] : List Value).toArray below meth c H locs 0 0 (MQ below (Qsi D (fun r9 w9 => r9 = D_X2_unmetPairs S ∧ w9 = wR Y r q S) A) ([.ref r] : List Value).toArray s 0 0 A) (F0 m 14 ls []) := by
          intro n_14
          induction n_14 with
          | zero => intro k_14 j u1 H locs ls hkf hkN_14 ex_14 hP hD hS hl hR_14; exact absurd hkf (by omega)
          | succ n_14 ih_14 =>
            intro k_14 j u1 H locs ls hkf hkN_14 ex_14 hP hD hS hl hR_14
            refine lv_iload_n hx hb dX2_unmetPairs_14 rfl (lv_at hl 0 rfl) ?_
            refine lv_bipush (v := 9) hx hb dX2_unmetPairs_15 (by decide) ?_
            refine lv_icmp_ge (tgt := 38) hx hb dX2_unmetPairs_17 (by decide) (fun c_2 => ?_) (fun c_2 => ?_)
            · have e8 : L_X2_unmetPairs_14 S i u (n_14 + 1) j u1 = u1 := by rw [L_X2_unmetPairs_14, if_pos c_2]
              have e8 := hR_14.symm.trans e8
              have eu1 : L_X2_unmetPairs_14 S i u 10 (i + 1) u = u1 := by rw [e8]
              clear e8 hR_14 ih_14
              refine lv_iinc (v := i + 1) (lv' := [(2, .int (i + 1)), (3, .int j), (1, .int u1), (0, .ref r)]) hx hb dX2_unmetPairs_38 hl (k := 1) rfl rfl (by decide) rfl (fun ls hl => ?_)
              refine lv_goto (tgt := 4) hx hb dX2_unmetPairs_41 (by decide) ?_
              subst eu1
              exact ih_4 (k_4 + 1) (i + 1) (L_X2_unmetPairs_14 S i u 10 (i + 1) u) _ _ _ (by omega) (by omega) (by rw [ex_4]; exact nI_1 k_4)  hP hD hS (lv_sub hl [0, 2, 3] rfl) (by rw [L_X2_unmetPairs_4, if_neg c_1] at hR_4; exact hR_4)
            · have hk_14 := my_lt ex_14 (show (9 : Int32) = nI 9 from rfl) (by decide) hkN_14 c_2
              refine lv_aload_n hx hb dX2_unmetPairs_20 rfl (lv_at hl 3 rfl) ?_
              refine lv_iload_n hx hb dX2_unmetPairs_21 rfl (lv_at hl 1 rfl) ?_
              refine lv_iload_n hx hb dX2_unmetPairs_22 rfl (lv_at hl 0 rfl) ?_
              refine ck_iD (wr := ([] : va_W)) (ws' := wR Y r q S) (va_runV (As := [.int i, .int j]) (rest := []) ⟨hx, hb, hml, hown, hts⟩ (c_X2_isUnmet l D Y H.size q S r i j (by rw [ex_4]; exact vp_in_nI hk_4 (by decide)) (by rw [ex_14]; exact vp_in_nI hk_14 (by decide))) (cwV 2 hts gX2_unmetPairs_X2_isUnmet rfl rfl rfl (by decide +kernel) ⟨Nat.le_of_ble_eq_true rfl, Nat.le_of_ble_eq_true rfl⟩) (pst_V hK hP hD [0, 1, 2, 3, 4, 5, 6, 7, 8, 9, 10] rfl (by decide) (q0 := 0) rfl rfl) rfl rfl hl.1 rfl (lv_room (Nat.le_of_ble_eq_true rfl)) dX2_unmetPairs_23 ⟨Nat.zero_le _, Nat.zero_le _⟩) hP hD hS hA [0, 1, 2, 3, 4, 5, 6, 7, 8, 9, 10] [] [0, 1, 2, 3, 4, 5, 6, 7, 8, 9, 10] rfl rfl (by decide) (by decide) rfl (by decide) (fun H locs hP hD hS => ?_)
              refine lv_if_eq (tgt := 32) hx hb dX2_unmetPairs_26 (by decide) (fun c_3 => ?_) (fun c_3 => ?_)
              · refine lv_iinc (v := j + 1) (lv' := [(3, .int (j + 1)), (2, .int i), (1, .int u1), (0, .ref r)]) hx hb dX2_unmetPairs_32 hl (k := 0) rfl rfl (by decide) rfl (fun ls hl => ?_)
                refine lv_goto (tgt := 14) hx hb dX2_unmetPairs_35 (by decide) ?_
                exact ih_14 (k_14 + 1) (j + 1) u1 _ _ _ (by omega) (by omega) (by rw [ex_14]; exact nI_1 k_14)  hP hD hS (lv_sub hl [0, 1, 2, 3] rfl) (by rw [L_X2_unmetPairs_14, if_neg c_2, if_pos c_3] at hR_14; exact hR_14)
              · refine lv_iinc (v := u1 + 1) (lv' := [(1, .int (u1 + 1)), (3, .int j), (2, .int i), (0, .ref r)]) hx hb dX2_unmetPairs_29 hl (k := 2) rfl rfl (by decide) rfl (fun ls hl => ?_)
                refine lv_iinc (v := j + 1) (lv' := [(3, .int (j + 1)), (1, .int (u1 + 1)), (2, .int i), (0, .ref r)]) hx hb dX2_unmetPairs_32 hl (k := 1) rfl rfl (by decide) rfl (fun ls hl => ?_)
                refine lv_goto (tgt := 14) hx hb dX2_unmetPairs_35 (by decide) ?_
                exact ih_14 (k_14 + 1) (j + 1) (u1 + 1) _ _ _ (by omega) (by omega) (by rw [ex_14]; exact nI_1 k_14)  hP hD hS (lv_sub hl [0, 2, 1, 3] rfl) (by rw [L_X2_unmetPairs_14, if_neg c_2, if_neg c_3] at hR_14; exact hR_14)
        exact loop_14 10 (k_4 + 1) (i + 1) u _ _ _ (by omega) (by omega) (by rw [ex_4]; exact nI_1 k_4)  hP hD hS (lv_sub hl [0, 1, 2, 3] rfl) rfl
  exact loop_4 10 0 0 0 _ _ _ (by omega) (Nat.zero_le _) nI_0.symm  hP hD hS (lv_sub hl [0, 1, 2] rfl) rfl
def L_X2_hasUnmetPair_2 (S : Nat → Nat → Int32) (n : Int32) : Nat → (Int32) → (Int32)
  | 0, i => 0
  | n_2 + 1, i => if 9 ≤ i then 0 else (if (D_X3_counterpart i n) ≤ i then (L_X2_hasUnmetPair_2 S n n_2 (i + 1)) else (if (D_X2_isUnmet S i (D_X3_counterpart i n)) = 0 then (L_X2_hasUnmetPair_2 S n n_2 (i + 1)) else 1))
def D_X2_hasUnmetPair (S : Nat → Nat → Int32) (n : Int32) : (Int32) := L_X2_hasUnmetPair_2 S n 10 0
set_option maxHeartbeats 4000000 in
set_option maxRecDepth 100000 in
theorem c_X2_hasUnmetPair (l : Launch) (D : va_G) (Y : YY) (sz : Nat) (q : Nat → Nat) (S : Nat → Nat → Int32) (r : Nat) (n : Int32) : Met l yX2_hasUnmetPair wsX2_hasUnmetPair ({ frames := 3, cells := 0, slots := 0, locals := 63 } : Room) (va_Pc [.ref r, .int n] (Pst D Y sz (wR Y r q S))) ((fun A : Nat → Prop => Qsi D (fun r9 w9 => r9 = D_X2_hasUnmetPair S n ∧ w9 = wR Y r q S) A) (va_A (wR Y r q S) sz)) 0 0 (va_A (wR Y r q S) sz) := by
  refine ct_in (cc := cX2_hasUnmetPair) (maxL := 4) (ret := (some .boolean)) (Qc := fun A : Nat → Prop => Qsi D (fun r9 w9 => r9 = D_X2_hasUnmetPair S n ∧ w9 = wR Y r q S) A) (by decide +kernel) rfl (Nat.le_of_ble_eq_true rfl) ?_
  intro p e s m below meth c A ls hx hb hr hts hown hml hlk hin hsz hA hP hD hK hS hl
  have hown : s.vm.findClass RX2 = some m.cls := hown
  have hl : lv_has ls 4 [(0, .ref r), (1, .int n)] := hl
  show W p l e ({ frames := 3, cells := 0, slots := 0, locals := 63 } : Room) s m ([.ref r, .int n] : List Value).toArray below meth c s.heap [] 0 0 (MQ below (Qsi D (fun r9 w9 => r9 = D_X2_hasUnmetPair S n ∧ w9 = wR Y r q S) A) ([.ref r, .int n] : List Value).toArray s 0 0 A) (F0 m 0 ls [])
  refine lv_iconst (v := 0) hx hb dX2_hasUnmetPair_0 (by decide) ?_
  refine lv_istore_n (lv' := [(2, .int 0), (0, .ref r), (1, .int n)]) hx hb dX2_hasUnmetPair_1 rfl hl (by decide) rfl (fun ls hl => ?_)
  have loop_2 : ∀ (n_2 k_2 : Nat) (i : Int32) (H : Heap) (locs : List Loc) (ls : Array Slot), 10 ≤ k_2 + n_2 → k_2 ≤ 9 → i = nI k_2 → va_P D vwCl (wR Y r q S) H → va_D A (wR Y r q S) → va_S A s.heap H locs → lv_has ls 4 [(2, .int i), (0, .ref r), (1, .int n)] → L_X2_hasUnmetPair_2 S n n_2 i = D_X2_hasUnmetPair S n → W p l e ({ frames := 3, cells := 0, slots := 0, locals := 63 } : Room) s m ([.ref r, .int n] : List Value).toArray below meth c H locs 0 0 (MQ below (Qsi D (fun r9 w9 => r9 = D_X2_hasUnmetPair S n ∧ w9 = wR Y r q S) A) ([.ref r, .int n] : List Value).toArray s 0 0 A) (F0 m 2 ls []) := by
    intro n_2
    induction n_2 with
    | zero => intro k_2 i H locs ls hkf hkN_2 ex_2 hP hD hS hl hR_2; exact absurd hkf (by omega)
    | succ n_2 ih_2 =>
      intro k_2 i H locs ls hkf hkN_2 ex_2 hP hD hS hl hR_2
      refine lv_iload_n hx hb dX2_hasUnmetPair_2 rfl (lv_at hl 0 rfl) ?_
      refine lv_bipush (v := 9) hx hb dX2_hasUnmetPair_3 (by decide) ?_
      refine lv_icmp_ge (tgt := 36) hx hb dX2_hasUnmetPair_5 (by decide) (fun c_1 => ?_) (fun c_1 => ?_)
      · refine lv_iconst (v := 0) hx hb dX2_hasUnmetPair_36 (by decide) ?_
        have e9 : L_X2_hasUnmetPair_2 S n (n_2 + 1) i = 0 := by rw [L_X2_hasUnmetPair_2, if_pos c_1]
        have e9 := hR_2.symm.trans e9
        exact ret_z hx hb hr rfl hlk hP hD hS dX2_hasUnmetPair_37 ⟨Nat.zero_le _, Nat.zero_le _⟩ ⟨e9.symm, rfl⟩
      · have hk_2 := my_lt ex_2 (show (9 : Int32) = nI 9 from rfl) (by decide) hkN_2 c_1
        refine lv_iload_n hx hb dX2_hasUnmetPair_8 rfl (lv_at hl 0 rfl) ?_
        refine lv_iload_n hx hb dX2_hasUnmetPair_9 rfl (lv_at hl 2 rfl) ?_
        refine ck_iD (wr := wR Y r q S) (ws' := wR Y r q S) (va_runSN (As := [.int i, .int n]) (rest := []) ⟨hx, hb, hml, hown, hts⟩ (c_X3_counterpart l D Y H.size i n) ⟨va_cnB 2 hts gX2_hasUnmetPair_X3_counterpart_n75 rfl rfl rfl hK.2.2.1 (hts (.initialized RX3) (by decide +kernel)) (by decide +kernel) ⟨Nat.le_of_ble_eq_true rfl, Nat.le_of_ble_eq_true rfl⟩, hts (.static yX3_counterpart) (by decide +kernel), trivial⟩ (pst_S hK hP hD [] rfl (by decide)) rfl rfl hl.1 rfl (lv_room (Nat.le_of_ble_eq_true rfl)) dX2_hasUnmetPair_10 ⟨Nat.zero_le _, Nat.zero_le _⟩) hP hD hS hA [] [0, 1, 2, 3, 4, 5, 6, 7, 8, 9, 10] [0, 1, 2, 3, 4, 5, 6, 7, 8, 9, 10] rfl rfl (by decide) (by decide) rfl (by decide) (fun H locs hP hD hS => ?_)
        refine lv_istore_n (lv' := [(3, .int (D_X3_counterpart i n)), (2, .int i), (0, .ref r), (1, .int n)]) hx hb dX2_hasUnmetPair_13 rfl hl (by decide) rfl (fun ls hl => ?_)
        refine lv_iload_n hx hb dX2_hasUnmetPair_14 rfl (lv_at hl 1 rfl) ?_
        refine lv_iload_n hx hb dX2_hasUnmetPair_15 rfl (lv_at hl 0 rfl) ?_
        refine lv_icmp_ge (tgt := 30) hx hb dX2_hasUnmetPair_16 (by decide) (fun c_2 => ?_) (fun c_2 => ?_)
        · refine lv_iinc (v := i + 1) (lv' := [(2, .int (i + 1)), (3, .int (D_X3_counterpart i n)), (0, .ref r), (1, .int n)]) hx hb dX2_hasUnmetPair_30 hl (k := 1) rfl rfl (by decide) rfl (fun ls hl => ?_)
          refine lv_goto (tgt := 2) hx hb dX2_hasUnmetPair_33 (by decide) ?_
          exact ih_2 (k_2 + 1) (i + 1) _ _ _ (by omega) (by omega) (by rw [ex_2]; exact nI_1 k_2)  hP hD hS (lv_sub hl [0, 2, 3] rfl) (by rw [L_X2_hasUnmetPair_2, if_neg c_1, if_pos c_2] at hR_2; exact hR_2)
        · refine lv_aload_n hx hb dX2_hasUnmetPair_19 rfl (lv_at hl 2 rfl) ?_
          refine lv_iload_n hx hb dX2_hasUnmetPair_20 rfl (lv_at hl 1 rfl) ?_
          refine lv_iload_n hx hb dX2_hasUnmetPair_21 rfl (lv_at hl 0 rfl) ?_
          refine ck_iD (wr := ([] : va_W)) (ws' := wR Y r q S) (va_runV (As := [.int i, .int (D_X3_counterpart i n)]) (rest := []) ⟨hx, hb, hml, hown, hts⟩ (c_X2_isUnmet l D Y H.size q S r i (D_X3_counterpart i n) (by rw [ex_2]; exact vp_in_nI hk_2 (by decide)) (in_counterpart _ _)) (cwV 2 hts gX2_hasUnmetPair_X2_isUnmet rfl rfl rfl (by decide +kernel) ⟨Nat.le_of_ble_eq_true rfl, Nat.le_of_ble_eq_true rfl⟩) (pst_V hK hP hD [0, 1, 2, 3, 4, 5, 6, 7, 8, 9, 10] rfl (by decide) (q0 := 0) rfl rfl) rfl rfl hl.1 rfl (lv_room (Nat.le_of_ble_eq_true rfl)) dX2_hasUnmetPair_22 ⟨Nat.zero_le _, Nat.zero_le _⟩) hP hD hS hA [0, 1, 2, 3, 4, 5, 6, 7, 8, 9, 10] [] [0, 1, 2, 3, 4, 5, 6, 7, 8, 9, 10] rfl rfl (by decide) (by decide) rfl (by decide) (fun H locs hP hD hS => ?_)
          refine lv_if_eq (tgt := 30) hx hb dX2_hasUnmetPair_25 (by decide) (fun c_3 => ?_) (fun c_3 => ?_)
          · refine lv_iinc (v := i + 1) (lv' := [(2, .int (i + 1)), (3, .int (D_X3_counterpart i n)), (0, .ref r), (1, .int n)]) hx hb dX2_hasUnmetPair_30 hl (k := 1) rfl rfl (by decide) rfl (fun ls hl => ?_)
            refine lv_goto (tgt := 2) hx hb dX2_hasUnmetPair_33 (by decide) ?_
            exact ih_2 (k_2 + 1) (i + 1) _ _ _ (by omega) (by omega) (by rw [ex_2]; exact nI_1 k_2)  hP hD hS (lv_sub hl [0, 2, 3] rfl) (by rw [L_X2_hasUnmetPair_2, if_neg c_1, if_neg c_2, if_pos c_3] at hR_2; exact hR_2)
          · refine lv_iconst (v := 1) hx hb dX2_hasUnmetPair_28 (by decide) ?_
            have e9 : L_X2_hasUnmetPair_2 S n (n_2 + 1) i = 1 := by rw [L_X2_hasUnmetPair_2, if_neg c_1, if_neg c_2, if_neg c_3]
            have e9 := hR_2.symm.trans e9
            exact ret_z hx hb hr rfl hlk hP hD hS dX2_hasUnmetPair_29 ⟨Nat.zero_le _, Nat.zero_le _⟩ ⟨e9.symm, rfl⟩
  exact loop_2 10 0 0 _ _ _ (by omega) (Nat.zero_le _) nI_0.symm  hP hD hS (lv_sub hl [0, 1, 2] rfl) (by rw [D_X2_hasUnmetPair])
def L_X2_remaindersWithUnmetPair_4 (S : Nat → Nat → Int32) : Nat → (Int32) → (Int32) → (Int32)
  | 0, i, u => u
  | n_4 + 1, i, u => if 9 ≤ i then u else (if (D_X2_hasUnmetPair S i) = 0 then (L_X2_remaindersWithUnmetPair_4 S n_4 (i + 1) u) else (L_X2_remaindersWithUnmetPair_4 S n_4 (i + 1) (u + 1)))
def D_X2_remaindersWithUnmetPair (S : Nat → Nat → Int32)  : (Int32) := (L_X2_remaindersWithUnmetPair_4 S 10 0 0)
set_option maxHeartbeats 4000000 in
set_option maxRecDepth 100000 in
theorem c_X2_remaindersWithUnmetPair (l : Launch) (D : va_G) (Y : YY) (sz : Nat) (q : Nat → Nat) (S : Nat → Nat → Int32) (r : Nat) : Met l yX2_remaindersWithUnmetPair wsX2_remaindersWithUnmetPair ({ frames := 4, cells := 0, slots := 0, locals := 86 } : Room) (va_Pc [.ref r] (Pst D Y sz (wR Y r q S))) ((fun A : Nat → Prop => Qsi D (fun r9 w9 => r9 = D_X2_remaindersWithUnmetPair S ∧ w9 = wR Y r q S) A) (va_A (wR Y r q S) sz)) 0 0 (va_A (wR Y r q S) sz) := by
  refine ct_in (cc := cX2_remaindersWithUnmetPair) (maxL := 3) (ret := (some .int)) (Qc := fun A : Nat → Prop => Qsi D (fun r9 w9 => r9 = D_X2_remaindersWithUnmetPair S ∧ w9 = wR Y r q S) A) (by decide +kernel) rfl (Nat.le_of_ble_eq_true rfl) ?_
  intro p e s m below meth c A ls hx hb hr hts hown hml hlk hin hsz hA hP hD hK hS hl
  have hown : s.vm.findClass RX2 = some m.cls := hown
  have hl : lv_has ls 3 [(0, .ref r)] := hl
  show W p l e ({ frames := 4, cells := 0, slots := 0, locals := 86 } : Room) s m ([.ref r] : List Value).toArray below meth c s.heap [] 0 0 (MQ below (Qsi D (fun r9 w9 => r9 = D_X2_remaindersWithUnmetPair S ∧ w9 = wR Y r q S) A) ([.ref r] : List Value).toArray s 0 0 A) (F0 m 0 ls [])
  refine lv_iconst (v := 0) hx hb dX2_remaindersWithUnmetPair_0 (by decide) ?_
  refine lv_istore_n (lv' := [(1, .int 0), (0, .ref r)]) hx hb dX2_remaindersWithUnmetPair_1 rfl hl (by decide) rfl (fun ls hl => ?_)
  refine lv_iconst (v := 0) hx hb dX2_remaindersWithUnmetPair_2 (by decide) ?_
  refine lv_istore_n (lv' := [(2, .int 0), (1, .int 0), (0, .ref r)]) hx hb dX2_remaindersWithUnmetPair_3 rfl hl (by decide) rfl (fun ls hl => ?_)
  have loop_4 : ∀ (n_4 k_4 : Nat) (i : Int32) (u : Int32) (H : Heap) (locs : List Loc) (ls : Array Slot), 10 ≤ k_4 + n_4 → k_4 ≤ 9 → i = nI k_4 → va_P D vwCl (wR Y r q S) H → va_D A (wR Y r q S) → va_S A s.heap H locs → lv_has ls 3 [(2, .int i), (1, .int u), (0, .ref r)] → L_X2_remaindersWithUnmetPair_4 S n_4 i u = L_X2_remaindersWithUnmetPair_4 S 10 0 0 → W p l e ({ frames := 4, cells := 0, slots := 0, locals := 86 } : Room) s m ([.ref r] : List Value).toArray below meth c H locs 0 0 (MQ below (Qsi D (fun r9 w9 => r9 = D_X2_remaindersWithUnmetPair S ∧ w9 = wR Y r q S) A) ([.ref r] : List Value).toArray s 0 0 A) (F0 m 4 ls []) := by
    intro n_4
    induction n_4 with
    | zero => intro k_4 i u H locs ls hkf hkN_4 ex_4 hP hD hS hl hR_4; exact absurd hkf (by omega)
    | succ n_4 ih_4 =>
      intro k_4 i u H locs ls hkf hkN_4 ex_4 hP hD hS hl hR_4
      refine lv_iload_n hx hb dX2_remaindersWithUnmetPair_4 rfl (lv_at hl 0 rfl) ?_
      refine lv_bipush (v := 9) hx hb dX2_remaindersWithUnmetPair_5 (by decide) ?_
      refine lv_icmp_ge (tgt := 27) hx hb dX2_remaindersWithUnmetPair_7 (by decide) (fun c_1 => ?_) (fun c_1 => ?_)
      · have e8 : L_X2_remaindersWithUnmetPair_4 S (n_4 + 1) i u = u := by rw [L_X2_remaindersWithUnmetPair_4, if_pos c_1]
        have e8 := hR_4.symm.trans e8
        have eu : L_X2_remaindersWithUnmetPair_4 S 10 0 0 = u := by rw [e8]
        clear e8 hR_4 ih_4
        refine lv_iload_n hx hb dX2_remaindersWithUnmetPair_27 rfl (lv_at hl 1 rfl) ?_
        subst eu
        have e9 : D_X2_remaindersWithUnmetPair S = (L_X2_remaindersWithUnmetPair_4 S 10 0 0) := by rw [D_X2_remaindersWithUnmetPair]
        exact ret_i hx hb hr hlk hP hD hS dX2_remaindersWithUnmetPair_28 ⟨Nat.zero_le _, Nat.zero_le _⟩ ⟨e9.symm, rfl⟩
      · have hk_4 := my_lt ex_4 (show (9 : Int32) = nI 9 from rfl) (by decide) hkN_4 c_1
        refine lv_aload_n hx hb dX2_remaindersWithUnmetPair_10 rfl (lv_at hl 2 rfl) ?_
        refine lv_iload_n hx hb dX2_remaindersWithUnmetPair_11 rfl (lv_at hl 0 rfl) ?_
        refine ck_iD (wr := ([] : va_W)) (ws' := wR Y r q S) (va_runV (As := [.int i]) (rest := []) ⟨hx, hb, hml, hown, hts⟩ (c_X2_hasUnmetPair l D Y H.size q S r i) (cwV 1 hts gX2_remaindersWithUnmetPair_X2_hasUnmetPair rfl rfl rfl (by decide +kernel) ⟨Nat.le_of_ble_eq_true rfl, Nat.le_of_ble_eq_true rfl⟩) (pst_V hK hP hD [0, 1, 2, 3, 4, 5, 6, 7, 8, 9, 10] rfl (by decide) (q0 := 0) rfl rfl) rfl rfl hl.1 rfl (lv_room (Nat.le_of_ble_eq_true rfl)) dX2_remaindersWithUnmetPair_12 ⟨Nat.zero_le _, Nat.zero_le _⟩) hP hD hS hA [0, 1, 2, 3, 4, 5, 6, 7, 8, 9, 10] [] [0, 1, 2, 3, 4, 5, 6, 7, 8, 9, 10] rfl rfl (by decide) (by decide) rfl (by decide) (fun H locs hP hD hS => ?_)
        refine lv_if_eq (tgt := 21) hx hb dX2_remaindersWithUnmetPair_15 (by decide) (fun c_2 => ?_) (fun c_2 => ?_)
        · refine lv_iinc (v := i + 1) (lv' := [(2, .int (i + 1)), (1, .int u), (0, .ref r)]) hx hb dX2_remaindersWithUnmetPair_21 hl (k := 0) rfl rfl (by decide) rfl (fun ls hl => ?_)
          refine lv_goto (tgt := 4) hx hb dX2_remaindersWithUnmetPair_24 (by decide) ?_
          exact ih_4 (k_4 + 1) (i + 1) u _ _ _ (by omega) (by omega) (by rw [ex_4]; exact nI_1 k_4)  hP hD hS (lv_sub hl [0, 1, 2] rfl) (by rw [L_X2_remaindersWithUnmetPair_4, if_neg c_1, if_pos c_2] at hR_4; exact hR_4)
        · refine lv_iinc (v := u + 1) (lv' := [(1, .int (u + 1)), (2, .int i), (0, .ref r)]) hx hb dX2_remaindersWithUnmetPair_18 hl (k := 1) rfl rfl (by decide) rfl (fun ls hl => ?_)
          refine lv_iinc (v := i + 1) (lv' := [(2, .int (i + 1)), (1, .int (u + 1)), (0, .ref r)]) hx hb dX2_remaindersWithUnmetPair_21 hl (k := 1) rfl rfl (by decide) rfl (fun ls hl => ?_)
          refine lv_goto (tgt := 4) hx hb dX2_remaindersWithUnmetPair_24 (by decide) ?_
          exact ih_4 (k_4 + 1) (i + 1) (u + 1) _ _ _ (by omega) (by omega) (by rw [ex_4]; exact nI_1 k_4)  hP hD hS (lv_sub hl [0, 1, 2] rfl) (by rw [L_X2_remaindersWithUnmetPair_4, if_neg c_1, if_neg c_2] at hR_4; exact hR_4)
  exact loop_4 10 0 0 0 _ _ _ (by omega) (Nat.zero_le _) nI_0.symm  hP hD hS (lv_sub hl [0, 1, 2] rfl) rfl
def L_X2_roundsByTrying_14 (S : Nat → Nat → Int32) (i : Int32) (u : Int32) : Nat → (Int32) → (Int32) → (Int32)
  | 0, j, u1 => u1
  | n_14 + 1, j, u1 => if 9 ≤ j then u1 else (if (D_X2_isUnmet S i j) = 0 then (L_X2_roundsByTrying_14 S i u n_14 (j + 1) u1) else (L_X2_roundsByTrying_14 S i u n_14 (j + 1) (u1 ||| (1 <<< ((D_X3_remainderOf (i + j)) &&& 31)))))
def L_X2_roundsByTrying_4 (S : Nat → Nat → Int32) : Nat → (Int32) → (Int32) → (Int32)
  | 0, i, u => u
  | n_4 + 1, i, u => if 9 ≤ i then u else (L_X2_roundsByTrying_4 S n_4 (i + 1) (L_X2_roundsByTrying_14 S i u 10 (i + 1) u))
def D_X2_roundsByTrying (S : Nat → Nat → Int32)  : (Int32) := D_J6_bitCount_0f7a4 (L_X2_roundsByTrying_4 S 10 0 0)
set_option maxHeartbeats 4000000 in
set_option maxRecDepth 100000 in
theorem c_X2_roundsByTrying (l : Launch) (D : va_G) (Y : YY) (sz : Nat) (q : Nat → Nat) (S : Nat → Nat → Int32) (r : Nat) : Met l yX2_roundsByTrying wsX2_roundsByTrying ({ frames := 2, cells := 0, slots := 0, locals := 43 } : Room) (va_Pc [.ref r] (Pst D Y sz (wR Y r q S))) ((fun A : Nat → Prop => Qsi D (fun r9 w9 => r9 = D_X2_roundsByTrying S ∧ w9 = wR Y r q S) A) (va_A (wR Y r q S) sz)) 0 0 (va_A (wR Y r q S) sz) := by
  refine ct_in (cc := cX2_roundsByTrying) (maxL := 4) (ret := (some .int)) (Qc := fun A : Nat → Prop => Qsi D (fun r9 w9 => r9 = D_X2_roundsByTrying S ∧ w9 = wR Y r q S) A) (by decide +kernel) rfl (Nat.le_of_ble_eq_true rfl) ?_
  intro p e s m below meth c A ls hx hb hr hts hown hml hlk hin hsz hA hP hD hK hS hl
  have hown : s.vm.findClass RX2 = some m.cls := hown
  have hl : lv_has ls 4 [(0, .ref r)] := hl
  show W p l e ({ frames := 2, cells := 0, slots := 0, locals := 43 } : Room) s m ([.ref r] : List Value).toArray below meth c s.heap [] 0 0 (MQ below (Qsi D (fun r9 w9 => r9 = D_X2_roundsByTrying S ∧ w9 = wR Y r q S) A) ([.ref r] : List Value).toArray s 0 0 A) (F0 m 0 ls [])
  refine lv_iconst (v := 0) hx hb dX2_roundsByTrying_0 (by decide) ?_
  refine lv_istore_n (lv' := [(1, .int 0), (0, .ref r)]) hx hb dX2_roundsByTrying_1 rfl hl (by decide) rfl (fun ls hl => ?_)
  refine lv_iconst (v := 0) hx hb dX2_roundsByTrying_2 (by decide) ?_
  refine lv_istore_n (lv' := [(2, .int 0), (1, .int 0), (0, .ref r)]) hx hb dX2_roundsByTrying_3 rfl hl (by decide) rfl (fun ls hl => ?_)
  have loop_4 : ∀ (n_4 k_4 : Nat) (i : Int32) (u : Int32) (H : Heap) (locs : List Loc) (ls : Array Slot), 10 ≤ k_4 + n_4 → k_4 ≤ 9 → i = nI k_4 → va_P D vwCl (wR Y r q S) H → va_D A (wR Y r q S) → va_S A s.heap H locs → lv_has ls 4 [(2, .int i), (1, .int u), (0, .ref r)] → L_X2_roundsByTrying_4 S n_4 i u = L_X2_roundsByTrying_4 S 10 0 0 → W p l e ({ frames := 2, cells := 0, slots := 0, locals := 43 } : Room) s m ([.ref r] : List Value).toArray below meth c H locs 0 0 (MQ below (Qsi D (fun r9 w9 => r9 = D_X2_roundsByTrying S ∧ w9 = wR Y r q S) A) ([.ref r] : List Value).toArray s 0 0 A) (F0 m 4 ls []) := by
    intro n_4
    induction n_4 with
    | zero => intro k_4 i u H locs ls hkf hkN_4 ex_4 hP hD hS hl hR_4; exact absurd hkf (by omega)
    | succ n_4 ih_4 =>
      intro k_4 i u H locs ls hkf hkN_4 ex_4 hP hD hS hl hR_4
      refine lv_iload_n hx hb dX2_roundsByTrying_4 rfl (lv_at hl 0 rfl) ?_
      refine lv_bipush (v := 9) hx hb dX2_roundsByTrying_5 (by decide) ?_
      refine lv_icmp_ge (tgt := 52) hx hb dX2_roundsByTrying_7 (by decide) (fun c_1 => ?_) (fun c_1 => ?_)
      · have e8 : L_X2_roundsByTrying_4 S (n_4 + 1) i u = u := by rw [L_X2_roundsByTrying_4, if_pos c_1]
        have e8 := hR_4.symm.trans e8
        have eu : L_X2_roundsByTrying_4 S 10 0 0 = u := by rw [e8]
        clear e8 hR_4 ih_4
        refine lv_iload_n hx hb dX2_roundsByTrying_52 rfl (lv_at hl 1 rfl) ?_
        refine ck_iD (wr := wR Y r q S) (ws' := wR Y r q S) (va_runS (As := [.int u]) (rest := []) ⟨hx, hb, hml, hown, hts⟩ (c_J6_bitCount_0f7a4 l D Y H.size u) (va_cwS 1 hts gX2_roundsByTrying_J6_bitCount_0f7a4 rfl rfl rfl (by decide +kernel) ⟨Nat.le_of_ble_eq_true rfl, Nat.le_of_ble_eq_true rfl⟩) (pst_S hK hP hD [] rfl (by decide)) rfl rfl hl.1 rfl (lv_room (Nat.le_of_ble_eq_true rfl)) dX2_roundsByTrying_53 ⟨Nat.zero_le _, Nat.zero_le _⟩) hP hD hS hA [] [0, 1, 2, 3, 4, 5, 6, 7, 8, 9, 10] [0, 1, 2, 3, 4, 5, 6, 7, 8, 9, 10] rfl rfl (by decide) (by decide) rfl (by decide) (fun H locs hP hD hS => ?_)
        subst eu
        have e9 : D_X2_roundsByTrying S = D_J6_bitCount_0f7a4 (L_X2_roundsByTrying_4 S 10 0 0) := by rw [D_X2_roundsByTrying]
        exact ret_i hx hb hr hlk hP hD hS dX2_roundsByTrying_56 ⟨Nat.zero_le _, Nat.zero_le _⟩ ⟨e9.symm, rfl⟩
      · have hk_4 := my_lt ex_4 (show (9 : Int32) = nI 9 from rfl) (by decide) hkN_4 c_1
        refine lv_iload_n hx hb dX2_roundsByTrying_10 rfl (lv_at hl 0 rfl) ?_
        refine lv_iconst (v := 1) hx hb dX2_roundsByTrying_11 (by decide) ?_
        refine lv_iadd hx hb dX2_roundsByTrying_12 ?_
        refine lv_istore_n (lv' := [(3, .int (i + 1)), (2, .int i), (1, .int u), (0, .ref r)]) hx hb dX2_roundsByTrying_13 rfl hl (by decide) rfl (fun ls hl => ?_)
        have loop_14 : ∀ (n_14 k_14 : Nat) (j : Int32) (u1 : Int32) (H : Heap) (locs : List Loc) (ls : Array Slot), 10 ≤ k_14 + n_14 → k_14 ≤ 9 → j = nI k_14 → va_P D vwCl (wR Y r q S) H → va_D A (wR Y r q S) → va_S A s.heap H locs → lv_has ls 4 [(3, .int j), (2, .int i), (1, .int u1), (0, .ref r)] → L_X2_roundsByTrying_14 S i u n_14 j u1 = L_X2_roundsByTrying_14 S i u 10 (i + 1) u → W p l e ({ frames := 2, cells := 0, slots := 0, locals := 43 } : Room) s m ([.ref r] : List Value).toArray below meth c H locs 0 0 (MQ below (Qsi D (fun r9 w9 => r9 = D_X2_roundsByTrying S ∧ w9 = wR Y r q S) A) ([.ref r] : List Value).toArray s 0 0 A) (F0 m 14 ls []) := by
          intro n_14
          induction n_14 with
          | zero => intro k_14 j u1 H locs ls hkf hkN_14 ex_14 hP hD hS hl hR_14; exact absurd hkf (by omega)
          | succ n_14 ih_14 =>
            intro k_14 j u1 H locs ls hkf hkN_14 ex_14 hP hD hS hl hR_14
            refine lv_iload_n hx hb dX2_roundsByTrying_14 rfl (lv_at hl 0 rfl) ?_
            refine lv_bipush (v := 9) hx hb dX2_roundsByTrying_15 (by decide) ?_
            refine lv_icmp_ge (tgt := 46) hx hb dX2_roundsByTrying_17 (by decide) (fun c_2 => ?_) (fun c_2 => ?_)
            · have e8 : L_X2_roundsByTrying_14 S i u (n_14 + 1) j u1 = u1 := by rw [L_X2_roundsByTrying_14, if_pos c_2]
              have e8 := hR_14.symm.trans e8
              have eu1 : L_X2_roundsByTrying_14 S i u 10 (i + 1) u = u1 := by rw [e8]
              clear e8 hR_14 ih_14
              refine lv_iinc (v := i + 1) (lv' := [(2, .int (i + 1)), (3, .int j), (1, .int u1), (0, .ref r)]) hx hb dX2_roundsByTrying_46 hl (k := 1) rfl rfl (by decide) rfl (fun ls hl => ?_)
              refine lv_goto (tgt := 4) hx hb dX2_roundsByTrying_49 (by decide) ?_
              subst eu1
              exact ih_4 (k_4 + 1) (i + 1) (L_X2_roundsByTrying_14 S i u 10 (i + 1) u) _ _ _ (by omega) (by omega) (by rw [ex_4]; exact nI_1 k_4)  hP hD hS (lv_sub hl [0, 2, 3] rfl) (by rw [L_X2_roundsByTrying_4, if_neg c_1] at hR_4; exact hR_4)
            · have hk_14 := my_lt ex_14 (show (9 : Int32) = nI 9 from rfl) (by decide) hkN_14 c_2
              refine lv_aload_n hx hb dX2_roundsByTrying_20 rfl (lv_at hl 3 rfl) ?_
              refine lv_iload_n hx hb dX2_roundsByTrying_21 rfl (lv_at hl 1 rfl) ?_
              refine lv_iload_n hx hb dX2_roundsByTrying_22 rfl (lv_at hl 0 rfl) ?_
              refine ck_iD (wr := ([] : va_W)) (ws' := wR Y r q S) (va_runV (As := [.int i, .int j]) (rest := []) ⟨hx, hb, hml, hown, hts⟩ (c_X2_isUnmet l D Y H.size q S r i j (by rw [ex_4]; exact vp_in_nI hk_4 (by decide)) (by rw [ex_14]; exact vp_in_nI hk_14 (by decide))) (cwV 2 hts gX2_roundsByTrying_X2_isUnmet rfl rfl rfl (by decide +kernel) ⟨Nat.le_of_ble_eq_true rfl, Nat.le_of_ble_eq_true rfl⟩) (pst_V hK hP hD [0, 1, 2, 3, 4, 5, 6, 7, 8, 9, 10] rfl (by decide) (q0 := 0) rfl rfl) rfl rfl hl.1 rfl (lv_room (Nat.le_of_ble_eq_true rfl)) dX2_roundsByTrying_23 ⟨Nat.zero_le _, Nat.zero_le _⟩) hP hD hS hA [0, 1, 2, 3, 4, 5, 6, 7, 8, 9, 10] [] [0, 1, 2, 3, 4, 5, 6, 7, 8, 9, 10] rfl rfl (by decide) (by decide) rfl (by decide) (fun H locs hP hD hS => ?_)
              refine lv_if_eq (tgt := 40) hx hb dX2_roundsByTrying_26 (by decide) (fun c_3 => ?_) (fun c_3 => ?_)
              · refine lv_iinc (v := j + 1) (lv' := [(3, .int (j + 1)), (2, .int i), (1, .int u1), (0, .ref r)]) hx hb dX2_roundsByTrying_40 hl (k := 0) rfl rfl (by decide) rfl (fun ls hl => ?_)
                refine lv_goto (tgt := 14) hx hb dX2_roundsByTrying_43 (by decide) ?_
                exact ih_14 (k_14 + 1) (j + 1) u1 _ _ _ (by omega) (by omega) (by rw [ex_14]; exact nI_1 k_14)  hP hD hS (lv_sub hl [0, 1, 2, 3] rfl) (by rw [L_X2_roundsByTrying_14, if_neg c_2, if_pos c_3] at hR_14; exact hR_14)
              · refine lv_iload_n hx hb dX2_roundsByTrying_29 rfl (lv_at hl 2 rfl) ?_
                refine lv_iconst (v := 1) hx hb dX2_roundsByTrying_30 (by decide) ?_
                refine lv_iload_n hx hb dX2_roundsByTrying_31 rfl (lv_at hl 1 rfl) ?_
                refine lv_iload_n hx hb dX2_roundsByTrying_32 rfl (lv_at hl 0 rfl) ?_
                refine lv_iadd hx hb dX2_roundsByTrying_33 ?_
                refine ck_iD (wr := wR Y r q S) (ws' := wR Y r q S) (va_runSN (As := [.int (i + j)]) (rest := [.int 1, .int u1]) ⟨hx, hb, hml, hown, hts⟩ (c_X3_remainderOf l D Y H.size (i + j)) ⟨va_cnB 1 hts gX2_roundsByTrying_X3_remainderOf_n93 rfl rfl rfl hK.2.2.2.2 (hts (.initialized RX3) (by decide +kernel)) (by decide +kernel) ⟨Nat.le_of_ble_eq_true rfl, Nat.le_of_ble_eq_true rfl⟩, hts (.static yX3_remainderOf) (by decide +kernel), trivial⟩ (pst_S hK hP hD [] rfl (by decide)) rfl rfl hl.1 rfl (lv_room (Nat.le_of_ble_eq_true rfl)) dX2_roundsByTrying_34 ⟨Nat.zero_le _, Nat.zero_le _⟩) hP hD hS hA [] [0, 1, 2, 3, 4, 5, 6, 7, 8, 9, 10] [0, 1, 2, 3, 4, 5, 6, 7, 8, 9, 10] rfl rfl (by decide) (by decide) rfl (by decide) (fun H locs hP hD hS => ?_)
                refine lv_ishl hx hb dX2_roundsByTrying_37 ?_
                refine lv_ior hx hb dX2_roundsByTrying_38 ?_
                refine lv_istore_n (lv' := [(1, .int (u1 ||| (1 <<< ((D_X3_remainderOf (i + j)) &&& 31)))), (3, .int j), (2, .int i), (0, .ref r)]) hx hb dX2_roundsByTrying_39 rfl hl (by decide) rfl (fun ls hl => ?_)
                refine lv_iinc (v := j + 1) (lv' := [(3, .int (j + 1)), (1, .int (u1 ||| (1 <<< ((D_X3_remainderOf (i + j)) &&& 31)))), (2, .int i), (0, .ref r)]) hx hb dX2_roundsByTrying_40 hl (k := 1) rfl rfl (by decide) rfl (fun ls hl => ?_)
                refine lv_goto (tgt := 14) hx hb dX2_roundsByTrying_43 (by decide) ?_
                exact ih_14 (k_14 + 1) (j + 1) (u1 ||| (1 <<< ((D_X3_remainderOf (i + j)) &&& 31))) _ _ _ (by omega) (by omega) (by rw [ex_14]; exact nI_1 k_14)  hP hD hS (lv_sub hl [0, 2, 1, 3] rfl) (by rw [L_X2_roundsByTrying_14, if_neg c_2, if_neg c_3] at hR_14; exact hR_14)
        exact loop_14 10 (k_4 + 1) (i + 1) u _ _ _ (by omega) (by omega) (by rw [ex_4]; exact nI_1 k_4)  hP hD hS (lv_sub hl [0, 1, 2, 3] rfl) rfl
  exact loop_4 10 0 0 0 _ _ _ (by omega) (Nat.zero_le _) nI_0.symm  hP hD hS (lv_sub hl [0, 1, 2] rfl) rfl
def D_X2_pairWouldBring (S : Nat → Nat → Int32) (a : Int32) (b : Int32) (w : Int32) : (Int32) := if w = 2 then (if (D_X2_wouldDance S a b) = 0 then (D_J6_bitCount_0f7a4 ((S 10 0) &&& ((1 <<< (a &&& 31)) ||| (1 <<< (b &&& 31))))) else 0) else (if (D_X2_wouldDance S a b) = 0 then 0 else (if w = 1 then (2 * (D_X2_joyOfEach S a b)) else (if w = 3 then (if (S 7 (D_X3_pairIndex a b).toNatClampNeg) = 0 then 1 else 0) else 1)))
set_option maxRecDepth 100000 in
theorem in_X2_pairWouldBring_RX2 : ∀ w ∈ u_ws RX2 TX2 13, w ∈ wsX2_pairWouldBring := by decide +kernel
set_option maxHeartbeats 4000000 in
set_option maxRecDepth 100000 in
theorem c_X2_pairWouldBring (l : Launch) (D : va_G) (Y : YY) (sz : Nat) (q : Nat → Nat) (S : Nat → Nat → Int32) (r : Nat) (a : Int32) (b : Int32) (w : Int32) (h_a : vp_in a 9) (h_b : vp_in b 9) : Met l yX2_pairWouldBring wsX2_pairWouldBring ({ frames := 2, cells := 0, slots := 0, locals := 43 } : Room) (va_Pc [.ref r, .int a, .int b, .int w] (Pst D Y sz (wR Y r q S))) ((fun A : Nat → Prop => Qsi D (fun r9 w9 => r9 = D_X2_pairWouldBring S a b w ∧ w9 = wR Y r q S) A) (va_A (wR Y r q S) sz)) 0 0 (va_A (wR Y r q S) sz) := by
  refine ct_in (cc := cX2_pairWouldBring) (maxL := 5) (ret := (some .int)) (Qc := fun A : Nat → Prop => Qsi D (fun r9 w9 => r9 = D_X2_pairWouldBring S a b w ∧ w9 = wR Y r q S) A) (by decide +kernel) rfl (Nat.le_of_ble_eq_true rfl) ?_
  intro p e s m below meth c A ls hx hb hr hts hown hml hlk hin hsz hA hP hD hK hS hl
  have hown : s.vm.findClass RX2 = some m.cls := hown
  have hl : lv_has ls 5 [(0, .ref r), (1, .int a), (2, .int b), (3, .int w)] := hl
  show W p l e ({ frames := 2, cells := 0, slots := 0, locals := 43 } : Room) s m ([.ref r, .int a, .int b, .int w] : List Value).toArray below meth c s.heap [] 0 0 (MQ below (Qsi D (fun r9 w9 => r9 = D_X2_pairWouldBring S a b w ∧ w9 = wR Y r q S) A) ([.ref r, .int a, .int b, .int w] : List Value).toArray s 0 0 A) (F0 m 0 ls [])
  refine lv_aload_n hx hb dX2_pairWouldBring_0 rfl (lv_at hl 0 rfl) ?_
  refine lv_iload_n hx hb dX2_pairWouldBring_1 rfl (lv_at hl 1 rfl) ?_
  refine lv_iload_n hx hb dX2_pairWouldBring_2 rfl (lv_at hl 2 rfl) ?_
  refine ck_iD (wr := ([] : va_W)) (ws' := wR Y r q S) (va_runV (As := [.int a, .int b]) (rest := []) ⟨hx, hb, hml, hown, hts⟩ (c_X2_wouldDance l D Y s.heap.size q S r a b h_a h_b) (cwV 2 hts gX2_pairWouldBring_X2_wouldDance rfl rfl rfl (by decide +kernel) ⟨Nat.le_of_ble_eq_true rfl, Nat.le_of_ble_eq_true rfl⟩) (pst_V hK hP hD [0, 1, 2, 3, 4, 5, 6, 7, 8, 9, 10] rfl (by decide) (q0 := 0) rfl rfl) rfl rfl hl.1 rfl (lv_room (Nat.le_of_ble_eq_true rfl)) dX2_pairWouldBring_3 ⟨Nat.zero_le _, Nat.zero_le _⟩) hP hD hS hA [0, 1, 2, 3, 4, 5, 6, 7, 8, 9, 10] [] [0, 1, 2, 3, 4, 5, 6, 7, 8, 9, 10] rfl rfl (by decide) (by decide) rfl (by decide) (fun H locs hP hD hS => ?_)
  refine lv_istore (lv' := [(4, .int (D_X2_wouldDance S a b)), (0, .ref r), (1, .int a), (2, .int b), (3, .int w)]) hx hb dX2_pairWouldBring_6 hl (by decide) rfl (fun ls hl => ?_)
  refine lv_iload_n hx hb dX2_pairWouldBring_8 rfl (lv_at hl 4 rfl) ?_
  refine lv_iconst (v := 2) hx hb dX2_pairWouldBring_9 (by decide) ?_
  refine lv_icmp_ne (tgt := 38) hx hb dX2_pairWouldBring_10 (by decide) (fun c_1 => ?_) (fun c_1 => ?_)
  · refine lv_iload hx hb dX2_pairWouldBring_38 (lv_at hl 0 rfl) ?_
    refine lv_if_ne (tgt := 45) hx hb dX2_pairWouldBring_40 (by decide) (fun c_2 => ?_) (fun c_2 => ?_)
    · refine lv_iload_n hx hb dX2_pairWouldBring_45 rfl (lv_at hl 4 rfl) ?_
      refine lv_iconst (v := 1) hx hb dX2_pairWouldBring_46 (by decide) ?_
      refine lv_icmp_ne (tgt := 59) hx hb dX2_pairWouldBring_47 (by decide) (fun c_3 => ?_) (fun c_3 => ?_)
      · refine lv_iload_n hx hb dX2_pairWouldBring_59 rfl (lv_at hl 4 rfl) ?_
        refine lv_iconst (v := 3) hx hb dX2_pairWouldBring_60 (by decide) ?_
        refine lv_icmp_ne (tgt := 83) hx hb dX2_pairWouldBring_61 (by decide) (fun c_4 => ?_) (fun c_4 => ?_)
        · refine lv_iconst (v := 1) hx hb dX2_pairWouldBring_83 (by decide) ?_
          have e9 : D_X2_pairWouldBring S a b w = 1 := by rw [D_X2_pairWouldBring, if_neg c_1, if_neg c_2, if_neg c_3, if_neg c_4]
          exact ret_i hx hb hr hlk hP hD hS dX2_pairWouldBring_84 ⟨Nat.zero_le _, Nat.zero_le _⟩ ⟨e9.symm, rfl⟩
        · refine lv_aload_n hx hb dX2_pairWouldBring_64 rfl (lv_at hl 1 rfl) ?_
          refine va_get (D := D) (ci := 2) (v := .ref (q 7)) (C := RX2) (T := TX2) (N := 13) hx hb hts in_X2_pairWouldBring_RX2 hown hK.1 hP 0 rfl rfl 8 (by decide) (hts (.fieldLink RX2 37 "NineDancers$Ring" "dances" "[I") (by decide +kernel)) (fun _ h9 => h9) rfl dX2_pairWouldBring_65 ?_
          refine lv_iload_n hx hb dX2_pairWouldBring_68 rfl (lv_at hl 2 rfl) ?_
          refine lv_iload_n hx hb dX2_pairWouldBring_69 rfl (lv_at hl 3 rfl) ?_
          refine ck_iD (wr := wR Y r q S) (ws' := wR Y r q S) (va_runSN (As := [.int a, .int b]) (rest := [.ref (q 7)]) ⟨hx, hb, hml, hown, hts⟩ (c_X3_pairIndex l D Y H.size a b) ⟨va_cnB 2 hts gX2_pairWouldBring_X3_pairIndex_n107 rfl rfl rfl hK.2.2.2.1 (hts (.initialized RX3) (by decide +kernel)) (by decide +kernel) ⟨Nat.le_of_ble_eq_true rfl, Nat.le_of_ble_eq_true rfl⟩, hts (.static yX3_pairIndex) (by decide +kernel), trivial⟩ (pst_S hK hP hD [] rfl (by decide)) rfl rfl hl.1 rfl (lv_room (Nat.le_of_ble_eq_true rfl)) dX2_pairWouldBring_70 ⟨Nat.zero_le _, Nat.zero_le _⟩) hP hD hS hA [] [0, 1, 2, 3, 4, 5, 6, 7, 8, 9, 10] [0, 1, 2, 3, 4, 5, 6, 7, 8, 9, 10] rfl rfl (by decide) (by decide) rfl (by decide) (fun H locs hP hD hS => ?_)
          refine va_iald (D := D) hx hb hK.1 hP 8 0 rfl rfl (in_pairIndex h_a h_b) dX2_pairWouldBring_73 ?_
          refine lv_if_ne (tgt := 81) hx hb dX2_pairWouldBring_74 (by decide) (fun c_5 => ?_) (fun c_5 => ?_)
          · refine lv_iconst (v := 0) hx hb dX2_pairWouldBring_81 (by decide) ?_
            have e9 : D_X2_pairWouldBring S a b w = 0 := by rw [D_X2_pairWouldBring, if_neg c_1, if_neg c_2, if_neg c_3, if_pos c_4, if_neg c_5]
            exact ret_i hx hb hr hlk hP hD hS dX2_pairWouldBring_82 ⟨Nat.zero_le _, Nat.zero_le _⟩ ⟨e9.symm, rfl⟩
          · refine lv_iconst (v := 1) hx hb dX2_pairWouldBring_77 (by decide) ?_
            refine lv_goto (tgt := 82) hx hb dX2_pairWouldBring_78 (by decide) ?_
            have e9 : D_X2_pairWouldBring S a b w = 1 := by rw [D_X2_pairWouldBring, if_neg c_1, if_neg c_2, if_neg c_3, if_pos c_4, if_pos c_5]
            exact ret_i hx hb hr hlk hP hD hS dX2_pairWouldBring_82 ⟨Nat.zero_le _, Nat.zero_le _⟩ ⟨e9.symm, rfl⟩
      · refine lv_iconst (v := 2) hx hb dX2_pairWouldBring_50 (by decide) ?_
        refine lv_aload_n hx hb dX2_pairWouldBring_51 rfl (lv_at hl 1 rfl) ?_
        refine lv_iload_n hx hb dX2_pairWouldBring_52 rfl (lv_at hl 2 rfl) ?_
        refine lv_iload_n hx hb dX2_pairWouldBring_53 rfl (lv_at hl 3 rfl) ?_
        refine ck_iD (wr := ([] : va_W)) (ws' := wR Y r q S) (va_runV (As := [.int a, .int b]) (rest := [.int 2]) ⟨hx, hb, hml, hown, hts⟩ (c_X2_joyOfEach l D Y H.size q S r a b h_a h_b) (cwV 2 hts gX2_pairWouldBring_X2_joyOfEach rfl rfl rfl (by decide +kernel) ⟨Nat.le_of_ble_eq_true rfl, Nat.le_of_ble_eq_true rfl⟩) (pst_V hK hP hD [0, 1, 2, 3, 4, 5, 6, 7, 8, 9, 10] rfl (by decide) (q0 := 0) rfl rfl) rfl rfl hl.1 rfl (lv_room (Nat.le_of_ble_eq_true rfl)) dX2_pairWouldBring_54 ⟨Nat.zero_le _, Nat.zero_le _⟩) hP hD hS hA [0, 1, 2, 3, 4, 5, 6, 7, 8, 9, 10] [] [0, 1, 2, 3, 4, 5, 6, 7, 8, 9, 10] rfl rfl (by decide) (by decide) rfl (by decide) (fun H locs hP hD hS => ?_)
        refine lv_imul hx hb dX2_pairWouldBring_57 ?_
        have e9 : D_X2_pairWouldBring S a b w = 2 * (D_X2_joyOfEach S a b) := by rw [D_X2_pairWouldBring, if_neg c_1, if_neg c_2, if_pos c_3]
        exact ret_i hx hb hr hlk hP hD hS dX2_pairWouldBring_58 ⟨Nat.zero_le _, Nat.zero_le _⟩ ⟨e9.symm, rfl⟩
    · refine lv_iconst (v := 0) hx hb dX2_pairWouldBring_43 (by decide) ?_
      have e9 : D_X2_pairWouldBring S a b w = 0 := by rw [D_X2_pairWouldBring, if_neg c_1, if_pos c_2]
      exact ret_i hx hb hr hlk hP hD hS dX2_pairWouldBring_44 ⟨Nat.zero_le _, Nat.zero_le _⟩ ⟨e9.symm, rfl⟩
  · refine lv_iload hx hb dX2_pairWouldBring_13 (lv_at hl 0 rfl) ?_
    refine lv_if_eq (tgt := 22) hx hb dX2_pairWouldBring_15 (by decide) (fun c_6 => ?_) (fun c_6 => ?_)
    · refine lv_aload_n hx hb dX2_pairWouldBring_22 rfl (lv_at hl 1 rfl) ?_
      refine va_get (D := D) (ci := 2) (v := .int (S 10 0)) (C := RX2) (T := TX2) (N := 13) hx hb hts in_X2_pairWouldBring_RX2 hown hK.1 hP 0 rfl rfl 1 (by decide) (hts (.fieldLink RX2 15 "NineDancers$Ring" "there" "I") (by decide +kernel)) (fun _ h9 => h9) rfl dX2_pairWouldBring_23 ?_
      refine lv_iconst (v := 1) hx hb dX2_pairWouldBring_26 (by decide) ?_
      refine lv_iload_n hx hb dX2_pairWouldBring_27 rfl (lv_at hl 2 rfl) ?_
      refine lv_ishl hx hb dX2_pairWouldBring_28 ?_
      refine lv_iconst (v := 1) hx hb dX2_pairWouldBring_29 (by decide) ?_
      refine lv_iload_n hx hb dX2_pairWouldBring_30 rfl (lv_at hl 3 rfl) ?_
      refine lv_ishl hx hb dX2_pairWouldBring_31 ?_
      refine lv_ior hx hb dX2_pairWouldBring_32 ?_
      refine lv_iand hx hb dX2_pairWouldBring_33 ?_
      refine ck_iD (wr := wR Y r q S) (ws' := wR Y r q S) (va_runS (As := [.int ((S 10 0) &&& ((1 <<< (a &&& 31)) ||| (1 <<< (b &&& 31))))]) (rest := []) ⟨hx, hb, hml, hown, hts⟩ (c_J6_bitCount_0f7a4 l D Y H.size ((S 10 0) &&& ((1 <<< (a &&& 31)) ||| (1 <<< (b &&& 31))))) (va_cwS 1 hts gX2_pairWouldBring_J6_bitCount_0f7a4 rfl rfl rfl (by decide +kernel) ⟨Nat.le_of_ble_eq_true rfl, Nat.le_of_ble_eq_true rfl⟩) (pst_S hK hP hD [] rfl (by decide)) rfl rfl hl.1 rfl (lv_room (Nat.le_of_ble_eq_true rfl)) dX2_pairWouldBring_34 ⟨Nat.zero_le _, Nat.zero_le _⟩) hP hD hS hA [] [0, 1, 2, 3, 4, 5, 6, 7, 8, 9, 10] [0, 1, 2, 3, 4, 5, 6, 7, 8, 9, 10] rfl rfl (by decide) (by decide) rfl (by decide) (fun H locs hP hD hS => ?_)
      have e9 : D_X2_pairWouldBring S a b w = D_J6_bitCount_0f7a4 ((S 10 0) &&& ((1 <<< (a &&& 31)) ||| (1 <<< (b &&& 31)))) := by rw [D_X2_pairWouldBring, if_pos c_1, if_pos c_6]
      exact ret_i hx hb hr hlk hP hD hS dX2_pairWouldBring_37 ⟨Nat.zero_le _, Nat.zero_le _⟩ ⟨e9.symm, rfl⟩
    · refine lv_iconst (v := 0) hx hb dX2_pairWouldBring_18 (by decide) ?_
      refine lv_goto (tgt := 37) hx hb dX2_pairWouldBring_19 (by decide) ?_
      have e9 : D_X2_pairWouldBring S a b w = 0 := by rw [D_X2_pairWouldBring, if_pos c_1, if_neg c_6]
      exact ret_i hx hb hr hlk hP hD hS dX2_pairWouldBring_37 ⟨Nat.zero_le _, Nat.zero_le _⟩ ⟨e9.symm, rfl⟩
def V_X2_wouldBring_1 (S : Nat → Nat → Int32) (n : Int32) (w : Int32) (i : Int32) (u : Int32) : Int32 := u + (D_X2_pairWouldBring S i (D_X3_counterpart i n) w)
def L_X2_wouldBring_5 (S : Nat → Nat → Int32) (n : Int32) (w : Int32) : Nat → (Int32) → (Int32) → (Int32)
  | 0, i, u => u
  | n_5 + 1, i, u => if 9 ≤ i then u else (if (D_X3_counterpart i n) ≤ i then (L_X2_wouldBring_5 S n w n_5 (i + 1) u) else (L_X2_wouldBring_5 S n w n_5 (i + 1) (V_X2_wouldBring_1 S n w i u)))
def D_X2_wouldBring (S : Nat → Nat → Int32) (n : Int32) (w : Int32) : (Int32) := (L_X2_wouldBring_5 S n w 10 0 0)
set_option maxHeartbeats 4000000 in
set_option maxRecDepth 100000 in
theorem c_X2_wouldBring (l : Launch) (D : va_G) (Y : YY) (sz : Nat) (q : Nat → Nat) (S : Nat → Nat → Int32) (r : Nat) (n : Int32) (w : Int32) : Met l yX2_wouldBring wsX2_wouldBring ({ frames := 3, cells := 0, slots := 0, locals := 67 } : Room) (va_Pc [.ref r, .int n, .int w] (Pst D Y sz (wR Y r q S))) ((fun A : Nat → Prop => Qsi D (fun r9 w9 => r9 = D_X2_wouldBring S n w ∧ w9 = wR Y r q S) A) (va_A (wR Y r q S) sz)) 0 0 (va_A (wR Y r q S) sz) := by
  refine ct_in (cc := cX2_wouldBring) (maxL := 6) (ret := (some .int)) (Qc := fun A : Nat → Prop => Qsi D (fun r9 w9 => r9 = D_X2_wouldBring S n w ∧ w9 = wR Y r q S) A) (by decide +kernel) rfl (Nat.le_of_ble_eq_true rfl) ?_
  intro p e s m below meth c A ls hx hb hr hts hown hml hlk hin hsz hA hP hD hK hS hl
  have hown : s.vm.findClass RX2 = some m.cls := hown
  have hl : lv_has ls 6 [(0, .ref r), (1, .int n), (2, .int w)] := hl
  show W p l e ({ frames := 3, cells := 0, slots := 0, locals := 67 } : Room) s m ([.ref r, .int n, .int w] : List Value).toArray below meth c s.heap [] 0 0 (MQ below (Qsi D (fun r9 w9 => r9 = D_X2_wouldBring S n w ∧ w9 = wR Y r q S) A) ([.ref r, .int n, .int w] : List Value).toArray s 0 0 A) (F0 m 0 ls [])
  refine lv_iconst (v := 0) hx hb dX2_wouldBring_0 (by decide) ?_
  refine lv_istore_n (lv' := [(3, .int 0), (0, .ref r), (1, .int n), (2, .int w)]) hx hb dX2_wouldBring_1 rfl hl (by decide) rfl (fun ls hl => ?_)
  refine lv_iconst (v := 0) hx hb dX2_wouldBring_2 (by decide) ?_
  refine lv_istore (lv' := [(4, .int 0), (3, .int 0), (0, .ref r), (1, .int n), (2, .int w)]) hx hb dX2_wouldBring_3 hl (by decide) rfl (fun ls hl => ?_)
  have loop_5 : ∀ (n_5 k_5 : Nat) (i : Int32) (u : Int32) (H : Heap) (locs : List Loc) (ls : Array Slot), 10 ≤ k_5 + n_5 → k_5 ≤ 9 → i = nI k_5 → va_P D vwCl (wR Y r q S) H → va_D A (wR Y r q S) → va_S A s.heap H locs → lv_has ls 6 [(4, .int i), (3, .int u), (0, .ref r), (1, .int n), (2, .int w)] → L_X2_wouldBring_5 S n w n_5 i u = L_X2_wouldBring_5 S n w 10 0 0 → W p l e ({ frames := 3, cells := 0, slots := 0, locals := 67 } : Room) s m ([.ref r, .int n, .int w] : List Value).toArray below meth c H locs 0 0 (MQ below (Qsi D (fun r9 w9 => r9 = D_X2_wouldBring S n w ∧ w9 = wR Y r q S) A) ([.ref r, .int n, .int w] : List Value).toArray s 0 0 A) (F0 m 5 ls []) := by
    intro n_5
    induction n_5 with
    | zero => intro k_5 i u H locs ls hkf hkN_5 ex_5 hP hD hS hl hR_5; exact absurd hkf (by omega)
    | succ n_5 ih_5 =>
      intro k_5 i u H locs ls hkf hkN_5 ex_5 hP hD hS hl hR_5
      refine lv_iload hx hb dX2_wouldBring_5 (lv_at hl 0 rfl) ?_
      refine lv_bipush (v := 9) hx hb dX2_wouldBring_7 (by decide) ?_
      refine lv_icmp_ge (tgt := 45) hx hb dX2_wouldBring_9 (by decide) (fun c_1 => ?_) (fun c_1 => ?_)
      · have e8 : L_X2_wouldBring_5 S n w (n_5 + 1) i u = u := by rw [L_X2_wouldBring_5, if_pos c_1]
        have e8 := hR_5.symm.trans e8
        have eu : L_X2_wouldBring_5 S n w 10 0 0 = u := by rw [e8]
        clear e8 hR_5 ih_5
        refine lv_iload_n hx hb dX2_wouldBring_45 rfl (lv_at hl 1 rfl) ?_
        subst eu
        have e9 : D_X2_wouldBring S n w = (L_X2_wouldBring_5 S n w 10 0 0) := by rw [D_X2_wouldBring]
        exact ret_i hx hb hr hlk hP hD hS dX2_wouldBring_46 ⟨Nat.zero_le _, Nat.zero_le _⟩ ⟨e9.symm, rfl⟩
      · have hk_5 := my_lt ex_5 (show (9 : Int32) = nI 9 from rfl) (by decide) hkN_5 c_1
        refine lv_iload hx hb dX2_wouldBring_12 (lv_at hl 0 rfl) ?_
        refine lv_iload_n hx hb dX2_wouldBring_14 rfl (lv_at hl 3 rfl) ?_
        refine ck_iD (wr := wR Y r q S) (ws' := wR Y r q S) (va_runSN (As := [.int i, .int n]) (rest := []) ⟨hx, hb, hml, hown, hts⟩ (c_X3_counterpart l D Y H.size i n) ⟨va_cnB 2 hts gX2_wouldBring_X3_counterpart_n75 rfl rfl rfl hK.2.2.1 (hts (.initialized RX3) (by decide +kernel)) (by decide +kernel) ⟨Nat.le_of_ble_eq_true rfl, Nat.le_of_ble_eq_true rfl⟩, hts (.static yX3_counterpart) (by decide +kernel), trivial⟩ (pst_S hK hP hD [] rfl (by decide)) rfl rfl hl.1 rfl (lv_room (Nat.le_of_ble_eq_true rfl)) dX2_wouldBring_15 ⟨Nat.zero_le _, Nat.zero_le _⟩) hP hD hS hA [] [0, 1, 2, 3, 4, 5, 6, 7, 8, 9, 10] [0, 1, 2, 3, 4, 5, 6, 7, 8, 9, 10] rfl rfl (by decide) (by decide) rfl (by decide) (fun H locs hP hD hS => ?_)
        refine lv_istore (lv' := [(5, .int (D_X3_counterpart i n)), (4, .int i), (3, .int u), (0, .ref r), (1, .int n), (2, .int w)]) hx hb dX2_wouldBring_18 hl (by decide) rfl (fun ls hl => ?_)
        refine lv_iload hx hb dX2_wouldBring_20 (lv_at hl 1 rfl) ?_
        refine lv_iload hx hb dX2_wouldBring_22 (lv_at hl 0 rfl) ?_
        refine lv_icmp_ge (tgt := 39) hx hb dX2_wouldBring_24 (by decide) (fun c_2 => ?_) (fun c_2 => ?_)
        · refine lv_iinc (v := i + 1) (lv' := [(4, .int (i + 1)), (5, .int (D_X3_counterpart i n)), (3, .int u), (0, .ref r), (1, .int n), (2, .int w)]) hx hb dX2_wouldBring_39 hl (k := 1) rfl rfl (by decide) rfl (fun ls hl => ?_)
          refine lv_goto (tgt := 5) hx hb dX2_wouldBring_42 (by decide) ?_
          exact ih_5 (k_5 + 1) (i + 1) u _ _ _ (by omega) (by omega) (by rw [ex_5]; exact nI_1 k_5)  hP hD hS (lv_sub hl [0, 2, 3, 4, 5] rfl) (by rw [L_X2_wouldBring_5, if_neg c_1, if_pos c_2] at hR_5; exact hR_5)
        · refine lv_iload_n hx hb dX2_wouldBring_27 rfl (lv_at hl 2 rfl) ?_
          refine lv_aload_n hx hb dX2_wouldBring_28 rfl (lv_at hl 3 rfl) ?_
          refine lv_iload hx hb dX2_wouldBring_29 (lv_at hl 1 rfl) ?_
          refine lv_iload hx hb dX2_wouldBring_31 (lv_at hl 0 rfl) ?_
          refine lv_iload_n hx hb dX2_wouldBring_33 rfl (lv_at hl 5 rfl) ?_
          refine ck_iD (wr := ([] : va_W)) (ws' := wR Y r q S) (va_runV (As := [.int i, .int (D_X3_counterpart i n), .int w]) (rest := [.int u]) ⟨hx, hb, hml, hown, hts⟩ (c_X2_pairWouldBring l D Y H.size q S r i (D_X3_counterpart i n) w (by rw [ex_5]; exact vp_in_nI hk_5 (by decide)) (in_counterpart _ _)) (cwV 3 hts gX2_wouldBring_X2_pairWouldBring rfl rfl rfl (by decide +kernel) ⟨Nat.le_of_ble_eq_true rfl, Nat.le_of_ble_eq_true rfl⟩) (pst_V hK hP hD [0, 1, 2, 3, 4, 5, 6, 7, 8, 9, 10] rfl (by decide) (q0 := 0) rfl rfl) rfl rfl hl.1 rfl (lv_room (Nat.le_of_ble_eq_true rfl)) dX2_wouldBring_34 ⟨Nat.zero_le _, Nat.zero_le _⟩) hP hD hS hA [0, 1, 2, 3, 4, 5, 6, 7, 8, 9, 10] [] [0, 1, 2, 3, 4, 5, 6, 7, 8, 9, 10] rfl rfl (by decide) (by decide) rfl (by decide) (fun H locs hP hD hS => ?_)
          refine lv_iadd hx hb dX2_wouldBring_37 ?_
          refine lv_istore_n (lv' := [(3, .int (V_X2_wouldBring_1 S n w i u)), (5, .int (D_X3_counterpart i n)), (4, .int i), (0, .ref r), (1, .int n), (2, .int w)]) hx hb dX2_wouldBring_38 rfl hl (by decide) rfl (fun ls hl => ?_)
          refine lv_iinc (v := i + 1) (lv' := [(4, .int (i + 1)), (3, .int (V_X2_wouldBring_1 S n w i u)), (5, .int (D_X3_counterpart i n)), (0, .ref r), (1, .int n), (2, .int w)]) hx hb dX2_wouldBring_39 hl (k := 2) rfl rfl (by decide) rfl (fun ls hl => ?_)
          refine lv_goto (tgt := 5) hx hb dX2_wouldBring_42 (by decide) ?_
          exact ih_5 (k_5 + 1) (i + 1) (V_X2_wouldBring_1 S n w i u) _ _ _ (by omega) (by omega) (by rw [ex_5]; exact nI_1 k_5)  hP hD hS (lv_sub hl [0, 1, 3, 4, 5] rfl) (by rw [L_X2_wouldBring_5, if_neg c_1, if_neg c_2] at hR_5; exact hR_5)
  exact loop_5 10 0 0 0 _ _ _ (by omega) (Nat.zero_le _) nI_0.symm  hP hD hS (lv_sub hl [0, 1, 2, 3, 4] rfl) rfl
end
section
theorem my_mul (k : Nat) {x : Int32} {n N : Nat} (h : vp_in x n) (h2 : k * (n - 1) < N) (hb : N < 2 ^ 31) : vp_in (nI k * x) N := by
  rw [vp_in_iff] at h
  obtain ⟨j, hj, rfl⟩ : ∃ j : Nat, j < n ∧ x = nI j := ⟨x.toInt.toNat, by omega, Int32.toInt_inj.mp (by rw [nI_toInt (by have := Int32.toInt_lt x; omega)]; omega)⟩
  rw [pk_mul]
  refine vp_in_nI (Nat.lt_of_le_of_lt (Nat.mul_le_mul_left k (by omega)) h2) hb
theorem my_rgA {x K : Int32} {n : Nat} (h0 : ¬ x < 0) (h1 : x < K) (hK : K.toInt = n) (hn : n < 2 ^ 31) : vp_in x n := by
  rw [vp_in_iff]
  rw [Int32.lt_iff_toInt_lt] at h0 h1
  have : (0 : Int32).toInt = 0 := rfl
  omega
theorem my_rgB {x K : Int32} {n : Nat} (h0 : ¬ x < 0) (h1 : x ≤ K) (hK : K.toInt + 1 = n) (hn : n < 2 ^ 31) : vp_in x n := by
  rw [vp_in_iff]
  rw [Int32.lt_iff_toInt_lt] at h0
  rw [Int32.le_iff_toInt_le] at h1
  have : (0 : Int32).toInt = 0 := rfl
  omega
theorem my_rgC {x K : Int32} {n : Nat} (h0 : ¬ x < 0) (h1 : ¬ K ≤ x) (hK : K.toInt = n) (hn : n < 2 ^ 31) : vp_in x n := my_rgA h0 (Int32.not_le.mp h1) hK hn
theorem my_rgD {x K : Int32} {n : Nat} (h0 : ¬ x < 0) (h1 : ¬ K < x) (hK : K.toInt + 1 = n) (hn : n < 2 ^ 31) : vp_in x n := my_rgB h0 (Int32.not_lt.mp h1) hK hn
theorem f3_isVillager {x : Int32} (h : ¬ D_X3_isVillager x = 0) : vp_in x 9 := by
  unfold D_X3_isVillager at h
  rw [vp_in_iff]
  simp only [Int32.lt_iff_toInt_lt, Int32.le_iff_toInt_le] at h
  have : (0 : Int32).toInt = 0 := rfl
  have : (9 : Int32).toInt = 9 := rfl
  split at h
  · exact absurd rfl h
  · split at h
    · exact absurd rfl h
    · omega
theorem f3_isNumber {x : Int32} (h : ¬ D_X3_isNumber x = 0) : vp_in x 1000 := by
  unfold D_X3_isNumber at h
  rw [vp_in_iff]
  simp only [Int32.lt_iff_toInt_lt, Int32.le_iff_toInt_le] at h
  have : (0 : Int32).toInt = 0 := rfl
  have : (999 : Int32).toInt = 999 := rfl
  split at h
  · exact absurd rfl h
  · split at h
    · exact absurd rfl h
    · omega
theorem f3_isSlot {x : Int32} (h : ¬ D_X3_isSlot x = 0) : vp_in x 2 := by
  unfold D_X3_isSlot at h
  rw [vp_in_iff]
  simp only [Int32.lt_iff_toInt_lt, Int32.le_iff_toInt_le] at h
  have : (0 : Int32).toInt = 0 := rfl
  have : (2 : Int32).toInt = 2 := rfl
  split at h
  · exact absurd rfl h
  · split at h
    · exact absurd rfl h
    · omega
def D_X4_in  (x : Int64) (lo : Int64) (hi : Int64) : (Int32) := if (lg_cmp x lo) < 0 then 0 else (if 0 < (lg_cmp x hi) then 0 else 1)
set_option maxHeartbeats 4000000 in
set_option maxRecDepth 100000 in
theorem c_X4_in (l : Launch) (D : va_G) (Y : YY) (sz : Nat) (x : Int64) (lo : Int64) (hi : Int64) : Met l yX4_in wsX4_in ({ frames := 0, cells := 0, slots := 0, locals := 0 } : Room) (va_Pc [.long x, .long lo, .long hi] (Pst D Y sz (([] : va_W)))) ((fun A : Nat → Prop => Qsi D (fun r9 w9 => r9 = D_X4_in x lo hi ∧ w9 = ([] : va_W)) A) (va_A (([] : va_W)) sz)) 0 0 (va_A (([] : va_W)) sz) := by
  refine ct_in (cc := cX4_in) (maxL := 6) (ret := (some .boolean)) (Qc := fun A : Nat → Prop => Qsi D (fun r9 w9 => r9 = D_X4_in x lo hi ∧ w9 = ([] : va_W)) A) (by decide +kernel) rfl (Nat.le_of_ble_eq_true rfl) ?_
  intro p e s m below meth c A ls hx hb hr hts hown hml hlk hin hsz hA hP hD hK hS hl
  have hown : s.vm.findClass RX4 = some m.cls := hown
  have hl : lv_has ls 6 [(0, .long x), (2, .long lo), (4, .long hi)] := hl
  show W p l e ({ frames := 0, cells := 0, slots := 0, locals := 0 } : Room) s m ([.long x, .long lo, .long hi] : List Value).toArray below meth c s.heap [] 0 0 (MQ below (Qsi D (fun r9 w9 => r9 = D_X4_in x lo hi ∧ w9 = ([] : va_W)) A) ([.long x, .long lo, .long hi] : List Value).toArray s 0 0 A) (F0 m 0 ls [])
  refine lv_lload_n hx hb dX4_in_0 rfl (lv_at hl 0 rfl) ?_
  refine lv_lload_n hx hb dX4_in_1 rfl (lv_at hl 1 rfl) ?_
  refine W.lcmp hx hb dX4_in_2 ?_
  refine lv_if_lt (tgt := 17) hx hb dX4_in_3 (by decide) (fun c_1 => ?_) (fun c_1 => ?_)
  · refine lv_iconst (v := 0) hx hb dX4_in_17 (by decide) ?_
    have e9 : D_X4_in x lo hi = 0 := by rw [D_X4_in, if_pos c_1]
    exact ret_z hx hb hr rfl hlk hP hD hS dX4_in_18 ⟨Nat.zero_le _, Nat.zero_le _⟩ ⟨e9.symm, rfl⟩
  · refine lv_lload_n hx hb dX4_in_6 rfl (lv_at hl 0 rfl) ?_
    refine lv_lload hx hb dX4_in_7 (lv_at hl 2 rfl) ?_
    refine W.lcmp hx hb dX4_in_9 ?_
    refine lv_if_gt (tgt := 17) hx hb dX4_in_10 (by decide) (fun c_2 => ?_) (fun c_2 => ?_)
    · refine lv_iconst (v := 0) hx hb dX4_in_17 (by decide) ?_
      have e9 : D_X4_in x lo hi = 0 := by rw [D_X4_in, if_neg c_1, if_pos c_2]
      exact ret_z hx hb hr rfl hlk hP hD hS dX4_in_18 ⟨Nat.zero_le _, Nat.zero_le _⟩ ⟨e9.symm, rfl⟩
    · refine lv_iconst (v := 1) hx hb dX4_in_13 (by decide) ?_
      refine lv_goto (tgt := 18) hx hb dX4_in_14 (by decide) ?_
      have e9 : D_X4_in x lo hi = 1 := by rw [D_X4_in, if_neg c_1, if_neg c_2]
      exact ret_z hx hb hr rfl hlk hP hD hS dX4_in_18 ⟨Nat.zero_le _, Nat.zero_le _⟩ ⟨e9.symm, rfl⟩
theorem z_X4_in  (x : Int64) (lo : Int64) (hi : Int64) : D_X4_in x lo hi = 0 ∨ D_X4_in x lo hi = 1 := by unfold D_X4_in; (repeat' split) <;> simp
theorem f4_in {x : Int32} {b : Int64} {n : Nat} (h : ¬ D_X4_in x.toInt64 0 b = 0) (hb : b.toInt + 1 = n) : vp_in x n := by
  unfold D_X4_in at h
  rw [vp_in_iff]
  simp only [lg_cmp_lt, lg_cmp_gt, Int64.lt_iff_toInt_lt, Int32.toInt_toInt64] at h
  have : (0 : Int64).toInt = 0 := rfl
  split at h
  · exact absurd rfl h
  · split at h
    · exact absurd rfl h
    · omega
def D_X4_isVillager  (v : Int32) : (Int32) := D_X4_in v.toInt64 0 8
set_option maxHeartbeats 4000000 in
set_option maxRecDepth 100000 in
theorem c_X4_isVillager (l : Launch) (D : va_G) (Y : YY) (sz : Nat) (v : Int32) : Met l yX4_isVillager wsX4_isVillager ({ frames := 1, cells := 0, slots := 0, locals := 25 } : Room) (va_Pc [.int v] (Pst D Y sz (([] : va_W)))) ((fun A : Nat → Prop => Qsi D (fun r9 w9 => r9 = D_X4_isVillager v ∧ w9 = ([] : va_W)) A) (va_A (([] : va_W)) sz)) 0 0 (va_A (([] : va_W)) sz) := by
  refine ct_in (cc := cX4_isVillager) (maxL := 1) (ret := (some .boolean)) (Qc := fun A : Nat → Prop => Qsi D (fun r9 w9 => r9 = D_X4_isVillager v ∧ w9 = ([] : va_W)) A) (by decide +kernel) rfl (Nat.le_of_ble_eq_true rfl) ?_
  intro p e s m below meth c A ls hx hb hr hts hown hml hlk hin hsz hA hP hD hK hS hl
  have hown : s.vm.findClass RX4 = some m.cls := hown
  have hl : lv_has ls 1 [(0, .int v)] := hl
  show W p l e ({ frames := 1, cells := 0, slots := 0, locals := 25 } : Room) s m ([.int v] : List Value).toArray below meth c s.heap [] 0 0 (MQ below (Qsi D (fun r9 w9 => r9 = D_X4_isVillager v ∧ w9 = ([] : va_W)) A) ([.int v] : List Value).toArray s 0 0 A) (F0 m 0 ls [])
  refine lv_iload_n hx hb dX4_isVillager_0 rfl (lv_at hl 0 rfl) ?_
  refine lv_i2l (v := v.toInt64) hx hb dX4_isVillager_1 rfl ?_
  refine lv_lconst (v := 0) hx hb dX4_isVillager_2 (by decide) ?_
  refine lv_ldc2 (v := 8) hx hb hown (hts (.constantLong RX4 42 (8)) (by decide +kernel)) dX4_isVillager_3 ?_
  refine ck_iD (wr := ([] : va_W)) (ws' := ([] : va_W)) (va_runS (As := [.long v.toInt64, .long 0, .long 8]) (rest := []) ⟨hx, hb, hml, hown, hts⟩ (c_X4_in l D Y s.heap.size v.toInt64 0 8) (va_cwS 3 hts gX4_isVillager_X4_in rfl rfl rfl (by decide +kernel) ⟨Nat.le_of_ble_eq_true rfl, Nat.le_of_ble_eq_true rfl⟩) (pst_S hK hP hD [] rfl (by decide)) rfl rfl hl.1 rfl (lv_room (Nat.le_of_ble_eq_true rfl)) dX4_isVillager_6 ⟨Nat.zero_le _, Nat.zero_le _⟩) hP hD hS hA [] [] [] rfl rfl (by decide) (by decide) rfl (by decide) (fun H locs hP hD hS => ?_)
  have e9 : D_X4_isVillager v = D_X4_in v.toInt64 0 8 := by rw [D_X4_isVillager]
  exact ret_z hx hb hr (nar01 (z_X4_in _ _ _)) hlk hP hD hS dX4_isVillager_9 ⟨Nat.zero_le _, Nat.zero_le _⟩ ⟨e9.symm, rfl⟩
theorem z_X4_isVillager (v : Int32) : D_X4_isVillager v = 0 ∨ D_X4_isVillager v = 1 := z_X4_in _ _ _
theorem f4_isVillager {x : Int32} (h : ¬ D_X4_isVillager x = 0) : vp_in x 9 := f4_in h (by decide)
def D_X4_isNumber  (v : Int32) : (Int32) := D_X4_in v.toInt64 0 999
set_option maxHeartbeats 4000000 in
set_option maxRecDepth 100000 in
theorem c_X4_isNumber (l : Launch) (D : va_G) (Y : YY) (sz : Nat) (v : Int32) : Met l yX4_isNumber wsX4_isNumber ({ frames := 1, cells := 0, slots := 0, locals := 25 } : Room) (va_Pc [.int v] (Pst D Y sz (([] : va_W)))) ((fun A : Nat → Prop => Qsi D (fun r9 w9 => r9 = D_X4_isNumber v ∧ w9 = ([] : va_W)) A) (va_A (([] : va_W)) sz)) 0 0 (va_A (([] : va_W)) sz) := by
  refine ct_in (cc := cX4_isNumber) (maxL := 1) (ret := (some .boolean)) (Qc := fun A : Nat → Prop => Qsi D (fun r9 w9 => r9 = D_X4_isNumber v ∧ w9 = ([] : va_W)) A) (by decide +kernel) rfl (Nat.le_of_ble_eq_true rfl) ?_
  intro p e s m below meth c A ls hx hb hr hts hown hml hlk hin hsz hA hP hD hK hS hl
  have hown : s.vm.findClass RX4 = some m.cls := hown
  have hl : lv_has ls 1 [(0, .int v)] := hl
  show W p l e ({ frames := 1, cells := 0, slots := 0, locals := 25 } : Room) s m ([.int v] : List Value).toArray below meth c s.heap [] 0 0 (MQ below (Qsi D (fun r9 w9 => r9 = D_X4_isNumber v ∧ w9 = ([] : va_W)) A) ([.int v] : List Value).toArray s 0 0 A) (F0 m 0 ls [])
  refine lv_iload_n hx hb dX4_isNumber_0 rfl (lv_at hl 0 rfl) ?_
  refine lv_i2l (v := v.toInt64) hx hb dX4_isNumber_1 rfl ?_
  refine lv_lconst (v := 0) hx hb dX4_isNumber_2 (by decide) ?_
  refine lv_ldc2 (v := 999) hx hb hown (hts (.constantLong RX4 48 (999)) (by decide +kernel)) dX4_isNumber_3 ?_
  refine ck_iD (wr := ([] : va_W)) (ws' := ([] : va_W)) (va_runS (As := [.long v.toInt64, .long 0, .long 999]) (rest := []) ⟨hx, hb, hml, hown, hts⟩ (c_X4_in l D Y s.heap.size v.toInt64 0 999) (va_cwS 3 hts gX4_isNumber_X4_in rfl rfl rfl (by decide +kernel) ⟨Nat.le_of_ble_eq_true rfl, Nat.le_of_ble_eq_true rfl⟩) (pst_S hK hP hD [] rfl (by decide)) rfl rfl hl.1 rfl (lv_room (Nat.le_of_ble_eq_true rfl)) dX4_isNumber_6 ⟨Nat.zero_le _, Nat.zero_le _⟩) hP hD hS hA [] [] [] rfl rfl (by decide) (by decide) rfl (by decide) (fun H locs hP hD hS => ?_)
  have e9 : D_X4_isNumber v = D_X4_in v.toInt64 0 999 := by rw [D_X4_isNumber]
  exact ret_z hx hb hr (nar01 (z_X4_in _ _ _)) hlk hP hD hS dX4_isNumber_9 ⟨Nat.zero_le _, Nat.zero_le _⟩ ⟨e9.symm, rfl⟩
theorem z_X4_isNumber (v : Int32) : D_X4_isNumber v = 0 ∨ D_X4_isNumber v = 1 := z_X4_in _ _ _
theorem f4_isNumber {x : Int32} (h : ¬ D_X4_isNumber x = 0) : vp_in x 1000 := f4_in h (by decide)
def D_X4_isSlot  (v : Int32) : (Int32) := if v = 0 then 1 else (if v = 1 then 1 else 0)
set_option maxHeartbeats 4000000 in
set_option maxRecDepth 100000 in
theorem c_X4_isSlot (l : Launch) (D : va_G) (Y : YY) (sz : Nat) (v : Int32) : Met l yX4_isSlot wsX4_isSlot ({ frames := 0, cells := 0, slots := 0, locals := 0 } : Room) (va_Pc [.int v] (Pst D Y sz (([] : va_W)))) ((fun A : Nat → Prop => Qsi D (fun r9 w9 => r9 = D_X4_isSlot v ∧ w9 = ([] : va_W)) A) (va_A (([] : va_W)) sz)) 0 0 (va_A (([] : va_W)) sz) := by
  refine ct_in (cc := cX4_isSlot) (maxL := 1) (ret := (some .boolean)) (Qc := fun A : Nat → Prop => Qsi D (fun r9 w9 => r9 = D_X4_isSlot v ∧ w9 = ([] : va_W)) A) (by decide +kernel) rfl (Nat.le_of_ble_eq_true rfl) ?_
  intro p e s m below meth c A ls hx hb hr hts hown hml hlk hin hsz hA hP hD hK hS hl
  have hown : s.vm.findClass RX4 = some m.cls := hown
  have hl : lv_has ls 1 [(0, .int v)] := hl
  show W p l e ({ frames := 0, cells := 0, slots := 0, locals := 0 } : Room) s m ([.int v] : List Value).toArray below meth c s.heap [] 0 0 (MQ below (Qsi D (fun r9 w9 => r9 = D_X4_isSlot v ∧ w9 = ([] : va_W)) A) ([.int v] : List Value).toArray s 0 0 A) (F0 m 0 ls [])
  refine lv_iload_n hx hb dX4_isSlot_0 rfl (lv_at hl 0 rfl) ?_
  refine lv_if_eq (tgt := 9) hx hb dX4_isSlot_1 (by decide) (fun c_1 => ?_) (fun c_1 => ?_)
  · refine lv_iconst (v := 1) hx hb dX4_isSlot_9 (by decide) ?_
    refine lv_goto (tgt := 14) hx hb dX4_isSlot_10 (by decide) ?_
    have e9 : D_X4_isSlot v = 1 := by rw [D_X4_isSlot, if_pos c_1]
    exact ret_z hx hb hr rfl hlk hP hD hS dX4_isSlot_14 ⟨Nat.zero_le _, Nat.zero_le _⟩ ⟨e9.symm, rfl⟩
  · refine lv_iload_n hx hb dX4_isSlot_4 rfl (lv_at hl 0 rfl) ?_
    refine lv_iconst (v := 1) hx hb dX4_isSlot_5 (by decide) ?_
    refine lv_icmp_ne (tgt := 13) hx hb dX4_isSlot_6 (by decide) (fun c_2 => ?_) (fun c_2 => ?_)
    · refine lv_iconst (v := 0) hx hb dX4_isSlot_13 (by decide) ?_
      have e9 : D_X4_isSlot v = 0 := by rw [D_X4_isSlot, if_neg c_1, if_neg c_2]
      exact ret_z hx hb hr rfl hlk hP hD hS dX4_isSlot_14 ⟨Nat.zero_le _, Nat.zero_le _⟩ ⟨e9.symm, rfl⟩
    · refine lv_iconst (v := 1) hx hb dX4_isSlot_9 (by decide) ?_
      refine lv_goto (tgt := 14) hx hb dX4_isSlot_10 (by decide) ?_
      have e9 : D_X4_isSlot v = 1 := by rw [D_X4_isSlot, if_neg c_1, if_pos c_2]
      exact ret_z hx hb hr rfl hlk hP hD hS dX4_isSlot_14 ⟨Nat.zero_le _, Nat.zero_le _⟩ ⟨e9.symm, rfl⟩
theorem z_X4_isSlot  (v : Int32) : D_X4_isSlot v = 0 ∨ D_X4_isSlot v = 1 := by unfold D_X4_isSlot; (repeat' split) <;> simp
theorem f4_isSlot {x : Int32} (h : ¬ D_X4_isSlot x = 0) : vp_in x 2 := by
  unfold D_X4_isSlot at h
  split at h
  · rename_i e; rw [e]; unfold vp_in; decide
  · split at h
    · rename_i e; rw [e]; unfold vp_in; decide
    · exact absurd rfl h
def D_X4_isSetting  (g : Int32) (v : Int32) : (Int32) := if (D_X4_in g.toInt64 0 2) = 0 then 0 else (if g = 2 then (if (D_X4_in v.toInt64 (-9) 9) = 0 then 0 else 1) else (if (D_X4_in v.toInt64 0 9) = 0 then 0 else 1))
set_option maxHeartbeats 4000000 in
set_option maxRecDepth 100000 in
theorem c_X4_isSetting (l : Launch) (D : va_G) (Y : YY) (sz : Nat) (g : Int32) (v : Int32) : Met l yX4_isSetting wsX4_isSetting ({ frames := 1, cells := 0, slots := 0, locals := 25 } : Room) (va_Pc [.int g, .int v] (Pst D Y sz (([] : va_W)))) ((fun A : Nat → Prop => Qsi D (fun r9 w9 => r9 = D_X4_isSetting g v ∧ w9 = ([] : va_W)) A) (va_A (([] : va_W)) sz)) 0 0 (va_A (([] : va_W)) sz) := by
  refine ct_in (cc := cX4_isSetting) (maxL := 2) (ret := (some .boolean)) (Qc := fun A : Nat → Prop => Qsi D (fun r9 w9 => r9 = D_X4_isSetting g v ∧ w9 = ([] : va_W)) A) (by decide +kernel) rfl (Nat.le_of_ble_eq_true rfl) ?_
  intro p e s m below meth c A ls hx hb hr hts hown hml hlk hin hsz hA hP hD hK hS hl
  have hown : s.vm.findClass RX4 = some m.cls := hown
  have hl : lv_has ls 2 [(0, .int g), (1, .int v)] := hl
  show W p l e ({ frames := 1, cells := 0, slots := 0, locals := 25 } : Room) s m ([.int g, .int v] : List Value).toArray below meth c s.heap [] 0 0 (MQ below (Qsi D (fun r9 w9 => r9 = D_X4_isSetting g v ∧ w9 = ([] : va_W)) A) ([.int g, .int v] : List Value).toArray s 0 0 A) (F0 m 0 ls [])
  refine lv_iload_n hx hb dX4_isSetting_0 rfl (lv_at hl 0 rfl) ?_
  refine lv_i2l (v := g.toInt64) hx hb dX4_isSetting_1 rfl ?_
  refine lv_lconst (v := 0) hx hb dX4_isSetting_2 (by decide) ?_
  refine lv_ldc2 (v := 2) hx hb hown (hts (.constantLong RX4 82 (2)) (by decide +kernel)) dX4_isSetting_3 ?_
  refine ck_iD (wr := ([] : va_W)) (ws' := ([] : va_W)) (va_runS (As := [.long g.toInt64, .long 0, .long 2]) (rest := []) ⟨hx, hb, hml, hown, hts⟩ (c_X4_in l D Y s.heap.size g.toInt64 0 2) (va_cwS 3 hts gX4_isSetting_X4_in rfl rfl rfl (by decide +kernel) ⟨Nat.le_of_ble_eq_true rfl, Nat.le_of_ble_eq_true rfl⟩) (pst_S hK hP hD [] rfl (by decide)) rfl rfl hl.1 rfl (lv_room (Nat.le_of_ble_eq_true rfl)) dX4_isSetting_6 ⟨Nat.zero_le _, Nat.zero_le _⟩) hP hD hS hA [] [] [] rfl rfl (by decide) (by decide) rfl (by decide) (fun H locs hP hD hS => ?_)
  refine lv_if_eq (tgt := 39) hx hb dX4_isSetting_9 (by decide) (fun c_1 => ?_) (fun c_1 => ?_)
  · refine lv_iconst (v := 0) hx hb dX4_isSetting_39 (by decide) ?_
    have e9 : D_X4_isSetting g v = 0 := by rw [D_X4_isSetting, if_pos c_1]
    exact ret_z hx hb hr rfl hlk hP hD hS dX4_isSetting_40 ⟨Nat.zero_le _, Nat.zero_le _⟩ ⟨e9.symm, rfl⟩
  · refine lv_iload_n hx hb dX4_isSetting_12 rfl (lv_at hl 1 rfl) ?_
    refine lv_i2l (v := v.toInt64) hx hb dX4_isSetting_13 rfl ?_
    refine lv_iload_n hx hb dX4_isSetting_14 rfl (lv_at hl 0 rfl) ?_
    refine lv_iconst (v := 2) hx hb dX4_isSetting_15 (by decide) ?_
    refine lv_icmp_ne (tgt := 25) hx hb dX4_isSetting_16 (by decide) (fun c_2 => ?_) (fun c_2 => ?_)
    · refine lv_lconst (v := 0) hx hb dX4_isSetting_25 (by decide) ?_
      refine lv_ldc2 (v := 9) hx hb hown (hts (.constantLong RX4 86 (9)) (by decide +kernel)) dX4_isSetting_26 ?_
      refine ck_iD (wr := ([] : va_W)) (ws' := ([] : va_W)) (va_runS (As := [.long v.toInt64, .long 0, .long 9]) (rest := []) ⟨hx, hb, hml, hown, hts⟩ (c_X4_in l D Y H.size v.toInt64 0 9) (va_cwS 3 hts gX4_isSetting_X4_in rfl rfl rfl (by decide +kernel) ⟨Nat.le_of_ble_eq_true rfl, Nat.le_of_ble_eq_true rfl⟩) (pst_S hK hP hD [] rfl (by decide)) rfl rfl hl.1 rfl (lv_room (Nat.le_of_ble_eq_true rfl)) dX4_isSetting_29 ⟨Nat.zero_le _, Nat.zero_le _⟩) hP hD hS hA [] [] [] rfl rfl (by decide) (by decide) rfl (by decide) (fun H locs hP hD hS => ?_)
      refine lv_if_eq (tgt := 39) hx hb dX4_isSetting_32 (by decide) (fun c_3 => ?_) (fun c_3 => ?_)
      · refine lv_iconst (v := 0) hx hb dX4_isSetting_39 (by decide) ?_
        have e9 : D_X4_isSetting g v = 0 := by rw [D_X4_isSetting, if_neg c_1, if_neg c_2, if_pos c_3]
        exact ret_z hx hb hr rfl hlk hP hD hS dX4_isSetting_40 ⟨Nat.zero_le _, Nat.zero_le _⟩ ⟨e9.symm, rfl⟩
      · refine lv_iconst (v := 1) hx hb dX4_isSetting_35 (by decide) ?_
        refine lv_goto (tgt := 40) hx hb dX4_isSetting_36 (by decide) ?_
        have e9 : D_X4_isSetting g v = 1 := by rw [D_X4_isSetting, if_neg c_1, if_neg c_2, if_neg c_3]
        exact ret_z hx hb hr rfl hlk hP hD hS dX4_isSetting_40 ⟨Nat.zero_le _, Nat.zero_le _⟩ ⟨e9.symm, rfl⟩
    · refine lv_ldc2 (v := (-9)) hx hb hown (hts (.constantLong RX4 84 (-9)) (by decide +kernel)) dX4_isSetting_19 ?_
      refine lv_goto (tgt := 26) hx hb dX4_isSetting_22 (by decide) ?_
      refine lv_ldc2 (v := 9) hx hb hown (hts (.constantLong RX4 86 (9)) (by decide +kernel)) dX4_isSetting_26 ?_
      refine ck_iD (wr := ([] : va_W)) (ws' := ([] : va_W)) (va_runS (As := [.long v.toInt64, .long (-9), .long 9]) (rest := []) ⟨hx, hb, hml, hown, hts⟩ (c_X4_in l D Y H.size v.toInt64 (-9) 9) (va_cwS 3 hts gX4_isSetting_X4_in rfl rfl rfl (by decide +kernel) ⟨Nat.le_of_ble_eq_true rfl, Nat.le_of_ble_eq_true rfl⟩) (pst_S hK hP hD [] rfl (by decide)) rfl rfl hl.1 rfl (lv_room (Nat.le_of_ble_eq_true rfl)) dX4_isSetting_29 ⟨Nat.zero_le _, Nat.zero_le _⟩) hP hD hS hA [] [] [] rfl rfl (by decide) (by decide) rfl (by decide) (fun H locs hP hD hS => ?_)
      refine lv_if_eq (tgt := 39) hx hb dX4_isSetting_32 (by decide) (fun c_4 => ?_) (fun c_4 => ?_)
      · refine lv_iconst (v := 0) hx hb dX4_isSetting_39 (by decide) ?_
        have e9 : D_X4_isSetting g v = 0 := by rw [D_X4_isSetting, if_neg c_1, if_pos c_2, if_pos c_4]
        exact ret_z hx hb hr rfl hlk hP hD hS dX4_isSetting_40 ⟨Nat.zero_le _, Nat.zero_le _⟩ ⟨e9.symm, rfl⟩
      · refine lv_iconst (v := 1) hx hb dX4_isSetting_35 (by decide) ?_
        refine lv_goto (tgt := 40) hx hb dX4_isSetting_36 (by decide) ?_
        have e9 : D_X4_isSetting g v = 1 := by rw [D_X4_isSetting, if_neg c_1, if_pos c_2, if_neg c_4]
        exact ret_z hx hb hr rfl hlk hP hD hS dX4_isSetting_40 ⟨Nat.zero_le _, Nat.zero_le _⟩ ⟨e9.symm, rfl⟩
theorem z_X4_isSetting  (g : Int32) (v : Int32) : D_X4_isSetting g v = 0 ∨ D_X4_isSetting g v = 1 := by unfold D_X4_isSetting; (repeat' split) <;> simp
def D_X4_pairAt  (a : Int32) (b : Int32) : (Int32) := (9 * a) + b
set_option maxHeartbeats 4000000 in
set_option maxRecDepth 100000 in
theorem c_X4_pairAt (l : Launch) (D : va_G) (Y : YY) (sz : Nat) (a : Int32) (b : Int32) : Met l yX4_pairAt wsX4_pairAt ({ frames := 0, cells := 0, slots := 0, locals := 0 } : Room) (va_Pc [.int a, .int b] (Pst D Y sz (([] : va_W)))) ((fun A : Nat → Prop => Qsi D (fun r9 w9 => r9 = D_X4_pairAt a b ∧ w9 = ([] : va_W)) A) (va_A (([] : va_W)) sz)) 0 0 (va_A (([] : va_W)) sz) := by
  refine ct_in (cc := cX4_pairAt) (maxL := 2) (ret := (some .int)) (Qc := fun A : Nat → Prop => Qsi D (fun r9 w9 => r9 = D_X4_pairAt a b ∧ w9 = ([] : va_W)) A) (by decide +kernel) rfl (Nat.le_of_ble_eq_true rfl) ?_
  intro p e s m below meth c A ls hx hb hr hts hown hml hlk hin hsz hA hP hD hK hS hl
  have hown : s.vm.findClass RX4 = some m.cls := hown
  have hl : lv_has ls 2 [(0, .int a), (1, .int b)] := hl
  show W p l e ({ frames := 0, cells := 0, slots := 0, locals := 0 } : Room) s m ([.int a, .int b] : List Value).toArray below meth c s.heap [] 0 0 (MQ below (Qsi D (fun r9 w9 => r9 = D_X4_pairAt a b ∧ w9 = ([] : va_W)) A) ([.int a, .int b] : List Value).toArray s 0 0 A) (F0 m 0 ls [])
  refine lv_bipush (v := 9) hx hb dX4_pairAt_0 (by decide) ?_
  refine lv_iload_n hx hb dX4_pairAt_2 rfl (lv_at hl 0 rfl) ?_
  refine lv_imul hx hb dX4_pairAt_3 ?_
  refine lv_iload_n hx hb dX4_pairAt_4 rfl (lv_at hl 1 rfl) ?_
  refine lv_iadd hx hb dX4_pairAt_5 ?_
  have e9 : D_X4_pairAt a b = (9 * a) + b := by rw [D_X4_pairAt]
  exact ret_i hx hb hr hlk hP hD hS dX4_pairAt_6 ⟨Nat.zero_le _, Nat.zero_le _⟩ ⟨e9.symm, rfl⟩
theorem in_pairAt {a b : Int32} (ha : vp_in a 9) (hb : vp_in b 9) : vp_in (D_X4_pairAt a b) 81 := my_add (n := 73) (k := 9) (my_mul 9 ha (by decide) (by decide)) hb (by decide) (by decide)
def D_X4_partnerBy  (v : Int32) (n : Int32) : (Int32) := (((n - n / 9 * 9) + 9) - v) - (((n - n / 9 * 9) + 9) - v) / 9 * 9
set_option maxHeartbeats 4000000 in
set_option maxRecDepth 100000 in
theorem c_X4_partnerBy (l : Launch) (D : va_G) (Y : YY) (sz : Nat) (v : Int32) (n : Int32) : Met l yX4_partnerBy wsX4_partnerBy ({ frames := 0, cells := 0, slots := 0, locals := 0 } : Room) (va_Pc [.int v, .int n] (Pst D Y sz (([] : va_W)))) ((fun A : Nat → Prop => Qsi D (fun r9 w9 => r9 = D_X4_partnerBy v n ∧ w9 = ([] : va_W)) A) (va_A (([] : va_W)) sz)) 0 0 (va_A (([] : va_W)) sz) := by
  refine ct_in (cc := cX4_partnerBy) (maxL := 2) (ret := (some .int)) (Qc := fun A : Nat → Prop => Qsi D (fun r9 w9 => r9 = D_X4_partnerBy v n ∧ w9 = ([] : va_W)) A) (by decide +kernel) rfl (Nat.le_of_ble_eq_true rfl) ?_
  intro p e s m below meth c A ls hx hb hr hts hown hml hlk hin hsz hA hP hD hK hS hl
  have hown : s.vm.findClass RX4 = some m.cls := hown
  have hl : lv_has ls 2 [(0, .int v), (1, .int n)] := hl
  show W p l e ({ frames := 0, cells := 0, slots := 0, locals := 0 } : Room) s m ([.int v, .int n] : List Value).toArray below meth c s.heap [] 0 0 (MQ below (Qsi D (fun r9 w9 => r9 = D_X4_partnerBy v n ∧ w9 = ([] : va_W)) A) ([.int v, .int n] : List Value).toArray s 0 0 A) (F0 m 0 ls [])
  refine lv_iload_n hx hb dX4_partnerBy_0 rfl (lv_at hl 1 rfl) ?_
  refine lv_bipush (v := 9) hx hb dX4_partnerBy_1 (by decide) ?_
  refine lv_irem hx hb dX4_partnerBy_3 (by decide) ?_
  refine lv_bipush (v := 9) hx hb dX4_partnerBy_4 (by decide) ?_
  refine lv_iadd hx hb dX4_partnerBy_6 ?_
  refine lv_iload_n hx hb dX4_partnerBy_7 rfl (lv_at hl 0 rfl) ?_
  refine lv_isub hx hb dX4_partnerBy_8 ?_
  refine lv_bipush (v := 9) hx hb dX4_partnerBy_9 (by decide) ?_
  refine lv_irem hx hb dX4_partnerBy_11 (by decide) ?_
  have e9 : D_X4_partnerBy v n = (((n - n / 9 * 9) + 9) - v) - (((n - n / 9 * 9) + 9) - v) / 9 * 9 := by rw [D_X4_partnerBy]
  exact ret_i hx hb hr hlk hP hD hS dX4_partnerBy_12 ⟨Nat.zero_le _, Nat.zero_le _⟩ ⟨e9.symm, rfl⟩
theorem in_partnerBy {v n : Int32} (hv : vp_in v 9) (hn : vp_in n 1000) : vp_in (D_X4_partnerBy v n) 9 := by
  obtain ⟨i, hi, e1⟩ := vp_in_of (my_rem hn (by decide)) (by decide)
  obtain ⟨j, hj, rfl⟩ := vp_in_of hv (by decide)
  unfold D_X4_partnerBy
  rw [e1, show (9 : Int32) = nI 9 from rfl, nI_add, pk_sub (by omega)]
  exact my_rem (n := 18) (vp_in_nI (by omega) (by decide)) (by decide)
def D_X4_isThere (M : Nat → Nat → Int32) (v : Int32) : (Int32) := if (M 0 (15 + v).toNatClampNeg) = 1 then 1 else 0
set_option maxRecDepth 100000 in
theorem in_X4_isThere_RX4 : ∀ w ∈ u_ws RX4 TX4 13, w ∈ wsX4_isThere := by decide +kernel
set_option maxHeartbeats 4000000 in
set_option maxRecDepth 100000 in
theorem c_X4_isThere (l : Launch) (D : va_G) (Y : YY) (sz : Nat) (q : Nat → Nat) (M : Nat → Nat → Int32) (mo : Nat) (v : Int32) (h_v : vp_in v 9) : Met l yX4_isThere wsX4_isThere ({ frames := 0, cells := 0, slots := 0, locals := 0 } : Room) (va_Pc [.ref mo, .int v] (Pst D Y sz (wM Y mo q M))) ((fun A : Nat → Prop => Qsi D (fun r9 w9 => r9 = D_X4_isThere M v ∧ w9 = wM Y mo q M) A) (va_A (wM Y mo q M) sz)) 0 0 (va_A (wM Y mo q M) sz) := by
  refine ct_in (cc := cX4_isThere) (maxL := 2) (ret := (some .boolean)) (Qc := fun A : Nat → Prop => Qsi D (fun r9 w9 => r9 = D_X4_isThere M v ∧ w9 = wM Y mo q M) A) (by decide +kernel) rfl (Nat.le_of_ble_eq_true rfl) ?_
  intro p e s m below meth c A ls hx hb hr hts hown hml hlk hin hsz hA hP hD hK hS hl
  have hown : s.vm.findClass RX4 = some m.cls := hown
  have hl : lv_has ls 2 [(0, .ref mo), (1, .int v)] := hl
  show W p l e ({ frames := 0, cells := 0, slots := 0, locals := 0 } : Room) s m ([.ref mo, .int v] : List Value).toArray below meth c s.heap [] 0 0 (MQ below (Qsi D (fun r9 w9 => r9 = D_X4_isThere M v ∧ w9 = wM Y mo q M) A) ([.ref mo, .int v] : List Value).toArray s 0 0 A) (F0 m 0 ls [])
  refine lv_aload_n hx hb dX4_isThere_0 rfl (lv_at hl 0 rfl) ?_
  refine va_get (D := D) (ci := 4) (v := .ref (q 0)) (C := RX4) (T := TX4) (N := 13) hx hb hts in_X4_isThere_RX4 hown hK.1 hP 0 rfl rfl 0 (by decide) (hts (.fieldLink RX4 7 "NineDancersModel" "all" "[I") (by decide +kernel)) (fun _ h9 => h9) rfl dX4_isThere_1 ?_
  refine lv_bipush (v := 15) hx hb dX4_isThere_4 (by decide) ?_
  refine lv_iload_n hx hb dX4_isThere_6 rfl (lv_at hl 1 rfl) ?_
  refine lv_iadd hx hb dX4_isThere_7 ?_
  refine va_iald (D := D) hx hb hK.1 hP 1 0 rfl rfl (my_wid (my_off 15 h_v (Nat.le_refl _) (by decide)) (by decide) (by decide)) dX4_isThere_8 ?_
  refine lv_iconst (v := 1) hx hb dX4_isThere_9 (by decide) ?_
  refine lv_icmp_ne (tgt := 17) hx hb dX4_isThere_10 (by decide) (fun c_1 => ?_) (fun c_1 => ?_)
  · refine lv_iconst (v := 0) hx hb dX4_isThere_17 (by decide) ?_
    have e9 : D_X4_isThere M v = 0 := by rw [D_X4_isThere, if_neg c_1]
    exact ret_z hx hb hr rfl hlk hP hD hS dX4_isThere_18 ⟨Nat.zero_le _, Nat.zero_le _⟩ ⟨e9.symm, rfl⟩
  · refine lv_iconst (v := 1) hx hb dX4_isThere_13 (by decide) ?_
    refine lv_goto (tgt := 18) hx hb dX4_isThere_14 (by decide) ?_
    have e9 : D_X4_isThere M v = 1 := by rw [D_X4_isThere, if_pos c_1]
    exact ret_z hx hb hr rfl hlk hP hD hS dX4_isThere_18 ⟨Nat.zero_le _, Nat.zero_le _⟩ ⟨e9.symm, rfl⟩
theorem z_X4_isThere (M : Nat → Nat → Int32) (v : Int32) : D_X4_isThere M v = 0 ∨ D_X4_isThere M v = 1 := by unfold D_X4_isThere; (repeat' split) <;> simp
def D_X4_canDance (M : Nat → Nat → Int32) (v : Int32) : (Int32) := if (D_X4_isThere M v) = 0 then 0 else (if (M 0 (24 + v).toNatClampNeg) < (M 0 (0 : Int32).toNatClampNeg) then 0 else 1)
set_option maxRecDepth 100000 in
theorem in_X4_canDance_RX4 : ∀ w ∈ u_ws RX4 TX4 13, w ∈ wsX4_canDance := by decide +kernel
set_option maxHeartbeats 4000000 in
set_option maxRecDepth 100000 in
theorem c_X4_canDance (l : Launch) (D : va_G) (Y : YY) (sz : Nat) (q : Nat → Nat) (M : Nat → Nat → Int32) (mo : Nat) (v : Int32) (h_v : vp_in v 9) : Met l yX4_canDance wsX4_canDance ({ frames := 1, cells := 0, slots := 0, locals := 21 } : Room) (va_Pc [.ref mo, .int v] (Pst D Y sz (wM Y mo q M))) ((fun A : Nat → Prop => Qsi D (fun r9 w9 => r9 = D_X4_canDance M v ∧ w9 = wM Y mo q M) A) (va_A (wM Y mo q M) sz)) 0 0 (va_A (wM Y mo q M) sz) := by
  refine ct_in (cc := cX4_canDance) (maxL := 2) (ret := (some .boolean)) (Qc := fun A : Nat → Prop => Qsi D (fun r9 w9 => r9 = D_X4_canDance M v ∧ w9 = wM Y mo q M) A) (by decide +kernel) rfl (Nat.le_of_ble_eq_true rfl) ?_
  intro p e s m below meth c A ls hx hb hr hts hown hml hlk hin hsz hA hP hD hK hS hl
  have hown : s.vm.findClass RX4 = some m.cls := hown
  have hl : lv_has ls 2 [(0, .ref mo), (1, .int v)] := hl
  show W p l e ({ frames := 1, cells := 0, slots := 0, locals := 21 } : Room) s m ([.ref mo, .int v] : List Value).toArray below meth c s.heap [] 0 0 (MQ below (Qsi D (fun r9 w9 => r9 = D_X4_canDance M v ∧ w9 = wM Y mo q M) A) ([.ref mo, .int v] : List Value).toArray s 0 0 A) (F0 m 0 ls [])
  refine lv_aload_n hx hb dX4_canDance_0 rfl (lv_at hl 0 rfl) ?_
  refine lv_iload_n hx hb dX4_canDance_1 rfl (lv_at hl 1 rfl) ?_
  refine ck_iD (wr := ([] : va_W)) (ws' := wM Y mo q M) (va_runV (As := [.int v]) (rest := []) ⟨hx, hb, hml, hown, hts⟩ (c_X4_isThere l D Y s.heap.size q M mo v h_v) (cwV 1 hts gX4_canDance_X4_isThere rfl rfl rfl (by decide +kernel) ⟨Nat.le_of_ble_eq_true rfl, Nat.le_of_ble_eq_true rfl⟩) (pst_V hK hP hD [0, 1, 2, 3, 4, 5, 6, 7, 8, 9] rfl (by decide) (q0 := 0) rfl rfl) rfl rfl hl.1 rfl (lv_room (Nat.le_of_ble_eq_true rfl)) dX4_canDance_2 ⟨Nat.zero_le _, Nat.zero_le _⟩) hP hD hS hA [0, 1, 2, 3, 4, 5, 6, 7, 8, 9] [] [0, 1, 2, 3, 4, 5, 6, 7, 8, 9] rfl rfl (by decide) (by decide) rfl (by decide) (fun H locs hP hD hS => ?_)
  refine lv_if_eq (tgt := 30) hx hb dX4_canDance_5 (by decide) (fun c_1 => ?_) (fun c_1 => ?_)
  · refine lv_iconst (v := 0) hx hb dX4_canDance_30 (by decide) ?_
    have e9 : D_X4_canDance M v = 0 := by rw [D_X4_canDance, if_pos c_1]
    exact ret_z hx hb hr rfl hlk hP hD hS dX4_canDance_31 ⟨Nat.zero_le _, Nat.zero_le _⟩ ⟨e9.symm, rfl⟩
  · refine lv_aload_n hx hb dX4_canDance_8 rfl (lv_at hl 0 rfl) ?_
    refine va_get (D := D) (ci := 4) (v := .ref (q 0)) (C := RX4) (T := TX4) (N := 13) hx hb hts in_X4_canDance_RX4 hown hK.1 hP 0 rfl rfl 0 (by decide) (hts (.fieldLink RX4 7 "NineDancersModel" "all" "[I") (by decide +kernel)) (fun _ h9 => h9) rfl dX4_canDance_9 ?_
    refine lv_bipush (v := 24) hx hb dX4_canDance_12 (by decide) ?_
    refine lv_iload_n hx hb dX4_canDance_14 rfl (lv_at hl 1 rfl) ?_
    refine lv_iadd hx hb dX4_canDance_15 ?_
    refine va_iald (D := D) hx hb hK.1 hP 1 0 rfl rfl (my_wid (my_off 24 h_v (Nat.le_refl _) (by decide)) (by decide) (by decide)) dX4_canDance_16 ?_
    refine lv_aload_n hx hb dX4_canDance_17 rfl (lv_at hl 0 rfl) ?_
    refine va_get (D := D) (ci := 4) (v := .ref (q 0)) (C := RX4) (T := TX4) (N := 13) hx hb hts in_X4_canDance_RX4 hown hK.1 hP 0 rfl rfl 0 (by decide) (hts (.fieldLink RX4 7 "NineDancersModel" "all" "[I") (by decide +kernel)) (fun _ h9 => h9) rfl dX4_canDance_18 ?_
    refine lv_iconst (v := 0) hx hb dX4_canDance_21 (by decide) ?_
    refine va_iald (D := D) hx hb hK.1 hP 1 0 rfl rfl (by unfold vp_in; decide) dX4_canDance_22 ?_
    refine lv_icmp_lt (tgt := 30) hx hb dX4_canDance_23 (by decide) (fun c_2 => ?_) (fun c_2 => ?_)
    · refine lv_iconst (v := 0) hx hb dX4_canDance_30 (by decide) ?_
      have e9 : D_X4_canDance M v = 0 := by rw [D_X4_canDance, if_neg c_1, if_pos c_2]
      exact ret_z hx hb hr rfl hlk hP hD hS dX4_canDance_31 ⟨Nat.zero_le _, Nat.zero_le _⟩ ⟨e9.symm, rfl⟩
    · refine lv_iconst (v := 1) hx hb dX4_canDance_26 (by decide) ?_
      refine lv_goto (tgt := 31) hx hb dX4_canDance_27 (by decide) ?_
      have e9 : D_X4_canDance M v = 1 := by rw [D_X4_canDance, if_neg c_1, if_neg c_2]
      exact ret_z hx hb hr rfl hlk hP hD hS dX4_canDance_31 ⟨Nat.zero_le _, Nat.zero_le _⟩ ⟨e9.symm, rfl⟩
theorem z_X4_canDance (M : Nat → Nat → Int32) (v : Int32) : D_X4_canDance M v = 0 ∨ D_X4_canDance M v = 1 := by unfold D_X4_canDance; (repeat' split) <;> simp
def D_X4_dances (M : Nat → Nat → Int32) (v : Int32) (n : Int32) : (Int32) := if (D_X4_partnerBy v n) = v then 0 else (if (D_X4_canDance M v) = 0 then 0 else (if (D_X4_canDance M (D_X4_partnerBy v n)) = 0 then 0 else 1))
set_option maxHeartbeats 4000000 in
set_option maxRecDepth 100000 in
theorem c_X4_dances (l : Launch) (D : va_G) (Y : YY) (sz : Nat) (q : Nat → Nat) (M : Nat → Nat → Int32) (mo : Nat) (v : Int32) (n : Int32) (h_v : vp_in v 9) (h_n : vp_in n 1000) : Met l yX4_dances wsX4_dances ({ frames := 2, cells := 0, slots := 0, locals := 42 } : Room) (va_Pc [.ref mo, .int v, .int n] (Pst D Y sz (wM Y mo q M))) ((fun A : Nat → Prop => Qsi D (fun r9 w9 => r9 = D_X4_dances M v n ∧ w9 = wM Y mo q M) A) (va_A (wM Y mo q M) sz)) 0 0 (va_A (wM Y mo q M) sz) := by
  refine ct_in (cc := cX4_dances) (maxL := 4) (ret := (some .boolean)) (Qc := fun A : Nat → Prop => Qsi D (fun r9 w9 => r9 = D_X4_dances M v n ∧ w9 = wM Y mo q M) A) (by decide +kernel) rfl (Nat.le_of_ble_eq_true rfl) ?_
  intro p e s m below meth c A ls hx hb hr hts hown hml hlk hin hsz hA hP hD hK hS hl
  have hown : s.vm.findClass RX4 = some m.cls := hown
  have hl : lv_has ls 4 [(0, .ref mo), (1, .int v), (2, .int n)] := hl
  show W p l e ({ frames := 2, cells := 0, slots := 0, locals := 42 } : Room) s m ([.ref mo, .int v, .int n] : List Value).toArray below meth c s.heap [] 0 0 (MQ below (Qsi D (fun r9 w9 => r9 = D_X4_dances M v n ∧ w9 = wM Y mo q M) A) ([.ref mo, .int v, .int n] : List Value).toArray s 0 0 A) (F0 m 0 ls [])
  refine lv_iload_n hx hb dX4_dances_0 rfl (lv_at hl 1 rfl) ?_
  refine lv_iload_n hx hb dX4_dances_1 rfl (lv_at hl 2 rfl) ?_
  refine ck_iD (wr := wM Y mo q M) (ws' := wM Y mo q M) (va_runS (As := [.int v, .int n]) (rest := []) ⟨hx, hb, hml, hown, hts⟩ (c_X4_partnerBy l D Y s.heap.size v n) (va_cwS 2 hts gX4_dances_X4_partnerBy rfl rfl rfl (by decide +kernel) ⟨Nat.le_of_ble_eq_true rfl, Nat.le_of_ble_eq_true rfl⟩) (pst_S hK hP hD [] rfl (by decide)) rfl rfl hl.1 rfl (lv_room (Nat.le_of_ble_eq_true rfl)) dX4_dances_2 ⟨Nat.zero_le _, Nat.zero_le _⟩) hP hD hS hA [] [0, 1, 2, 3, 4, 5, 6, 7, 8, 9] [0, 1, 2, 3, 4, 5, 6, 7, 8, 9] rfl rfl (by decide) (by decide) rfl (by decide) (fun H locs hP hD hS => ?_)
  refine lv_istore_n (lv' := [(3, .int (D_X4_partnerBy v n)), (0, .ref mo), (1, .int v), (2, .int n)]) hx hb dX4_dances_5 rfl hl (by decide) rfl (fun ls hl => ?_)
  refine lv_iload_n hx hb dX4_dances_6 rfl (lv_at hl 0 rfl) ?_
  refine lv_iload_n hx hb dX4_dances_7 rfl (lv_at hl 2 rfl) ?_
  refine lv_icmp_eq (tgt := 31) hx hb dX4_dances_8 (by decide) (fun c_1 => ?_) (fun c_1 => ?_)
  · refine lv_iconst (v := 0) hx hb dX4_dances_31 (by decide) ?_
    have e9 : D_X4_dances M v n = 0 := by rw [D_X4_dances, if_pos c_1]
    exact ret_z hx hb hr rfl hlk hP hD hS dX4_dances_32 ⟨Nat.zero_le _, Nat.zero_le _⟩ ⟨e9.symm, rfl⟩
  · refine lv_aload_n hx hb dX4_dances_11 rfl (lv_at hl 1 rfl) ?_
    refine lv_iload_n hx hb dX4_dances_12 rfl (lv_at hl 2 rfl) ?_
    refine ck_iD (wr := ([] : va_W)) (ws' := wM Y mo q M) (va_runV (As := [.int v]) (rest := []) ⟨hx, hb, hml, hown, hts⟩ (c_X4_canDance l D Y H.size q M mo v h_v) (cwV 1 hts gX4_dances_X4_canDance rfl rfl rfl (by decide +kernel) ⟨Nat.le_of_ble_eq_true rfl, Nat.le_of_ble_eq_true rfl⟩) (pst_V hK hP hD [0, 1, 2, 3, 4, 5, 6, 7, 8, 9] rfl (by decide) (q0 := 0) rfl rfl) rfl rfl hl.1 rfl (lv_room (Nat.le_of_ble_eq_true rfl)) dX4_dances_13 ⟨Nat.zero_le _, Nat.zero_le _⟩) hP hD hS hA [0, 1, 2, 3, 4, 5, 6, 7, 8, 9] [] [0, 1, 2, 3, 4, 5, 6, 7, 8, 9] rfl rfl (by decide) (by decide) rfl (by decide) (fun H locs hP hD hS => ?_)
    refine lv_if_eq (tgt := 31) hx hb dX4_dances_16 (by decide) (fun c_2 => ?_) (fun c_2 => ?_)
    · refine lv_iconst (v := 0) hx hb dX4_dances_31 (by decide) ?_
      have e9 : D_X4_dances M v n = 0 := by rw [D_X4_dances, if_neg c_1, if_pos c_2]
      exact ret_z hx hb hr rfl hlk hP hD hS dX4_dances_32 ⟨Nat.zero_le _, Nat.zero_le _⟩ ⟨e9.symm, rfl⟩
    · refine lv_aload_n hx hb dX4_dances_19 rfl (lv_at hl 1 rfl) ?_
      refine lv_iload_n hx hb dX4_dances_20 rfl (lv_at hl 0 rfl) ?_
      refine ck_iD (wr := ([] : va_W)) (ws' := wM Y mo q M) (va_runV (As := [.int (D_X4_partnerBy v n)]) (rest := []) ⟨hx, hb, hml, hown, hts⟩ (c_X4_canDance l D Y H.size q M mo (D_X4_partnerBy v n) (in_partnerBy h_v h_n)) (cwV 1 hts gX4_dances_X4_canDance rfl rfl rfl (by decide +kernel) ⟨Nat.le_of_ble_eq_true rfl, Nat.le_of_ble_eq_true rfl⟩) (pst_V hK hP hD [0, 1, 2, 3, 4, 5, 6, 7, 8, 9] rfl (by decide) (q0 := 0) rfl rfl) rfl rfl hl.1 rfl (lv_room (Nat.le_of_ble_eq_true rfl)) dX4_dances_21 ⟨Nat.zero_le _, Nat.zero_le _⟩) hP hD hS hA [0, 1, 2, 3, 4, 5, 6, 7, 8, 9] [] [0, 1, 2, 3, 4, 5, 6, 7, 8, 9] rfl rfl (by decide) (by decide) rfl (by decide) (fun H locs hP hD hS => ?_)
      refine lv_if_eq (tgt := 31) hx hb dX4_dances_24 (by decide) (fun c_3 => ?_) (fun c_3 => ?_)
      · refine lv_iconst (v := 0) hx hb dX4_dances_31 (by decide) ?_
        have e9 : D_X4_dances M v n = 0 := by rw [D_X4_dances, if_neg c_1, if_neg c_2, if_pos c_3]
        exact ret_z hx hb hr rfl hlk hP hD hS dX4_dances_32 ⟨Nat.zero_le _, Nat.zero_le _⟩ ⟨e9.symm, rfl⟩
      · refine lv_iconst (v := 1) hx hb dX4_dances_27 (by decide) ?_
        refine lv_goto (tgt := 32) hx hb dX4_dances_28 (by decide) ?_
        have e9 : D_X4_dances M v n = 1 := by rw [D_X4_dances, if_neg c_1, if_neg c_2, if_neg c_3]
        exact ret_z hx hb hr rfl hlk hP hD hS dX4_dances_32 ⟨Nat.zero_le _, Nat.zero_le _⟩ ⟨e9.symm, rfl⟩
theorem z_X4_dances (M : Nat → Nat → Int32) (v : Int32) (n : Int32) : D_X4_dances M v n = 0 ∨ D_X4_dances M v n = 1 := by unfold D_X4_dances; (repeat' split) <;> simp
def D_X4_joyOf (M : Nat → Nat → Int32) (v : Int32) (w : Int32) : (Int32) := (M 0 (2 : Int32).toNatClampNeg) + (M 0 (69 + (D_X4_pairAt v w)).toNatClampNeg)
set_option maxRecDepth 100000 in
theorem in_X4_joyOf_RX4 : ∀ w ∈ u_ws RX4 TX4 13, w ∈ wsX4_joyOf := by decide +kernel
set_option maxHeartbeats 4000000 in
set_option maxRecDepth 100000 in
theorem c_X4_joyOf (l : Launch) (D : va_G) (Y : YY) (sz : Nat) (q : Nat → Nat) (M : Nat → Nat → Int32) (mo : Nat) (v : Int32) (w : Int32) (h_v : vp_in v 9) (h_w : vp_in w 9) : Met l yX4_joyOf wsX4_joyOf ({ frames := 1, cells := 0, slots := 0, locals := 21 } : Room) (va_Pc [.ref mo, .int v, .int w] (Pst D Y sz (wM Y mo q M))) ((fun A : Nat → Prop => Qsi D (fun r9 w9 => r9 = D_X4_joyOf M v w ∧ w9 = wM Y mo q M) A) (va_A (wM Y mo q M) sz)) 0 0 (va_A (wM Y mo q M) sz) := by
  refine ct_in (cc := cX4_joyOf) (maxL := 3) (ret := (some .int)) (Qc := fun A : Nat → Prop => Qsi D (fun r9 w9 => r9 = D_X4_joyOf M v w ∧ w9 = wM Y mo q M) A) (by decide +kernel) rfl (Nat.le_of_ble_eq_true rfl) ?_
  intro p e s m below meth c A ls hx hb hr hts hown hml hlk hin hsz hA hP hD hK hS hl
  have hown : s.vm.findClass RX4 = some m.cls := hown
  have hl : lv_has ls 3 [(0, .ref mo), (1, .int v), (2, .int w)] := hl
  show W p l e ({ frames := 1, cells := 0, slots := 0, locals := 21 } : Room) s m ([.ref mo, .int v, .int w] : List Value).toArray below meth c s.heap [] 0 0 (MQ below (Qsi D (fun r9 w9 => r9 = D_X4_joyOf M v w ∧ w9 = wM Y mo q M) A) ([.ref mo, .int v, .int w] : List Value).toArray s 0 0 A) (F0 m 0 ls [])
  refine lv_aload_n hx hb dX4_joyOf_0 rfl (lv_at hl 0 rfl) ?_
  refine va_get (D := D) (ci := 4) (v := .ref (q 0)) (C := RX4) (T := TX4) (N := 13) hx hb hts in_X4_joyOf_RX4 hown hK.1 hP 0 rfl rfl 0 (by decide) (hts (.fieldLink RX4 7 "NineDancersModel" "all" "[I") (by decide +kernel)) (fun _ h9 => h9) rfl dX4_joyOf_1 ?_
  refine lv_iconst (v := 2) hx hb dX4_joyOf_4 (by decide) ?_
  refine va_iald (D := D) hx hb hK.1 hP 1 0 rfl rfl (by unfold vp_in; decide) dX4_joyOf_5 ?_
  refine lv_aload_n hx hb dX4_joyOf_6 rfl (lv_at hl 0 rfl) ?_
  refine va_get (D := D) (ci := 4) (v := .ref (q 0)) (C := RX4) (T := TX4) (N := 13) hx hb hts in_X4_joyOf_RX4 hown hK.1 hP 0 rfl rfl 0 (by decide) (hts (.fieldLink RX4 7 "NineDancersModel" "all" "[I") (by decide +kernel)) (fun _ h9 => h9) rfl dX4_joyOf_7 ?_
  refine lv_bipush (v := 69) hx hb dX4_joyOf_10 (by decide) ?_
  refine lv_iload_n hx hb dX4_joyOf_12 rfl (lv_at hl 1 rfl) ?_
  refine lv_iload_n hx hb dX4_joyOf_13 rfl (lv_at hl 2 rfl) ?_
  refine ck_iD (wr := wM Y mo q M) (ws' := wM Y mo q M) (va_runS (As := [.int v, .int w]) (rest := [.int 69, .ref (q 0), .int (M 0 (2 : Int32).toNatClampNeg)]) ⟨hx, hb, hml, hown, hts⟩ (c_X4_pairAt l D Y s.heap.size v w) (va_cwS 2 hts gX4_joyOf_X4_pairAt rfl rfl rfl (by decide +kernel) ⟨Nat.le_of_ble_eq_true rfl, Nat.le_of_ble_eq_true rfl⟩) (pst_S hK hP hD [] rfl (by decide)) rfl rfl hl.1 rfl (lv_room (Nat.le_of_ble_eq_true rfl)) dX4_joyOf_14 ⟨Nat.zero_le _, Nat.zero_le _⟩) hP hD hS hA [] [0, 1, 2, 3, 4, 5, 6, 7, 8, 9] [0, 1, 2, 3, 4, 5, 6, 7, 8, 9] rfl rfl (by decide) (by decide) rfl (by decide) (fun H locs hP hD hS => ?_)
  refine lv_iadd hx hb dX4_joyOf_17 ?_
  refine va_iald (D := D) hx hb hK.1 hP 1 0 rfl rfl (my_wid (my_off 69 (in_pairAt h_v h_w) (Nat.le_refl _) (by decide)) (by decide) (by decide)) dX4_joyOf_18 ?_
  refine lv_iadd hx hb dX4_joyOf_19 ?_
  have e9 : D_X4_joyOf M v w = (M 0 (2 : Int32).toNatClampNeg) + (M 0 (69 + (D_X4_pairAt v w)).toNatClampNeg) := by rw [D_X4_joyOf]
  exact ret_i hx hb hr hlk hP hD hS dX4_joyOf_20 ⟨Nat.zero_le _, Nat.zero_le _⟩ ⟨e9.symm, rfl⟩
def T_X4_danced_1 (M : Nat → Nat → Int32) (v : Int32) (w : Int32) : Nat → Nat → Int32 := s2 M 0 (33 + v).toNatClampNeg ((M 0 (33 + v).toNatClampNeg) + (D_X4_joyOf M v w))
def T_X4_danced_2 (v : Int32) (S_1 : Nat → Nat → Int32) : Nat → Nat → Int32 := s2 S_1 0 (24 + v).toNatClampNeg ((S_1 0 (24 + v).toNatClampNeg) - (S_1 0 (0 : Int32).toNatClampNeg))
def T_X4_danced_3 (v : Int32) (S_2 : Nat → Nat → Int32) : Nat → Nat → Int32 := s2 S_2 0 (42 + v).toNatClampNeg ((S_2 0 (42 + v).toNatClampNeg) + 1)
def T_X4_danced_4 (v : Int32) (w : Int32) (S_3 : Nat → Nat → Int32) : Nat → Nat → Int32 := s2 S_3 0 (150 + (D_X4_pairAt v w)).toNatClampNeg ((S_3 0 (150 + (D_X4_pairAt v w)).toNatClampNeg) + 1)
def T_X4_danced_5 (v : Int32) (w : Int32) (S_4 : Nat → Nat → Int32) : Nat → Nat → Int32 := s2 S_4 0 (231 + (D_X4_pairAt v w)).toNatClampNeg (S_4 0 (3 : Int32).toNatClampNeg)
def D_X4_danced (M : Nat → Nat → Int32) (v : Int32) (w : Int32) : (Nat → Nat → Int32) := (T_X4_danced_5 v w (T_X4_danced_4 v w (T_X4_danced_3 v (T_X4_danced_2 v (T_X4_danced_1 M v w)))))
set_option maxRecDepth 100000 in
theorem in_X4_danced_RX4 : ∀ w ∈ u_ws RX4 TX4 13, w ∈ wsX4_danced := by decide +kernel
set_option maxHeartbeats 4000000 in
set_option maxRecDepth 100000 in
theorem c_X4_danced (l : Launch) (D : va_G) (Y : YY) (sz : Nat) (q : Nat → Nat) (M : Nat → Nat → Int32) (mo : Nat) (v : Int32) (w : Int32) (h_v : vp_in v 9) (h_w : vp_in w 9) : Met l yX4_danced wsX4_danced ({ frames := 2, cells := 0, slots := 0, locals := 43 } : Room) (va_Pc [.ref mo, .int v, .int w] (Pst D Y sz (wM Y mo q M))) ((fun A : Nat → Prop => Qsv D (fun w9 => w9 = wM Y mo q (D_X4_danced M v w)) A) (va_A (wM Y mo q M) sz)) 0 0 (va_A (wM Y mo q M) sz) := by
  refine ct_in (cc := cX4_danced) (maxL := 3) (ret := none) (Qc := fun A : Nat → Prop => Qsv D (fun w9 => w9 = wM Y mo q (D_X4_danced M v w)) A) (by decide +kernel) rfl (Nat.le_of_ble_eq_true rfl) ?_
  intro p e s m below meth c A ls hx hb hr hts hown hml hlk hin hsz hA hP hD hK hS hl
  have hown : s.vm.findClass RX4 = some m.cls := hown
  have hl : lv_has ls 3 [(0, .ref mo), (1, .int v), (2, .int w)] := hl
  show W p l e ({ frames := 2, cells := 0, slots := 0, locals := 43 } : Room) s m ([.ref mo, .int v, .int w] : List Value).toArray below meth c s.heap [] 0 0 (MQ below (Qsv D (fun w9 => w9 = wM Y mo q (D_X4_danced M v w)) A) ([.ref mo, .int v, .int w] : List Value).toArray s 0 0 A) (F0 m 0 ls [])
  refine lv_aload_n hx hb dX4_danced_0 rfl (lv_at hl 0 rfl) ?_
  refine va_get (D := D) (ci := 4) (v := .ref (q 0)) (C := RX4) (T := TX4) (N := 13) hx hb hts in_X4_danced_RX4 hown hK.1 hP 0 rfl rfl 0 (by decide) (hts (.fieldLink RX4 7 "NineDancersModel" "all" "[I") (by decide +kernel)) (fun _ h9 => h9) rfl dX4_danced_1 ?_
  refine lv_bipush (v := 33) hx hb dX4_danced_4 (by decide) ?_
  refine lv_iload_n hx hb dX4_danced_6 rfl (lv_at hl 1 rfl) ?_
  refine lv_iadd hx hb dX4_danced_7 ?_
  refine lv_dup2_11 hx hb dX4_danced_8 rfl rfl ?_
  refine va_iald (D := D) hx hb hK.1 hP 1 0 rfl rfl (my_wid (my_off 33 h_v (Nat.le_refl _) (by decide)) (by decide) (by decide)) dX4_danced_9 ?_
  refine lv_aload_n hx hb dX4_danced_10 rfl (lv_at hl 0 rfl) ?_
  refine lv_iload_n hx hb dX4_danced_11 rfl (lv_at hl 1 rfl) ?_
  refine lv_iload_n hx hb dX4_danced_12 rfl (lv_at hl 2 rfl) ?_
  refine ck_iD (wr := ([] : va_W)) (ws' := wM Y mo q M) (va_runV (As := [.int v, .int w]) (rest := [.int (M 0 (33 + v).toNatClampNeg), .int (33 + v), .ref (q 0)]) ⟨hx, hb, hml, hown, hts⟩ (c_X4_joyOf l D Y s.heap.size q M mo v w h_v h_w) (cwV 2 hts gX4_danced_X4_joyOf rfl rfl rfl (by decide +kernel) ⟨Nat.le_of_ble_eq_true rfl, Nat.le_of_ble_eq_true rfl⟩) (pst_V hK hP hD [0, 1, 2, 3, 4, 5, 6, 7, 8, 9] rfl (by decide) (q0 := 0) rfl rfl) rfl rfl hl.1 rfl (lv_room (Nat.le_of_ble_eq_true rfl)) dX4_danced_13 ⟨Nat.zero_le _, Nat.zero_le _⟩) hP hD hS hA [0, 1, 2, 3, 4, 5, 6, 7, 8, 9] [] [0, 1, 2, 3, 4, 5, 6, 7, 8, 9] rfl rfl (by decide) (by decide) rfl (by decide) (fun H locs hP hD hS => ?_)
  refine lv_iadd hx hb dX4_danced_16 ?_
  refine va_iast (D := D) hx hb hK.1 hP hD hS 1 0 rfl rfl (my_wid (my_off 33 h_v (Nat.le_refl _) (by decide)) (by decide) (by decide)) dX4_danced_17 (fun H locs hP hD hS => ?_)
  have hP : va_P D vwCl (wM Y mo q (T_X4_danced_1 M v w)) H := hP
  have hD : va_D A (wM Y mo q (T_X4_danced_1 M v w)) := hD
  obtain ⟨S_1, eS_1⟩ : ∃ z9, T_X4_danced_1 M v w = z9 := ⟨_, rfl⟩
  rw [eS_1] at hP hD
  refine lv_aload_n hx hb dX4_danced_18 rfl (lv_at hl 0 rfl) ?_
  refine va_get (D := D) (ci := 4) (v := .ref (q 0)) (C := RX4) (T := TX4) (N := 13) hx hb hts in_X4_danced_RX4 hown hK.1 hP 0 rfl rfl 0 (by decide) (hts (.fieldLink RX4 7 "NineDancersModel" "all" "[I") (by decide +kernel)) (fun _ h9 => h9) rfl dX4_danced_19 ?_
  refine lv_bipush (v := 24) hx hb dX4_danced_22 (by decide) ?_
  refine lv_iload_n hx hb dX4_danced_24 rfl (lv_at hl 1 rfl) ?_
  refine lv_iadd hx hb dX4_danced_25 ?_
  refine lv_dup2_11 hx hb dX4_danced_26 rfl rfl ?_
  refine va_iald (D := D) hx hb hK.1 hP 1 0 rfl rfl (my_wid (my_off 24 h_v (Nat.le_refl _) (by decide)) (by decide) (by decide)) dX4_danced_27 ?_
  refine lv_aload_n hx hb dX4_danced_28 rfl (lv_at hl 0 rfl) ?_
  refine va_get (D := D) (ci := 4) (v := .ref (q 0)) (C := RX4) (T := TX4) (N := 13) hx hb hts in_X4_danced_RX4 hown hK.1 hP 0 rfl rfl 0 (by decide) (hts (.fieldLink RX4 7 "NineDancersModel" "all" "[I") (by decide +kernel)) (fun _ h9 => h9) rfl dX4_danced_29 ?_
  refine lv_iconst (v := 0) hx hb dX4_danced_32 (by decide) ?_
  refine va_iald (D := D) hx hb hK.1 hP 1 0 rfl rfl (by unfold vp_in; decide) dX4_danced_33 ?_
  refine lv_isub hx hb dX4_danced_34 ?_
  refine va_iast (D := D) hx hb hK.1 hP hD hS 1 0 rfl rfl (my_wid (my_off 24 h_v (Nat.le_refl _) (by decide)) (by decide) (by decide)) dX4_danced_35 (fun H locs hP hD hS => ?_)
  have hP : va_P D vwCl (wM Y mo q (T_X4_danced_2 v S_1)) H := hP
  have hD : va_D A (wM Y mo q (T_X4_danced_2 v S_1)) := hD
  obtain ⟨S_2, eS_2⟩ : ∃ z9, T_X4_danced_2 v S_1 = z9 := ⟨_, rfl⟩
  rw [eS_2] at hP hD
  refine lv_aload_n hx hb dX4_danced_36 rfl (lv_at hl 0 rfl) ?_
  refine va_get (D := D) (ci := 4) (v := .ref (q 0)) (C := RX4) (T := TX4) (N := 13) hx hb hts in_X4_danced_RX4 hown hK.1 hP 0 rfl rfl 0 (by decide) (hts (.fieldLink RX4 7 "NineDancersModel" "all" "[I") (by decide +kernel)) (fun _ h9 => h9) rfl dX4_danced_37 ?_
  refine lv_bipush (v := 42) hx hb dX4_danced_40 (by decide) ?_
  refine lv_iload_n hx hb dX4_danced_42 rfl (lv_at hl 1 rfl) ?_
  refine lv_iadd hx hb dX4_danced_43 ?_
  refine lv_dup2_11 hx hb dX4_danced_44 rfl rfl ?_
  refine va_iald (D := D) hx hb hK.1 hP 1 0 rfl rfl (my_wid (my_off 42 h_v (Nat.le_refl _) (by decide)) (by decide) (by decide)) dX4_danced_45 ?_
  refine lv_iconst (v := 1) hx hb dX4_danced_46 (by decide) ?_
  refine lv_iadd hx hb dX4_danced_47 ?_
  refine va_iast (D := D) hx hb hK.1 hP hD hS 1 0 rfl rfl (my_wid (my_off 42 h_v (Nat.le_refl _) (by decide)) (by decide) (by decide)) dX4_danced_48 (fun H locs hP hD hS => ?_)
  have hP : va_P D vwCl (wM Y mo q (T_X4_danced_3 v S_2)) H := hP
  have hD : va_D A (wM Y mo q (T_X4_danced_3 v S_2)) := hD
  obtain ⟨S_3, eS_3⟩ : ∃ z9, T_X4_danced_3 v S_2 = z9 := ⟨_, rfl⟩
  rw [eS_3] at hP hD
  refine lv_aload_n hx hb dX4_danced_49 rfl (lv_at hl 0 rfl) ?_
  refine va_get (D := D) (ci := 4) (v := .ref (q 0)) (C := RX4) (T := TX4) (N := 13) hx hb hts in_X4_danced_RX4 hown hK.1 hP 0 rfl rfl 0 (by decide) (hts (.fieldLink RX4 7 "NineDancersModel" "all" "[I") (by decide +kernel)) (fun _ h9 => h9) rfl dX4_danced_50 ?_
  refine lv_sipush (v := 150) hx hb dX4_danced_53 (by decide) ?_
  refine lv_iload_n hx hb dX4_danced_56 rfl (lv_at hl 1 rfl) ?_
  refine lv_iload_n hx hb dX4_danced_57 rfl (lv_at hl 2 rfl) ?_
  refine ck_iD (wr := wM Y mo q S_3) (ws' := wM Y mo q S_3) (va_runS (As := [.int v, .int w]) (rest := [.int 150, .ref (q 0)]) ⟨hx, hb, hml, hown, hts⟩ (c_X4_pairAt l D Y H.size v w) (va_cwS 2 hts gX4_danced_X4_pairAt rfl rfl rfl (by decide +kernel) ⟨Nat.le_of_ble_eq_true rfl, Nat.le_of_ble_eq_true rfl⟩) (pst_S hK hP hD [] rfl (by decide)) rfl rfl hl.1 rfl (lv_room (Nat.le_of_ble_eq_true rfl)) dX4_danced_58 ⟨Nat.zero_le _, Nat.zero_le _⟩) hP hD hS hA [] [0, 1, 2, 3, 4, 5, 6, 7, 8, 9] [0, 1, 2, 3, 4, 5, 6, 7, 8, 9] rfl rfl (by decide) (by decide) rfl (by decide) (fun H locs hP hD hS => ?_)
  refine lv_iadd hx hb dX4_danced_61 ?_
  refine lv_dup2_11 hx hb dX4_danced_62 rfl rfl ?_
  refine va_iald (D := D) hx hb hK.1 hP 1 0 rfl rfl (my_wid (my_off 150 (in_pairAt h_v h_w) (Nat.le_refl _) (by decide)) (by decide) (by decide)) dX4_danced_63 ?_
  refine lv_iconst (v := 1) hx hb dX4_danced_64 (by decide) ?_
  refine lv_iadd hx hb dX4_danced_65 ?_
  refine va_iast (D := D) hx hb hK.1 hP hD hS 1 0 rfl rfl (my_wid (my_off 150 (in_pairAt h_v h_w) (Nat.le_refl _) (by decide)) (by decide) (by decide)) dX4_danced_66 (fun H locs hP hD hS => ?_)
  have hP : va_P D vwCl (wM Y mo q (T_X4_danced_4 v w S_3)) H := hP
  have hD : va_D A (wM Y mo q (T_X4_danced_4 v w S_3)) := hD
  obtain ⟨S_4, eS_4⟩ : ∃ z9, T_X4_danced_4 v w S_3 = z9 := ⟨_, rfl⟩
  rw [eS_4] at hP hD
  refine lv_aload_n hx hb dX4_danced_67 rfl (lv_at hl 0 rfl) ?_
  refine va_get (D := D) (ci := 4) (v := .ref (q 0)) (C := RX4) (T := TX4) (N := 13) hx hb hts in_X4_danced_RX4 hown hK.1 hP 0 rfl rfl 0 (by decide) (hts (.fieldLink RX4 7 "NineDancersModel" "all" "[I") (by decide +kernel)) (fun _ h9 => h9) rfl dX4_danced_68 ?_
  refine lv_sipush (v := 231) hx hb dX4_danced_71 (by decide) ?_
  refine lv_iload_n hx hb dX4_danced_74 rfl (lv_at hl 1 rfl) ?_
  refine lv_iload_n hx hb dX4_danced_75 rfl (lv_at hl 2 rfl) ?_
  refine ck_iD (wr := wM Y mo q S_4) (ws' := wM Y mo q S_4) (va_runS (As := [.int v, .int w]) (rest := [.int 231, .ref (q 0)]) ⟨hx, hb, hml, hown, hts⟩ (c_X4_pairAt l D Y H.size v w) (va_cwS 2 hts gX4_danced_X4_pairAt rfl rfl rfl (by decide +kernel) ⟨Nat.le_of_ble_eq_true rfl, Nat.le_of_ble_eq_true rfl⟩) (pst_S hK hP hD [] rfl (by decide)) rfl rfl hl.1 rfl (lv_room (Nat.le_of_ble_eq_true rfl)) dX4_danced_76 ⟨Nat.zero_le _, Nat.zero_le _⟩) hP hD hS hA [] [0, 1, 2, 3, 4, 5, 6, 7, 8, 9] [0, 1, 2, 3, 4, 5, 6, 7, 8, 9] rfl rfl (by decide) (by decide) rfl (by decide) (fun H locs hP hD hS => ?_)
  refine lv_iadd hx hb dX4_danced_79 ?_
  refine lv_aload_n hx hb dX4_danced_80 rfl (lv_at hl 0 rfl) ?_
  refine va_get (D := D) (ci := 4) (v := .ref (q 0)) (C := RX4) (T := TX4) (N := 13) hx hb hts in_X4_danced_RX4 hown hK.1 hP 0 rfl rfl 0 (by decide) (hts (.fieldLink RX4 7 "NineDancersModel" "all" "[I") (by decide +kernel)) (fun _ h9 => h9) rfl dX4_danced_81 ?_
  refine lv_iconst (v := 3) hx hb dX4_danced_84 (by decide) ?_
  refine va_iald (D := D) hx hb hK.1 hP 1 0 rfl rfl (by unfold vp_in; decide) dX4_danced_85 ?_
  refine va_iast (D := D) hx hb hK.1 hP hD hS 1 0 rfl rfl (my_off 231 (in_pairAt h_v h_w) (Nat.le_refl _) (by decide)) dX4_danced_86 (fun H locs hP hD hS => ?_)
  have hP : va_P D vwCl (wM Y mo q (T_X4_danced_5 v w S_4)) H := hP
  have hD : va_D A (wM Y mo q (T_X4_danced_5 v w S_4)) := hD
  obtain ⟨S_5, eS_5⟩ : ∃ z9, T_X4_danced_5 v w S_4 = z9 := ⟨_, rfl⟩
  rw [eS_5] at hP hD
  subst eS_5
  subst eS_4
  subst eS_3
  subst eS_2
  subst eS_1
  have e9 : D_X4_danced M v w = (T_X4_danced_5 v w (T_X4_danced_4 v w (T_X4_danced_3 v (T_X4_danced_2 v (T_X4_danced_1 M v w))))) := by rw [D_X4_danced]
  exact ret_v hx hb hr hlk hP hD hS dX4_danced_87 ⟨Nat.zero_le _, Nat.zero_le _⟩ (by rw [e9])
def V_X4_rested_1 (M : Nat → Nat → Int32) (v : Int32) : Int32 := (M 0 (24 + v).toNatClampNeg) + (M 0 (1 : Int32).toNatClampNeg)
def T_X4_rested_2 (M : Nat → Nat → Int32) (v : Int32) : Nat → Nat → Int32 := s2 M 0 (24 + v).toNatClampNeg (V_X4_rested_1 M v)
def T_X4_rested_3 (v : Int32) (S_1 : Nat → Nat → Int32) : Nat → Nat → Int32 := s2 S_1 0 (51 + v).toNatClampNeg ((S_1 0 (51 + v).toNatClampNeg) + 1)
def T_X4_rested_4 (v : Int32) (S_2 : Nat → Nat → Int32) : Nat → Nat → Int32 := s2 S_2 0 (60 + v).toNatClampNeg ((S_2 0 (60 + v).toNatClampNeg) + 0)
def T_X4_rested_5 (v : Int32) (S_2 : Nat → Nat → Int32) : Nat → Nat → Int32 := s2 S_2 0 (60 + v).toNatClampNeg ((S_2 0 (60 + v).toNatClampNeg) + 1)
def T_X4_rested_6 (M : Nat → Nat → Int32) (v : Int32) : Nat → Nat → Int32 := s2 M 0 (24 + v).toNatClampNeg 20
def T_X4_rested_7 (v : Int32) (S_5 : Nat → Nat → Int32) : Nat → Nat → Int32 := s2 S_5 0 (51 + v).toNatClampNeg ((S_5 0 (51 + v).toNatClampNeg) + 1)
def T_X4_rested_8 (v : Int32) (S_6 : Nat → Nat → Int32) : Nat → Nat → Int32 := s2 S_6 0 (60 + v).toNatClampNeg ((S_6 0 (60 + v).toNatClampNeg) + 0)
def T_X4_rested_9 (v : Int32) (S_6 : Nat → Nat → Int32) : Nat → Nat → Int32 := s2 S_6 0 (60 + v).toNatClampNeg ((S_6 0 (60 + v).toNatClampNeg) + 1)
def D_X4_rested (M : Nat → Nat → Int32) (v : Int32) (al : Int32) : (Nat → Nat → Int32) := if (V_X4_rested_1 M v) ≤ 20 then (if al = 0 then (T_X4_rested_4 v (T_X4_rested_3 v (T_X4_rested_2 M v))) else (T_X4_rested_5 v (T_X4_rested_3 v (T_X4_rested_2 M v)))) else (if al = 0 then (T_X4_rested_8 v (T_X4_rested_7 v (T_X4_rested_6 M v))) else (T_X4_rested_9 v (T_X4_rested_7 v (T_X4_rested_6 M v))))
set_option maxRecDepth 100000 in
theorem in_X4_rested_RX4 : ∀ w ∈ u_ws RX4 TX4 13, w ∈ wsX4_rested := by decide +kernel
set_option maxHeartbeats 4000000 in
set_option maxRecDepth 100000 in
theorem c_X4_rested (l : Launch) (D : va_G) (Y : YY) (sz : Nat) (q : Nat → Nat) (M : Nat → Nat → Int32) (mo : Nat) (v : Int32) (al : Int32) (h_v : vp_in v 9) : Met l yX4_rested wsX4_rested ({ frames := 0, cells := 0, slots := 0, locals := 0 } : Room) (va_Pc [.ref mo, .int v, .int al] (Pst D Y sz (wM Y mo q M))) ((fun A : Nat → Prop => Qsv D (fun w9 => w9 = wM Y mo q (D_X4_rested M v al)) A) (va_A (wM Y mo q M) sz)) 0 0 (va_A (wM Y mo q M) sz) := by
  refine ct_in (cc := cX4_rested) (maxL := 4) (ret := none) (Qc := fun A : Nat → Prop => Qsv D (fun w9 => w9 = wM Y mo q (D_X4_rested M v al)) A) (by decide +kernel) rfl (Nat.le_of_ble_eq_true rfl) ?_
  intro p e s m below meth c A ls hx hb hr hts hown hml hlk hin hsz hA hP hD hK hS hl
  have hown : s.vm.findClass RX4 = some m.cls := hown
  have hl : lv_has ls 4 [(0, .ref mo), (1, .int v), (2, .int al)] := hl
  show W p l e ({ frames := 0, cells := 0, slots := 0, locals := 0 } : Room) s m ([.ref mo, .int v, .int al] : List Value).toArray below meth c s.heap [] 0 0 (MQ below (Qsv D (fun w9 => w9 = wM Y mo q (D_X4_rested M v al)) A) ([.ref mo, .int v, .int al] : List Value).toArray s 0 0 A) (F0 m 0 ls [])
  refine lv_aload_n hx hb dX4_rested_0 rfl (lv_at hl 0 rfl) ?_
  refine va_get (D := D) (ci := 4) (v := .ref (q 0)) (C := RX4) (T := TX4) (N := 13) hx hb hts in_X4_rested_RX4 hown hK.1 hP 0 rfl rfl 0 (by decide) (hts (.fieldLink RX4 7 "NineDancersModel" "all" "[I") (by decide +kernel)) (fun _ h9 => h9) rfl dX4_rested_1 ?_
  refine lv_bipush (v := 24) hx hb dX4_rested_4 (by decide) ?_
  refine lv_iload_n hx hb dX4_rested_6 rfl (lv_at hl 1 rfl) ?_
  refine lv_iadd hx hb dX4_rested_7 ?_
  refine va_iald (D := D) hx hb hK.1 hP 1 0 rfl rfl (my_wid (my_off 24 h_v (Nat.le_refl _) (by decide)) (by decide) (by decide)) dX4_rested_8 ?_
  refine lv_aload_n hx hb dX4_rested_9 rfl (lv_at hl 0 rfl) ?_
  refine va_get (D := D) (ci := 4) (v := .ref (q 0)) (C := RX4) (T := TX4) (N := 13) hx hb hts in_X4_rested_RX4 hown hK.1 hP 0 rfl rfl 0 (by decide) (hts (.fieldLink RX4 7 "NineDancersModel" "all" "[I") (by decide +kernel)) (fun _ h9 => h9) rfl dX4_rested_10 ?_
  refine lv_iconst (v := 1) hx hb dX4_rested_13 (by decide) ?_
  refine va_iald (D := D) hx hb hK.1 hP 1 0 rfl rfl (by unfold vp_in; decide) dX4_rested_14 ?_
  refine lv_iadd hx hb dX4_rested_15 ?_
  refine lv_istore_n (lv' := [(3, .int (V_X4_rested_1 M v)), (0, .ref mo), (1, .int v), (2, .int al)]) hx hb dX4_rested_16 rfl hl (by decide) rfl (fun ls hl => ?_)
  refine lv_aload_n hx hb dX4_rested_17 rfl (lv_at hl 1 rfl) ?_
  refine va_get (D := D) (ci := 4) (v := .ref (q 0)) (C := RX4) (T := TX4) (N := 13) hx hb hts in_X4_rested_RX4 hown hK.1 hP 0 rfl rfl 0 (by decide) (hts (.fieldLink RX4 7 "NineDancersModel" "all" "[I") (by decide +kernel)) (fun _ h9 => h9) rfl dX4_rested_18 ?_
  refine lv_bipush (v := 24) hx hb dX4_rested_21 (by decide) ?_
  refine lv_iload_n hx hb dX4_rested_23 rfl (lv_at hl 2 rfl) ?_
  refine lv_iadd hx hb dX4_rested_24 ?_
  refine lv_iload_n hx hb dX4_rested_25 rfl (lv_at hl 0 rfl) ?_
  refine lv_bipush (v := 20) hx hb dX4_rested_26 (by decide) ?_
  refine lv_icmp_le (tgt := 36) hx hb dX4_rested_28 (by decide) (fun c_1 => ?_) (fun c_1 => ?_)
  · refine lv_iload_n hx hb dX4_rested_36 rfl (lv_at hl 0 rfl) ?_
    refine va_iast (D := D) hx hb hK.1 hP hD hS 1 0 rfl rfl (my_wid (my_off 24 h_v (Nat.le_refl _) (by decide)) (by decide) (by decide)) dX4_rested_37 (fun H locs hP hD hS => ?_)
    have hP : va_P D vwCl (wM Y mo q (T_X4_rested_2 M v)) H := hP
    have hD : va_D A (wM Y mo q (T_X4_rested_2 M v)) := hD
    obtain ⟨S_1, eS_1⟩ : ∃ z9, T_X4_rested_2 M v = z9 := ⟨_, rfl⟩
    rw [eS_1] at hP hD
    refine lv_aload_n hx hb dX4_rested_38 rfl (lv_at hl 1 rfl) ?_
    refine va_get (D := D) (ci := 4) (v := .ref (q 0)) (C := RX4) (T := TX4) (N := 13) hx hb hts in_X4_rested_RX4 hown hK.1 hP 0 rfl rfl 0 (by decide) (hts (.fieldLink RX4 7 "NineDancersModel" "all" "[I") (by decide +kernel)) (fun _ h9 => h9) rfl dX4_rested_39 ?_
    refine lv_bipush (v := 51) hx hb dX4_rested_42 (by decide) ?_
    refine lv_iload_n hx hb dX4_rested_44 rfl (lv_at hl 2 rfl) ?_
    refine lv_iadd hx hb dX4_rested_45 ?_
    refine lv_dup2_11 hx hb dX4_rested_46 rfl rfl ?_
    refine va_iald (D := D) hx hb hK.1 hP 1 0 rfl rfl (my_wid (my_off 51 h_v (Nat.le_refl _) (by decide)) (by decide) (by decide)) dX4_rested_47 ?_
    refine lv_iconst (v := 1) hx hb dX4_rested_48 (by decide) ?_
    refine lv_iadd hx hb dX4_rested_49 ?_
    refine va_iast (D := D) hx hb hK.1 hP hD hS 1 0 rfl rfl (my_wid (my_off 51 h_v (Nat.le_refl _) (by decide)) (by decide) (by decide)) dX4_rested_50 (fun H locs hP hD hS => ?_)
    have hP : va_P D vwCl (wM Y mo q (T_X4_rested_3 v S_1)) H := hP
    have hD : va_D A (wM Y mo q (T_X4_rested_3 v S_1)) := hD
    obtain ⟨S_2, eS_2⟩ : ∃ z9, T_X4_rested_3 v S_1 = z9 := ⟨_, rfl⟩
    rw [eS_2] at hP hD
    refine lv_aload_n hx hb dX4_rested_51 rfl (lv_at hl 1 rfl) ?_
    refine va_get (D := D) (ci := 4) (v := .ref (q 0)) (C := RX4) (T := TX4) (N := 13) hx hb hts in_X4_rested_RX4 hown hK.1 hP 0 rfl rfl 0 (by decide) (hts (.fieldLink RX4 7 "NineDancersModel" "all" "[I") (by decide +kernel)) (fun _ h9 => h9) rfl dX4_rested_52 ?_
    refine lv_bipush (v := 60) hx hb dX4_rested_55 (by decide) ?_
    refine lv_iload_n hx hb dX4_rested_57 rfl (lv_at hl 2 rfl) ?_
    refine lv_iadd hx hb dX4_rested_58 ?_
    refine lv_dup2_11 hx hb dX4_rested_59 rfl rfl ?_
    refine va_iald (D := D) hx hb hK.1 hP 1 0 rfl rfl (my_wid (my_off 60 h_v (Nat.le_refl _) (by decide)) (by decide) (by decide)) dX4_rested_60 ?_
    refine lv_iload_n hx hb dX4_rested_61 rfl (lv_at hl 3 rfl) ?_
    refine lv_if_eq (tgt := 69) hx hb dX4_rested_62 (by decide) (fun c_2 => ?_) (fun c_2 => ?_)
    · refine lv_iconst (v := 0) hx hb dX4_rested_69 (by decide) ?_
      refine lv_iadd hx hb dX4_rested_70 ?_
      refine va_iast (D := D) hx hb hK.1 hP hD hS 1 0 rfl rfl (my_wid (my_off 60 h_v (Nat.le_refl _) (by decide)) (by decide) (by decide)) dX4_rested_71 (fun H locs hP hD hS => ?_)
      have hP : va_P D vwCl (wM Y mo q (T_X4_rested_4 v S_2)) H := hP
      have hD : va_D A (wM Y mo q (T_X4_rested_4 v S_2)) := hD
      obtain ⟨S_3, eS_3⟩ : ∃ z9, T_X4_rested_4 v S_2 = z9 := ⟨_, rfl⟩
      rw [eS_3] at hP hD
      subst eS_3
      subst eS_2
      subst eS_1
      have e9 : D_X4_rested M v al = (T_X4_rested_4 v (T_X4_rested_3 v (T_X4_rested_2 M v))) := by rw [D_X4_rested, if_pos c_1, if_pos c_2]
      exact ret_v hx hb hr hlk hP hD hS dX4_rested_72 ⟨Nat.zero_le _, Nat.zero_le _⟩ (by rw [e9])
    · refine lv_iconst (v := 1) hx hb dX4_rested_65 (by decide) ?_
      refine lv_goto (tgt := 70) hx hb dX4_rested_66 (by decide) ?_
      refine lv_iadd hx hb dX4_rested_70 ?_
      refine va_iast (D := D) hx hb hK.1 hP hD hS 1 0 rfl rfl (my_wid (my_off 60 h_v (Nat.le_refl _) (by decide)) (by decide) (by decide)) dX4_rested_71 (fun H locs hP hD hS => ?_)
      have hP : va_P D vwCl (wM Y mo q (T_X4_rested_5 v S_2)) H := hP
      have hD : va_D A (wM Y mo q (T_X4_rested_5 v S_2)) := hD
      obtain ⟨S_4, eS_4⟩ : ∃ z9, T_X4_rested_5 v S_2 = z9 := ⟨_, rfl⟩
      rw [eS_4] at hP hD
      subst eS_4
      subst eS_2
      subst eS_1
      have e9 : D_X4_rested M v al = (T_X4_rested_5 v (T_X4_rested_3 v (T_X4_rested_2 M v))) := by rw [D_X4_rested, if_pos c_1, if_neg c_2]
      exact ret_v hx hb hr hlk hP hD hS dX4_rested_72 ⟨Nat.zero_le _, Nat.zero_le _⟩ (by rw [e9])
  · refine lv_bipush (v := 20) hx hb dX4_rested_31 (by decide) ?_
    refine lv_goto (tgt := 37) hx hb dX4_rested_33 (by decide) ?_
    refine va_iast (D := D) hx hb hK.1 hP hD hS 1 0 rfl rfl (my_wid (my_off 24 h_v (Nat.le_refl _) (by decide)) (by decide) (by decide)) dX4_rested_37 (fun H locs hP hD hS => ?_)
    have hP : va_P D vwCl (wM Y mo q (T_X4_rested_6 M v)) H := hP
    have hD : va_D A (wM Y mo q (T_X4_rested_6 M v)) := hD
    obtain ⟨S_5, eS_5⟩ : ∃ z9, T_X4_rested_6 M v = z9 := ⟨_, rfl⟩
    rw [eS_5] at hP hD
    refine lv_aload_n hx hb dX4_rested_38 rfl (lv_at hl 1 rfl) ?_
    refine va_get (D := D) (ci := 4) (v := .ref (q 0)) (C := RX4) (T := TX4) (N := 13) hx hb hts in_X4_rested_RX4 hown hK.1 hP 0 rfl rfl 0 (by decide) (hts (.fieldLink RX4 7 "NineDancersModel" "all" "[I") (by decide +kernel)) (fun _ h9 => h9) rfl dX4_rested_39 ?_
    refine lv_bipush (v := 51) hx hb dX4_rested_42 (by decide) ?_
    refine lv_iload_n hx hb dX4_rested_44 rfl (lv_at hl 2 rfl) ?_
    refine lv_iadd hx hb dX4_rested_45 ?_
    refine lv_dup2_11 hx hb dX4_rested_46 rfl rfl ?_
    refine va_iald (D := D) hx hb hK.1 hP 1 0 rfl rfl (my_wid (my_off 51 h_v (Nat.le_refl _) (by decide)) (by decide) (by decide)) dX4_rested_47 ?_
    refine lv_iconst (v := 1) hx hb dX4_rested_48 (by decide) ?_
    refine lv_iadd hx hb dX4_rested_49 ?_
    refine va_iast (D := D) hx hb hK.1 hP hD hS 1 0 rfl rfl (my_wid (my_off 51 h_v (Nat.le_refl _) (by decide)) (by decide) (by decide)) dX4_rested_50 (fun H locs hP hD hS => ?_)
    have hP : va_P D vwCl (wM Y mo q (T_X4_rested_7 v S_5)) H := hP
    have hD : va_D A (wM Y mo q (T_X4_rested_7 v S_5)) := hD
    obtain ⟨S_6, eS_6⟩ : ∃ z9, T_X4_rested_7 v S_5 = z9 := ⟨_, rfl⟩
    rw [eS_6] at hP hD
    refine lv_aload_n hx hb dX4_rested_51 rfl (lv_at hl 1 rfl) ?_
    refine va_get (D := D) (ci := 4) (v := .ref (q 0)) (C := RX4) (T := TX4) (N := 13) hx hb hts in_X4_rested_RX4 hown hK.1 hP 0 rfl rfl 0 (by decide) (hts (.fieldLink RX4 7 "NineDancersModel" "all" "[I") (by decide +kernel)) (fun _ h9 => h9) rfl dX4_rested_52 ?_
    refine lv_bipush (v := 60) hx hb dX4_rested_55 (by decide) ?_
    refine lv_iload_n hx hb dX4_rested_57 rfl (lv_at hl 2 rfl) ?_
    refine lv_iadd hx hb dX4_rested_58 ?_
    refine lv_dup2_11 hx hb dX4_rested_59 rfl rfl ?_
    refine va_iald (D := D) hx hb hK.1 hP 1 0 rfl rfl (my_wid (my_off 60 h_v (Nat.le_refl _) (by decide)) (by decide) (by decide)) dX4_rested_60 ?_
    refine lv_iload_n hx hb dX4_rested_61 rfl (lv_at hl 3 rfl) ?_
    refine lv_if_eq (tgt := 69) hx hb dX4_rested_62 (by decide) (fun c_3 => ?_) (fun c_3 => ?_)
    · refine lv_iconst (v := 0) hx hb dX4_rested_69 (by decide) ?_
      refine lv_iadd hx hb dX4_rested_70 ?_
      refine va_iast (D := D) hx hb hK.1 hP hD hS 1 0 rfl rfl (my_wid (my_off 60 h_v (Nat.le_refl _) (by decide)) (by decide) (by decide)) dX4_rested_71 (fun H locs hP hD hS => ?_)
      have hP : va_P D vwCl (wM Y mo q (T_X4_rested_8 v S_6)) H := hP
      have hD : va_D A (wM Y mo q (T_X4_rested_8 v S_6)) := hD
      obtain ⟨S_7, eS_7⟩ : ∃ z9, T_X4_rested_8 v S_6 = z9 := ⟨_, rfl⟩
      rw [eS_7] at hP hD
      subst eS_7
      subst eS_6
      subst eS_5
      have e9 : D_X4_rested M v al = (T_X4_rested_8 v (T_X4_rested_7 v (T_X4_rested_6 M v))) := by rw [D_X4_rested, if_neg c_1, if_pos c_3]
      exact ret_v hx hb hr hlk hP hD hS dX4_rested_72 ⟨Nat.zero_le _, Nat.zero_le _⟩ (by rw [e9])
    · refine lv_iconst (v := 1) hx hb dX4_rested_65 (by decide) ?_
      refine lv_goto (tgt := 70) hx hb dX4_rested_66 (by decide) ?_
      refine lv_iadd hx hb dX4_rested_70 ?_
      refine va_iast (D := D) hx hb hK.1 hP hD hS 1 0 rfl rfl (my_wid (my_off 60 h_v (Nat.le_refl _) (by decide)) (by decide) (by decide)) dX4_rested_71 (fun H locs hP hD hS => ?_)
      have hP : va_P D vwCl (wM Y mo q (T_X4_rested_9 v S_6)) H := hP
      have hD : va_D A (wM Y mo q (T_X4_rested_9 v S_6)) := hD
      obtain ⟨S_8, eS_8⟩ : ∃ z9, T_X4_rested_9 v S_6 = z9 := ⟨_, rfl⟩
      rw [eS_8] at hP hD
      subst eS_8
      subst eS_6
      subst eS_5
      have e9 : D_X4_rested M v al = (T_X4_rested_9 v (T_X4_rested_7 v (T_X4_rested_6 M v))) := by rw [D_X4_rested, if_neg c_1, if_neg c_3]
      exact ret_v hx hb hr hlk hP hD hS dX4_rested_72 ⟨Nat.zero_le _, Nat.zero_le _⟩ (by rw [e9])
end
section
def T_X4_round_5 (i : Int32) (M1 : Nat → Nat → Int32) : Nat → Nat → Int32 := s2 M1 5 i.toNatClampNeg 0
def T_X4_round_6 (i : Int32) (M1 : Nat → Nat → Int32) : Nat → Nat → Int32 := s2 M1 5 i.toNatClampNeg 1
def L_X4_round_4 (M : Nat → Nat → Int32) (n : Int32) : Nat → (Int32) → (Int32) → (Nat → Nat → Int32) → (Int32) × (Nat → Nat → Int32)
  | 0, i, nn, M1 => (nn, M1)
  | n_4 + 1, i, nn, M1 => if 9 ≤ i then (nn, M1) else (if (D_X4_dances M1 i n) = 0 then (L_X4_round_4 M n n_4 (i + 1) (nn + ((T_X4_round_5 i M1) 5 i.toNatClampNeg)) (T_X4_round_5 i M1)) else (L_X4_round_4 M n n_4 (i + 1) (nn + ((T_X4_round_6 i M1) 5 i.toNatClampNeg)) (T_X4_round_6 i M1)))
def L_X4_round_47 (M : Nat → Nat → Int32) (n : Int32) (nn : Int32) (M1 : Nat → Nat → Int32) : Nat → (Int32) → (Nat → Nat → Int32) → (Nat → Nat → Int32)
  | 0, j, M2 => M2
  | n_47 + 1, j, M2 => if 9 ≤ j then M2 else (if (M2 5 j.toNatClampNeg) = 1 then (L_X4_round_47 M n nn M1 n_47 (j + 1) (D_X4_danced M2 j (D_X4_partnerBy j n))) else (if (D_X4_isThere M2 j) = 0 then (L_X4_round_47 M n nn M1 n_47 (j + 1) M2) else (if (D_X4_partnerBy j n) = j then (L_X4_round_47 M n nn M1 n_47 (j + 1) (D_X4_rested M2 j 0)) else (L_X4_round_47 M n nn M1 n_47 (j + 1) (D_X4_rested M2 j 1)))))
def T_X4_round_1 (nn : Int32) (M2 : Nat → Nat → Int32) : Nat → Nat → Int32 := s2 M2 0 (4 : Int32).toNatClampNeg ((M2 0 (4 : Int32).toNatClampNeg) + (nn / 2))
def T_X4_round_2 (n : Int32) (S_1 : Nat → Nat → Int32) : Nat → Nat → Int32 := s2 S_1 0 (6 + (n - n / 9 * 9)).toNatClampNeg ((S_1 0 (6 + (n - n / 9 * 9)).toNatClampNeg) + 1)
def T_X4_round_3 (n : Int32) (S_2 : Nat → Nat → Int32) : Nat → Nat → Int32 := s2 S_2 0 (5 : Int32).toNatClampNeg n
def T_X4_round_4 (S_3 : Nat → Nat → Int32) : Nat → Nat → Int32 := s2 S_3 0 (3 : Int32).toNatClampNeg ((S_3 0 (3 : Int32).toNatClampNeg) + 1)
def D_X4_round (M : Nat → Nat → Int32) (n : Int32) : (Int32) × (Nat → Nat → Int32) := (((L_X4_round_4 M n 10 0 0 M).1) / 2, (T_X4_round_4 (T_X4_round_3 n (T_X4_round_2 n (T_X4_round_1 ((L_X4_round_4 M n 10 0 0 M).1) (L_X4_round_47 M n ((L_X4_round_4 M n 10 0 0 M).1) ((L_X4_round_4 M n 10 0 0 M).2) 10 0 ((L_X4_round_4 M n 10 0 0 M).2)))))))
set_option maxRecDepth 100000 in
theorem in_X4_round_RX4 : ∀ w ∈ u_ws RX4 TX4 13, w ∈ wsX4_round := by decide +kernel
set_option maxHeartbeats 4000000 in
set_option maxRecDepth 100000 in
theorem c_X4_round (l : Launch) (D : va_G) (Y : YY) (sz : Nat) (q : Nat → Nat) (M : Nat → Nat → Int32) (mo : Nat) (n : Int32) (h_n : vp_in n 1000) : Met l yX4_round wsX4_round ({ frames := 3, cells := 0, slots := 0, locals := 65 } : Room) (va_Pc [.ref mo, .int n] (Pst D Y sz (wM Y mo q M))) ((fun A : Nat → Prop => Qsi D (fun r9 w9 => r9 = (D_X4_round M n).1 ∧ w9 = wM Y mo q ((D_X4_round M n).2)) A) (va_A (wM Y mo q M) sz)) 0 0 (va_A (wM Y mo q M) sz) := by
  refine ct_in (cc := cX4_round) (maxL := 5) (ret := (some .int)) (Qc := fun A : Nat → Prop => Qsi D (fun r9 w9 => r9 = (D_X4_round M n).1 ∧ w9 = wM Y mo q ((D_X4_round M n).2)) A) (by decide +kernel) rfl (Nat.le_of_ble_eq_true rfl) ?_
  intro p e s m below meth c A ls hx hb hr hts hown hml hlk hin hsz hA hP hD hK hS hl
  have hown : s.vm.findClass RX4 = some m.cls := hown
  have hl : lv_has ls 5 [(0, .ref mo), (1, .int n)] := hl
  show W p l e ({ frames := 3, cells := 0, slots := 0, locals := 65 } : Room) s m ([.ref mo, .int n] : List Value).toArray below meth c s.heap [] 0 0 (MQ below (Qsi D (fun r9 w9 => r9 = (D_X4_round M n).1 ∧ w9 = wM Y mo q ((D_X4_round M n).2)) A) ([.ref mo, .int n] : List Value).toArray s 0 0 A) (F0 m 0 ls [])
  refine lv_iconst (v := 0) hx hb dX4_round_0 (by decide) ?_
  refine lv_istore_n (lv' := [(2, .int 0), (0, .ref mo), (1, .int n)]) hx hb dX4_round_1 rfl hl (by decide) rfl (fun ls hl => ?_)
  refine lv_iconst (v := 0) hx hb dX4_round_2 (by decide) ?_
  refine lv_istore_n (lv' := [(3, .int 0), (2, .int 0), (0, .ref mo), (1, .int n)]) hx hb dX4_round_3 rfl hl (by decide) rfl (fun ls hl => ?_)
  have loop_4 : ∀ (n_4 k_4 : Nat) (i : Int32) (nn : Int32) (M1 : Nat → Nat → Int32) (H : Heap) (locs : List Loc) (ls : Array Slot), 10 ≤ k_4 + n_4 → k_4 ≤ 9 → i = nI k_4 → va_P D vwCl (wM Y mo q M1) H → va_D A (wM Y mo q M1) → va_S A s.heap H locs → lv_has ls 5 [(3, .int i), (2, .int nn), (0, .ref mo), (1, .int n)] → L_X4_round_4 M n n_4 i nn M1 = L_X4_round_4 M n 10 0 0 M → W p l e ({ frames := 3, cells := 0, slots := 0, locals := 65 } : Room) s m ([.ref mo, .int n] : List Value).toArray below meth c H locs 0 0 (MQ below (Qsi D (fun r9 w9 => r9 = (D_X4_round M n).1 ∧ w9 = wM Y mo q ((D_X4_round M n).2)) A) ([.ref mo, .int n] : List Value).toArray s 0 0 A) (F0 m 4 ls []) := by
    intro n_4
    induction n_4 with
    | zero => intro k_4 i nn M1 H locs ls hkf hkN_4 ex_4 hP hD hS hl hR_4; exact absurd hkf (by omega)
    | succ n_4 ih_4 =>
      intro k_4 i nn M1 H locs ls hkf hkN_4 ex_4 hP hD hS hl hR_4
      refine lv_iload_n hx hb dX4_round_4 rfl (lv_at hl 0 rfl) ?_
      refine lv_bipush (v := 9) hx hb dX4_round_5 (by decide) ?_
      refine lv_icmp_ge (tgt := 45) hx hb dX4_round_7 (by decide) (fun c_1 => ?_) (fun c_1 => ?_)
      · have e8 : L_X4_round_4 M n (n_4 + 1) i nn M1 = (nn, M1) := by rw [L_X4_round_4, if_pos c_1]
        have e8 := hR_4.symm.trans e8
        have enn : (L_X4_round_4 M n 10 0 0 M).1 = nn := by rw [e8]
        have eM1 : (L_X4_round_4 M n 10 0 0 M).2 = M1 := by rw [e8]
        clear e8 hR_4 ih_4
        refine lv_iconst (v := 0) hx hb dX4_round_45 (by decide) ?_
        refine lv_istore_n (lv' := [(3, .int 0), (2, .int nn), (0, .ref mo), (1, .int n)]) hx hb dX4_round_46 rfl hl (by decide) rfl (fun ls hl => ?_)
        have loop_47 : ∀ (n_47 k_47 : Nat) (j : Int32) (M2 : Nat → Nat → Int32) (H : Heap) (locs : List Loc) (ls : Array Slot), 10 ≤ k_47 + n_47 → k_47 ≤ 9 → j = nI k_47 → va_P D vwCl (wM Y mo q M2) H → va_D A (wM Y mo q M2) → va_S A s.heap H locs → lv_has ls 5 [(3, .int j), (2, .int nn), (0, .ref mo), (1, .int n)] → L_X4_round_47 M n nn M1 n_47 j M2 = L_X4_round_47 M n nn M1 10 0 M1 → W p l e ({ frames := 3, cells := 0, slots := 0, locals := 65 } : Room) s m ([.ref mo, .int n] : List Value).toArray below meth c H locs 0 0 (MQ below (Qsi D (fun r9 w9 => r9 = (D_X4_round M n).1 ∧ w9 = wM Y mo q ((D_X4_round M n).2)) A) ([.ref mo, .int n] : List Value).toArray s 0 0 A) (F0 m 47 ls []) := by
          intro n_47
          induction n_47 with
          | zero => intro k_47 j M2 H locs ls hkf hkN_47 ex_47 hP hD hS hl hR_47; exact absurd hkf (by omega)
          | succ n_47 ih_47 =>
            intro k_47 j M2 H locs ls hkf hkN_47 ex_47 hP hD hS hl hR_47
            refine lv_iload_n hx hb dX4_round_47 rfl (lv_at hl 0 rfl) ?_
            refine lv_bipush (v := 9) hx hb dX4_round_48 (by decide) ?_
            refine lv_icmp_ge (tgt := 110) hx hb dX4_round_50 (by decide) (fun c_2 => ?_) (fun c_2 => ?_)
            · have e8 : L_X4_round_47 M n nn M1 (n_47 + 1) j M2 = M2 := by rw [L_X4_round_47, if_pos c_2]
              have e8 := hR_47.symm.trans e8
              have eM2 : L_X4_round_47 M n nn M1 10 0 M1 = M2 := by rw [e8]
              clear e8 hR_47 ih_47
              refine lv_aload_n hx hb dX4_round_110 rfl (lv_at hl 2 rfl) ?_
              refine va_get (D := D) (ci := 4) (v := .ref (q 0)) (C := RX4) (T := TX4) (N := 13) hx hb hts in_X4_round_RX4 hown hK.1 hP 0 rfl rfl 0 (by decide) (hts (.fieldLink RX4 7 "NineDancersModel" "all" "[I") (by decide +kernel)) (fun _ h9 => h9) rfl dX4_round_111 ?_
              refine lv_iconst (v := 4) hx hb dX4_round_114 (by decide) ?_
              refine lv_dup2_11 hx hb dX4_round_115 rfl rfl ?_
              refine va_iald (D := D) hx hb hK.1 hP 1 0 rfl rfl (by unfold vp_in; decide) dX4_round_116 ?_
              refine lv_iload_n hx hb dX4_round_117 rfl (lv_at hl 1 rfl) ?_
              refine lv_iconst (v := 2) hx hb dX4_round_118 (by decide) ?_
              refine lv_idiv hx hb dX4_round_119 (by decide) ?_
              refine lv_iadd hx hb dX4_round_120 ?_
              refine va_iast (D := D) hx hb hK.1 hP hD hS 1 0 rfl rfl (by unfold vp_in; decide) dX4_round_121 (fun H locs hP hD hS => ?_)
              have hP : va_P D vwCl (wM Y mo q (T_X4_round_1 nn M2)) H := hP
              have hD : va_D A (wM Y mo q (T_X4_round_1 nn M2)) := hD
              obtain ⟨S_1, eS_1⟩ : ∃ z9, T_X4_round_1 nn M2 = z9 := ⟨_, rfl⟩
              rw [eS_1] at hP hD
              refine lv_aload_n hx hb dX4_round_122 rfl (lv_at hl 2 rfl) ?_
              refine va_get (D := D) (ci := 4) (v := .ref (q 0)) (C := RX4) (T := TX4) (N := 13) hx hb hts in_X4_round_RX4 hown hK.1 hP 0 rfl rfl 0 (by decide) (hts (.fieldLink RX4 7 "NineDancersModel" "all" "[I") (by decide +kernel)) (fun _ h9 => h9) rfl dX4_round_123 ?_
              refine lv_bipush (v := 6) hx hb dX4_round_126 (by decide) ?_
              refine lv_iload_n hx hb dX4_round_128 rfl (lv_at hl 3 rfl) ?_
              refine lv_bipush (v := 9) hx hb dX4_round_129 (by decide) ?_
              refine lv_irem hx hb dX4_round_131 (by decide) ?_
              refine lv_iadd hx hb dX4_round_132 ?_
              refine lv_dup2_11 hx hb dX4_round_133 rfl rfl ?_
              refine va_iald (D := D) hx hb hK.1 hP 1 0 rfl rfl (my_wid (my_off 6 (my_rem h_n (by decide)) (Nat.le_refl _) (by decide)) (by decide) (by decide)) dX4_round_134 ?_
              refine lv_iconst (v := 1) hx hb dX4_round_135 (by decide) ?_
              refine lv_iadd hx hb dX4_round_136 ?_
              refine va_iast (D := D) hx hb hK.1 hP hD hS 1 0 rfl rfl (my_wid (my_off 6 (my_rem h_n (by decide)) (Nat.le_refl _) (by decide)) (by decide) (by decide)) dX4_round_137 (fun H locs hP hD hS => ?_)
              have hP : va_P D vwCl (wM Y mo q (T_X4_round_2 n S_1)) H := hP
              have hD : va_D A (wM Y mo q (T_X4_round_2 n S_1)) := hD
              obtain ⟨S_2, eS_2⟩ : ∃ z9, T_X4_round_2 n S_1 = z9 := ⟨_, rfl⟩
              rw [eS_2] at hP hD
              refine lv_aload_n hx hb dX4_round_138 rfl (lv_at hl 2 rfl) ?_
              refine va_get (D := D) (ci := 4) (v := .ref (q 0)) (C := RX4) (T := TX4) (N := 13) hx hb hts in_X4_round_RX4 hown hK.1 hP 0 rfl rfl 0 (by decide) (hts (.fieldLink RX4 7 "NineDancersModel" "all" "[I") (by decide +kernel)) (fun _ h9 => h9) rfl dX4_round_139 ?_
              refine lv_iconst (v := 5) hx hb dX4_round_142 (by decide) ?_
              refine lv_iload_n hx hb dX4_round_143 rfl (lv_at hl 3 rfl) ?_
              refine va_iast (D := D) hx hb hK.1 hP hD hS 1 0 rfl rfl (by unfold vp_in; decide) dX4_round_144 (fun H locs hP hD hS => ?_)
              have hP : va_P D vwCl (wM Y mo q (T_X4_round_3 n S_2)) H := hP
              have hD : va_D A (wM Y mo q (T_X4_round_3 n S_2)) := hD
              obtain ⟨S_3, eS_3⟩ : ∃ z9, T_X4_round_3 n S_2 = z9 := ⟨_, rfl⟩
              rw [eS_3] at hP hD
              refine lv_aload_n hx hb dX4_round_145 rfl (lv_at hl 2 rfl) ?_
              refine va_get (D := D) (ci := 4) (v := .ref (q 0)) (C := RX4) (T := TX4) (N := 13) hx hb hts in_X4_round_RX4 hown hK.1 hP 0 rfl rfl 0 (by decide) (hts (.fieldLink RX4 7 "NineDancersModel" "all" "[I") (by decide +kernel)) (fun _ h9 => h9) rfl dX4_round_146 ?_
              refine lv_iconst (v := 3) hx hb dX4_round_149 (by decide) ?_
              refine lv_dup2_11 hx hb dX4_round_150 rfl rfl ?_
              refine va_iald (D := D) hx hb hK.1 hP 1 0 rfl rfl (by unfold vp_in; decide) dX4_round_151 ?_
              refine lv_iconst (v := 1) hx hb dX4_round_152 (by decide) ?_
              refine lv_iadd hx hb dX4_round_153 ?_
              refine va_iast (D := D) hx hb hK.1 hP hD hS 1 0 rfl rfl (by unfold vp_in; decide) dX4_round_154 (fun H locs hP hD hS => ?_)
              have hP : va_P D vwCl (wM Y mo q (T_X4_round_4 S_3)) H := hP
              have hD : va_D A (wM Y mo q (T_X4_round_4 S_3)) := hD
              obtain ⟨S_4, eS_4⟩ : ∃ z9, T_X4_round_4 S_3 = z9 := ⟨_, rfl⟩
              rw [eS_4] at hP hD
              refine lv_iload_n hx hb dX4_round_155 rfl (lv_at hl 1 rfl) ?_
              refine lv_iconst (v := 2) hx hb dX4_round_156 (by decide) ?_
              refine lv_idiv hx hb dX4_round_157 (by decide) ?_
              subst eS_4
              subst eS_3
              subst eS_2
              subst eS_1
              subst eM2
              subst eM1
              subst enn
              have e9 : D_X4_round M n = (((L_X4_round_4 M n 10 0 0 M).1) / 2, (T_X4_round_4 (T_X4_round_3 n (T_X4_round_2 n (T_X4_round_1 ((L_X4_round_4 M n 10 0 0 M).1) (L_X4_round_47 M n ((L_X4_round_4 M n 10 0 0 M).1) ((L_X4_round_4 M n 10 0 0 M).2) 10 0 ((L_X4_round_4 M n 10 0 0 M).2))))))) := by rw [D_X4_round]
              exact ret_i hx hb hr hlk hP hD hS dX4_round_158 ⟨Nat.zero_le _, Nat.zero_le _⟩ ⟨by rw [e9], by rw [e9]⟩
            · have hk_47 := my_lt ex_47 (show (9 : Int32) = nI 9 from rfl) (by decide) hkN_47 c_2
              refine lv_iload_n hx hb dX4_round_53 rfl (lv_at hl 0 rfl) ?_
              refine lv_iload_n hx hb dX4_round_54 rfl (lv_at hl 3 rfl) ?_
              refine ck_iD (wr := wM Y mo q M2) (ws' := wM Y mo q M2) (va_runS (As := [.int j, .int n]) (rest := []) ⟨hx, hb, hml, hown, hts⟩ (c_X4_partnerBy l D Y H.size j n) (va_cwS 2 hts gX4_round_X4_partnerBy rfl rfl rfl (by decide +kernel) ⟨Nat.le_of_ble_eq_true rfl, Nat.le_of_ble_eq_true rfl⟩) (pst_S hK hP hD [] rfl (by decide)) rfl rfl hl.1 rfl (lv_room (Nat.le_of_ble_eq_true rfl)) dX4_round_55 ⟨Nat.zero_le _, Nat.zero_le _⟩) hP hD hS hA [] [0, 1, 2, 3, 4, 5, 6, 7, 8, 9] [0, 1, 2, 3, 4, 5, 6, 7, 8, 9] rfl rfl (by decide) (by decide) rfl (by decide) (fun H locs hP hD hS => ?_)
              refine lv_istore (lv' := [(4, .int (D_X4_partnerBy j n)), (3, .int j), (2, .int nn), (0, .ref mo), (1, .int n)]) hx hb dX4_round_58 hl (by decide) rfl (fun ls hl => ?_)
              refine lv_aload_n hx hb dX4_round_60 rfl (lv_at hl 3 rfl) ?_
              refine va_get (D := D) (ci := 4) (v := .ref (q 5)) (C := RX4) (T := TX4) (N := 13) hx hb hts in_X4_round_RX4 hown hK.1 hP 0 rfl rfl 6 (by decide) (hts (.fieldLink RX4 25 "NineDancersModel" "dancing" "[I") (by decide +kernel)) (fun _ h9 => h9) rfl dX4_round_61 ?_
              refine lv_iload_n hx hb dX4_round_64 rfl (lv_at hl 1 rfl) ?_
              refine va_iald (D := D) hx hb hK.1 hP 6 0 rfl rfl (by rw [ex_47]; exact vp_in_nI hk_47 (by decide)) dX4_round_65 ?_
              refine lv_iconst (v := 1) hx hb dX4_round_66 (by decide) ?_
              refine lv_icmp_ne (tgt := 80) hx hb dX4_round_67 (by decide) (fun c_3 => ?_) (fun c_3 => ?_)
              · refine lv_aload_n hx hb dX4_round_80 rfl (lv_at hl 3 rfl) ?_
                refine lv_iload_n hx hb dX4_round_81 rfl (lv_at hl 1 rfl) ?_
                refine ck_iD (wr := ([] : va_W)) (ws' := wM Y mo q M2) (va_runV (As := [.int j]) (rest := []) ⟨hx, hb, hml, hown, hts⟩ (c_X4_isThere l D Y H.size q M2 mo j (by rw [ex_47]; exact vp_in_nI hk_47 (by decide))) (cwV 1 hts gX4_round_X4_isThere rfl rfl rfl (by decide +kernel) ⟨Nat.le_of_ble_eq_true rfl, Nat.le_of_ble_eq_true rfl⟩) (pst_V hK hP hD [0, 1, 2, 3, 4, 5, 6, 7, 8, 9] rfl (by decide) (q0 := 0) rfl rfl) rfl rfl hl.1 rfl (lv_room (Nat.le_of_ble_eq_true rfl)) dX4_round_82 ⟨Nat.zero_le _, Nat.zero_le _⟩) hP hD hS hA [0, 1, 2, 3, 4, 5, 6, 7, 8, 9] [] [0, 1, 2, 3, 4, 5, 6, 7, 8, 9] rfl rfl (by decide) (by decide) rfl (by decide) (fun H locs hP hD hS => ?_)
                refine lv_if_eq (tgt := 104) hx hb dX4_round_85 (by decide) (fun c_4 => ?_) (fun c_4 => ?_)
                · refine lv_iinc (v := j + 1) (lv' := [(3, .int (j + 1)), (4, .int (D_X4_partnerBy j n)), (2, .int nn), (0, .ref mo), (1, .int n)]) hx hb dX4_round_104 hl (k := 1) rfl rfl (by decide) rfl (fun ls hl => ?_)
                  refine lv_goto (tgt := 47) hx hb dX4_round_107 (by decide) ?_
                  exact ih_47 (k_47 + 1) (j + 1) M2 _ _ _ (by omega) (by omega) (by rw [ex_47]; exact nI_1 k_47)  hP hD hS (lv_sub hl [0, 2, 3, 4] rfl) (by rw [L_X4_round_47, if_neg c_2, if_neg c_3, if_pos c_4] at hR_47; exact hR_47)
                · refine lv_aload_n hx hb dX4_round_88 rfl (lv_at hl 3 rfl) ?_
                  refine lv_iload_n hx hb dX4_round_89 rfl (lv_at hl 1 rfl) ?_
                  refine lv_iload hx hb dX4_round_90 (lv_at hl 0 rfl) ?_
                  refine lv_iload_n hx hb dX4_round_92 rfl (lv_at hl 1 rfl) ?_
                  refine lv_icmp_eq (tgt := 100) hx hb dX4_round_93 (by decide) (fun c_5 => ?_) (fun c_5 => ?_)
                  · refine lv_iconst (v := 0) hx hb dX4_round_100 (by decide) ?_
                    refine ck_vD (wr := ([] : va_W)) (ws' := wM Y mo q (D_X4_rested M2 j 0)) (va_runV (As := [.int j, .int 0]) (rest := []) ⟨hx, hb, hml, hown, hts⟩ (c_X4_rested l D Y H.size q M2 mo j 0 (by rw [ex_47]; exact vp_in_nI hk_47 (by decide))) (cwV 2 hts gX4_round_X4_rested rfl rfl rfl (by decide +kernel) ⟨Nat.le_of_ble_eq_true rfl, Nat.le_of_ble_eq_true rfl⟩) (pst_V hK hP hD [0, 1, 2, 3, 4, 5, 6, 7, 8, 9] rfl (by decide) (q0 := 0) rfl rfl) rfl rfl hl.1 rfl (lv_room (Nat.le_of_ble_eq_true rfl)) dX4_round_101 ⟨Nat.zero_le _, Nat.zero_le _⟩) hP hD hS hA [0, 1, 2, 3, 4, 5, 6, 7, 8, 9] [] [0, 1, 2, 3, 4, 5, 6, 7, 8, 9] rfl rfl (by decide) (by decide) rfl (by decide) (fun H locs hP hD hS => ?_)
                    obtain ⟨S_5, eS_5⟩ : ∃ z9, (D_X4_rested M2 j 0) = z9 := ⟨_, rfl⟩
                    rw [eS_5] at hP hD
                    refine lv_iinc (v := j + 1) (lv' := [(3, .int (j + 1)), (4, .int (D_X4_partnerBy j n)), (2, .int nn), (0, .ref mo), (1, .int n)]) hx hb dX4_round_104 hl (k := 1) rfl rfl (by decide) rfl (fun ls hl => ?_)
                    refine lv_goto (tgt := 47) hx hb dX4_round_107 (by decide) ?_
                    subst eS_5
                    exact ih_47 (k_47 + 1) (j + 1) (D_X4_rested M2 j 0) _ _ _ (by omega) (by omega) (by rw [ex_47]; exact nI_1 k_47)  hP hD hS (lv_sub hl [0, 2, 3, 4] rfl) (by rw [L_X4_round_47, if_neg c_2, if_neg c_3, if_neg c_4, if_pos c_5] at hR_47; exact hR_47)
                  · refine lv_iconst (v := 1) hx hb dX4_round_96 (by decide) ?_
                    refine lv_goto (tgt := 101) hx hb dX4_round_97 (by decide) ?_
                    refine ck_vD (wr := ([] : va_W)) (ws' := wM Y mo q (D_X4_rested M2 j 1)) (va_runV (As := [.int j, .int 1]) (rest := []) ⟨hx, hb, hml, hown, hts⟩ (c_X4_rested l D Y H.size q M2 mo j 1 (by rw [ex_47]; exact vp_in_nI hk_47 (by decide))) (cwV 2 hts gX4_round_X4_rested rfl rfl rfl (by decide +kernel) ⟨Nat.le_of_ble_eq_true rfl, Nat.le_of_ble_eq_true rfl⟩) (pst_V hK hP hD [0, 1, 2, 3, 4, 5, 6, 7, 8, 9] rfl (by decide) (q0 := 0) rfl rfl) rfl rfl hl.1 rfl (lv_room (Nat.le_of_ble_eq_true rfl)) dX4_round_101 ⟨Nat.zero_le _, Nat.zero_le _⟩) hP hD hS hA [0, 1, 2, 3, 4, 5, 6, 7, 8, 9] [] [0, 1, 2, 3, 4, 5, 6, 7, 8, 9] rfl rfl (by decide) (by decide) rfl (by decide) (fun H locs hP hD hS => ?_)
                    obtain ⟨S_6, eS_6⟩ : ∃ z9, (D_X4_rested M2 j 1) = z9 := ⟨_, rfl⟩
                    rw [eS_6] at hP hD
                    refine lv_iinc (v := j + 1) (lv' := [(3, .int (j + 1)), (4, .int (D_X4_partnerBy j n)), (2, .int nn), (0, .ref mo), (1, .int n)]) hx hb dX4_round_104 hl (k := 1) rfl rfl (by decide) rfl (fun ls hl => ?_)
                    refine lv_goto (tgt := 47) hx hb dX4_round_107 (by decide) ?_
                    subst eS_6
                    exact ih_47 (k_47 + 1) (j + 1) (D_X4_rested M2 j 1) _ _ _ (by omega) (by omega) (by rw [ex_47]; exact nI_1 k_47)  hP hD hS (lv_sub hl [0, 2, 3, 4] rfl) (by rw [L_X4_round_47, if_neg c_2, if_neg c_3, if_neg c_4, if_neg c_5] at hR_47; exact hR_47)
              · refine lv_aload_n hx hb dX4_round_70 rfl (lv_at hl 3 rfl) ?_
                refine lv_iload_n hx hb dX4_round_71 rfl (lv_at hl 1 rfl) ?_
                refine lv_iload hx hb dX4_round_72 (lv_at hl 0 rfl) ?_
                refine ck_vD (wr := ([] : va_W)) (ws' := wM Y mo q (D_X4_danced M2 j (D_X4_partnerBy j n))) (va_runV (As := [.int j, .int (D_X4_partnerBy j n)]) (rest := []) ⟨hx, hb, hml, hown, hts⟩ (c_X4_danced l D Y H.size q M2 mo j (D_X4_partnerBy j n) (by rw [ex_47]; exact vp_in_nI hk_47 (by decide)) (in_partnerBy (by rw [ex_47]; exact vp_in_nI hk_47 (by decide)) h_n)) (cwV 2 hts gX4_round_X4_danced rfl rfl rfl (by decide +kernel) ⟨Nat.le_of_ble_eq_true rfl, Nat.le_of_ble_eq_true rfl⟩) (pst_V hK hP hD [0, 1, 2, 3, 4, 5, 6, 7, 8, 9] rfl (by decide) (q0 := 0) rfl rfl) rfl rfl hl.1 rfl (lv_room (Nat.le_of_ble_eq_true rfl)) dX4_round_74 ⟨Nat.zero_le _, Nat.zero_le _⟩) hP hD hS hA [0, 1, 2, 3, 4, 5, 6, 7, 8, 9] [] [0, 1, 2, 3, 4, 5, 6, 7, 8, 9] rfl rfl (by decide) (by decide) rfl (by decide) (fun H locs hP hD hS => ?_)
                obtain ⟨S_7, eS_7⟩ : ∃ z9, (D_X4_danced M2 j (D_X4_partnerBy j n)) = z9 := ⟨_, rfl⟩
                rw [eS_7] at hP hD
                refine lv_goto (tgt := 104) hx hb dX4_round_77 (by decide) ?_
                refine lv_iinc (v := j + 1) (lv' := [(3, .int (j + 1)), (4, .int (D_X4_partnerBy j n)), (2, .int nn), (0, .ref mo), (1, .int n)]) hx hb dX4_round_104 hl (k := 1) rfl rfl (by decide) rfl (fun ls hl => ?_)
                refine lv_goto (tgt := 47) hx hb dX4_round_107 (by decide) ?_
                subst eS_7
                exact ih_47 (k_47 + 1) (j + 1) (D_X4_danced M2 j (D_X4_partnerBy j n)) _ _ _ (by omega) (by omega) (by rw [ex_47]; exact nI_1 k_47)  hP hD hS (lv_sub hl [0, 2, 3, 4] rfl) (by rw [L_X4_round_47, if_neg c_2, if_pos c_3] at hR_47; exact hR_47)
        exact loop_47 10 0 0 M1 _ _ _ (by omega) (Nat.zero_le _) nI_0.symm  hP hD hS (lv_sub hl [0, 1, 2, 3] rfl) rfl
      · have hk_4 := my_lt ex_4 (show (9 : Int32) = nI 9 from rfl) (by decide) hkN_4 c_1
        refine lv_aload_n hx hb dX4_round_10 rfl (lv_at hl 2 rfl) ?_
        refine va_get (D := D) (ci := 4) (v := .ref (q 5)) (C := RX4) (T := TX4) (N := 13) hx hb hts in_X4_round_RX4 hown hK.1 hP 0 rfl rfl 6 (by decide) (hts (.fieldLink RX4 25 "NineDancersModel" "dancing" "[I") (by decide +kernel)) (fun _ h9 => h9) rfl dX4_round_11 ?_
        refine lv_iload_n hx hb dX4_round_14 rfl (lv_at hl 0 rfl) ?_
        refine lv_aload_n hx hb dX4_round_15 rfl (lv_at hl 2 rfl) ?_
        refine lv_iload_n hx hb dX4_round_16 rfl (lv_at hl 0 rfl) ?_
        refine lv_iload_n hx hb dX4_round_17 rfl (lv_at hl 3 rfl) ?_
        refine ck_iD (wr := ([] : va_W)) (ws' := wM Y mo q M1) (va_runV (As := [.int i, .int n]) (rest := [.int i, .ref (q 5)]) ⟨hx, hb, hml, hown, hts⟩ (c_X4_dances l D Y H.size q M1 mo i n (by rw [ex_4]; exact vp_in_nI hk_4 (by decide)) h_n) (cwV 2 hts gX4_round_X4_dances rfl rfl rfl (by decide +kernel) ⟨Nat.le_of_ble_eq_true rfl, Nat.le_of_ble_eq_true rfl⟩) (pst_V hK hP hD [0, 1, 2, 3, 4, 5, 6, 7, 8, 9] rfl (by decide) (q0 := 0) rfl rfl) rfl rfl hl.1 rfl (lv_room (Nat.le_of_ble_eq_true rfl)) dX4_round_18 ⟨Nat.zero_le _, Nat.zero_le _⟩) hP hD hS hA [0, 1, 2, 3, 4, 5, 6, 7, 8, 9] [] [0, 1, 2, 3, 4, 5, 6, 7, 8, 9] rfl rfl (by decide) (by decide) rfl (by decide) (fun H locs hP hD hS => ?_)
        refine lv_if_eq (tgt := 28) hx hb dX4_round_21 (by decide) (fun c_6 => ?_) (fun c_6 => ?_)
        · refine lv_iconst (v := 0) hx hb dX4_round_28 (by decide) ?_
          refine va_iast (D := D) hx hb hK.1 hP hD hS 6 0 rfl rfl (by rw [ex_4]; exact vp_in_nI hk_4 (by decide)) dX4_round_29 (fun H locs hP hD hS => ?_)
          have hP : va_P D vwCl (wM Y mo q (T_X4_round_5 i M1)) H := hP
          have hD : va_D A (wM Y mo q (T_X4_round_5 i M1)) := hD
          obtain ⟨S_8, eS_8⟩ : ∃ z9, T_X4_round_5 i M1 = z9 := ⟨_, rfl⟩
          rw [eS_8] at hP hD
          refine lv_iload_n hx hb dX4_round_30 rfl (lv_at hl 1 rfl) ?_
          refine lv_aload_n hx hb dX4_round_31 rfl (lv_at hl 2 rfl) ?_
          refine va_get (D := D) (ci := 4) (v := .ref (q 5)) (C := RX4) (T := TX4) (N := 13) hx hb hts in_X4_round_RX4 hown hK.1 hP 0 rfl rfl 6 (by decide) (hts (.fieldLink RX4 25 "NineDancersModel" "dancing" "[I") (by decide +kernel)) (fun _ h9 => h9) rfl dX4_round_32 ?_
          refine lv_iload_n hx hb dX4_round_35 rfl (lv_at hl 0 rfl) ?_
          refine va_iald (D := D) hx hb hK.1 hP 6 0 rfl rfl (by rw [ex_4]; exact vp_in_nI hk_4 (by decide)) dX4_round_36 ?_
          refine lv_iadd hx hb dX4_round_37 ?_
          refine lv_istore_n (lv' := [(2, .int (nn + (S_8 5 i.toNatClampNeg))), (3, .int i), (0, .ref mo), (1, .int n)]) hx hb dX4_round_38 rfl hl (by decide) rfl (fun ls hl => ?_)
          refine lv_iinc (v := i + 1) (lv' := [(3, .int (i + 1)), (2, .int (nn + (S_8 5 i.toNatClampNeg))), (0, .ref mo), (1, .int n)]) hx hb dX4_round_39 hl (k := 1) rfl rfl (by decide) rfl (fun ls hl => ?_)
          refine lv_goto (tgt := 4) hx hb dX4_round_42 (by decide) ?_
          subst eS_8
          exact ih_4 (k_4 + 1) (i + 1) (nn + ((T_X4_round_5 i M1) 5 i.toNatClampNeg)) (T_X4_round_5 i M1) _ _ _ (by omega) (by omega) (by rw [ex_4]; exact nI_1 k_4)  hP hD hS (lv_sub hl [0, 1, 2, 3] rfl) (by rw [L_X4_round_4, if_neg c_1, if_pos c_6] at hR_4; exact hR_4)
        · refine lv_iconst (v := 1) hx hb dX4_round_24 (by decide) ?_
          refine lv_goto (tgt := 29) hx hb dX4_round_25 (by decide) ?_
          refine va_iast (D := D) hx hb hK.1 hP hD hS 6 0 rfl rfl (by rw [ex_4]; exact vp_in_nI hk_4 (by decide)) dX4_round_29 (fun H locs hP hD hS => ?_)
          have hP : va_P D vwCl (wM Y mo q (T_X4_round_6 i M1)) H := hP
          have hD : va_D A (wM Y mo q (T_X4_round_6 i M1)) := hD
          obtain ⟨S_9, eS_9⟩ : ∃ z9, T_X4_round_6 i M1 = z9 := ⟨_, rfl⟩
          rw [eS_9] at hP hD
          refine lv_iload_n hx hb dX4_round_30 rfl (lv_at hl 1 rfl) ?_
          refine lv_aload_n hx hb dX4_round_31 rfl (lv_at hl 2 rfl) ?_
          refine va_get (D := D) (ci := 4) (v := .ref (q 5)) (C := RX4) (T := TX4) (N := 13) hx hb hts in_X4_round_RX4 hown hK.1 hP 0 rfl rfl 6 (by decide) (hts (.fieldLink RX4 25 "NineDancersModel" "dancing" "[I") (by decide +kernel)) (fun _ h9 => h9) rfl dX4_round_32 ?_
          refine lv_iload_n hx hb dX4_round_35 rfl (lv_at hl 0 rfl) ?_
          refine va_iald (D := D) hx hb hK.1 hP 6 0 rfl rfl (by rw [ex_4]; exact vp_in_nI hk_4 (by decide)) dX4_round_36 ?_
          refine lv_iadd hx hb dX4_round_37 ?_
          refine lv_istore_n (lv' := [(2, .int (nn + (S_9 5 i.toNatClampNeg))), (3, .int i), (0, .ref mo), (1, .int n)]) hx hb dX4_round_38 rfl hl (by decide) rfl (fun ls hl => ?_)
          refine lv_iinc (v := i + 1) (lv' := [(3, .int (i + 1)), (2, .int (nn + (S_9 5 i.toNatClampNeg))), (0, .ref mo), (1, .int n)]) hx hb dX4_round_39 hl (k := 1) rfl rfl (by decide) rfl (fun ls hl => ?_)
          refine lv_goto (tgt := 4) hx hb dX4_round_42 (by decide) ?_
          subst eS_9
          exact ih_4 (k_4 + 1) (i + 1) (nn + ((T_X4_round_6 i M1) 5 i.toNatClampNeg)) (T_X4_round_6 i M1) _ _ _ (by omega) (by omega) (by rw [ex_4]; exact nI_1 k_4)  hP hD hS (lv_sub hl [0, 1, 2, 3] rfl) (by rw [L_X4_round_4, if_neg c_1, if_neg c_6] at hR_4; exact hR_4)
  exact loop_4 10 0 0 0 M _ _ _ (by omega) (Nat.zero_le _) nI_0.symm  hP hD hS (lv_sub hl [0, 1, 2, 3] rfl) rfl
def L_X4_sum_4 (M : Nat → Nat → Int32) (w : Int32) : Nat → (Int32) → (Int32) → (Int32)
  | 0, i, u => u
  | n_4 + 1, i, u => if 9 ≤ i then u else (L_X4_sum_4 M w n_4 (i + 1) (u + (M 0 (w + i).toNatClampNeg)))
def D_X4_sum (M : Nat → Nat → Int32) (w : Int32) : (Int32) := (L_X4_sum_4 M w 10 0 0)
set_option maxRecDepth 100000 in
theorem in_X4_sum_RX4 : ∀ w ∈ u_ws RX4 TX4 13, w ∈ wsX4_sum := by decide +kernel
set_option maxHeartbeats 4000000 in
set_option maxRecDepth 100000 in
theorem c_X4_sum (l : Launch) (D : va_G) (Y : YY) (sz : Nat) (q : Nat → Nat) (M : Nat → Nat → Int32) (mo : Nat) (w : Int32) (h_w : vp_in w 303) : Met l yX4_sum wsX4_sum ({ frames := 0, cells := 0, slots := 0, locals := 0 } : Room) (va_Pc [.ref mo, .int w] (Pst D Y sz (wM Y mo q M))) ((fun A : Nat → Prop => Qsi D (fun r9 w9 => r9 = D_X4_sum M w ∧ w9 = wM Y mo q M) A) (va_A (wM Y mo q M) sz)) 0 0 (va_A (wM Y mo q M) sz) := by
  refine ct_in (cc := cX4_sum) (maxL := 4) (ret := (some .int)) (Qc := fun A : Nat → Prop => Qsi D (fun r9 w9 => r9 = D_X4_sum M w ∧ w9 = wM Y mo q M) A) (by decide +kernel) rfl (Nat.le_of_ble_eq_true rfl) ?_
  intro p e s m below meth c A ls hx hb hr hts hown hml hlk hin hsz hA hP hD hK hS hl
  have hown : s.vm.findClass RX4 = some m.cls := hown
  have hl : lv_has ls 4 [(0, .ref mo), (1, .int w)] := hl
  show W p l e ({ frames := 0, cells := 0, slots := 0, locals := 0 } : Room) s m ([.ref mo, .int w] : List Value).toArray below meth c s.heap [] 0 0 (MQ below (Qsi D (fun r9 w9 => r9 = D_X4_sum M w ∧ w9 = wM Y mo q M) A) ([.ref mo, .int w] : List Value).toArray s 0 0 A) (F0 m 0 ls [])
  refine lv_iconst (v := 0) hx hb dX4_sum_0 (by decide) ?_
  refine lv_istore_n (lv' := [(2, .int 0), (0, .ref mo), (1, .int w)]) hx hb dX4_sum_1 rfl hl (by decide) rfl (fun ls hl => ?_)
  refine lv_iconst (v := 0) hx hb dX4_sum_2 (by decide) ?_
  refine lv_istore_n (lv' := [(3, .int 0), (2, .int 0), (0, .ref mo), (1, .int w)]) hx hb dX4_sum_3 rfl hl (by decide) rfl (fun ls hl => ?_)
  have loop_4 : ∀ (n_4 k_4 : Nat) (i : Int32) (u : Int32) (H : Heap) (locs : List Loc) (ls : Array Slot), 10 ≤ k_4 + n_4 → k_4 ≤ 9 → i = nI k_4 → va_P D vwCl (wM Y mo q M) H → va_D A (wM Y mo q M) → va_S A s.heap H locs → lv_has ls 4 [(3, .int i), (2, .int u), (0, .ref mo), (1, .int w)] → L_X4_sum_4 M w n_4 i u = L_X4_sum_4 M w 10 0 0 → W p l e ({ frames := 0, cells := 0, slots := 0, locals := 0 } : Room) s m ([.ref mo, .int w] : List Value).toArray below meth c H locs 0 0 (MQ below (Qsi D (fun r9 w9 => r9 = D_X4_sum M w ∧ w9 = wM Y mo q M) A) ([.ref mo, .int w] : List Value).toArray s 0 0 A) (F0 m 4 ls []) := by
    intro n_4
    induction n_4 with
    | zero => intro k_4 i u H locs ls hkf hkN_4 ex_4 hP hD hS hl hR_4; exact absurd hkf (by omega)
    | succ n_4 ih_4 =>
      intro k_4 i u H locs ls hkf hkN_4 ex_4 hP hD hS hl hR_4
      refine lv_iload_n hx hb dX4_sum_4 rfl (lv_at hl 0 rfl) ?_
      refine lv_bipush (v := 9) hx hb dX4_sum_5 (by decide) ?_
      refine lv_icmp_ge (tgt := 27) hx hb dX4_sum_7 (by decide) (fun c_1 => ?_) (fun c_1 => ?_)
      · have e8 : L_X4_sum_4 M w (n_4 + 1) i u = u := by rw [L_X4_sum_4, if_pos c_1]
        have e8 := hR_4.symm.trans e8
        have eu : L_X4_sum_4 M w 10 0 0 = u := by rw [e8]
        clear e8 hR_4 ih_4
        refine lv_iload_n hx hb dX4_sum_27 rfl (lv_at hl 1 rfl) ?_
        subst eu
        have e9 : D_X4_sum M w = (L_X4_sum_4 M w 10 0 0) := by rw [D_X4_sum]
        exact ret_i hx hb hr hlk hP hD hS dX4_sum_28 ⟨Nat.zero_le _, Nat.zero_le _⟩ ⟨e9.symm, rfl⟩
      · have hk_4 := my_lt ex_4 (show (9 : Int32) = nI 9 from rfl) (by decide) hkN_4 c_1
        refine lv_iload_n hx hb dX4_sum_10 rfl (lv_at hl 1 rfl) ?_
        refine lv_aload_n hx hb dX4_sum_11 rfl (lv_at hl 2 rfl) ?_
        refine va_get (D := D) (ci := 4) (v := .ref (q 0)) (C := RX4) (T := TX4) (N := 13) hx hb hts in_X4_sum_RX4 hown hK.1 hP 0 rfl rfl 0 (by decide) (hts (.fieldLink RX4 7 "NineDancersModel" "all" "[I") (by decide +kernel)) (fun _ h9 => h9) rfl dX4_sum_12 ?_
        refine lv_iload_n hx hb dX4_sum_15 rfl (lv_at hl 3 rfl) ?_
        refine lv_iload_n hx hb dX4_sum_16 rfl (lv_at hl 0 rfl) ?_
        refine lv_iadd hx hb dX4_sum_17 ?_
        refine va_iald (D := D) hx hb hK.1 hP 1 0 rfl rfl (my_wid (my_add h_w (by rw [ex_4]; exact vp_in_nI hk_4 (by decide)) (by decide) (by decide) : vp_in (w + i) 311) (by decide) (by decide)) dX4_sum_18 ?_
        refine lv_iadd hx hb dX4_sum_19 ?_
        refine lv_istore_n (lv' := [(2, .int (u + (M 0 (w + i).toNatClampNeg))), (3, .int i), (0, .ref mo), (1, .int w)]) hx hb dX4_sum_20 rfl hl (by decide) rfl (fun ls hl => ?_)
        refine lv_iinc (v := i + 1) (lv' := [(3, .int (i + 1)), (2, .int (u + (M 0 (w + i).toNatClampNeg))), (0, .ref mo), (1, .int w)]) hx hb dX4_sum_21 hl (k := 1) rfl rfl (by decide) rfl (fun ls hl => ?_)
        refine lv_goto (tgt := 4) hx hb dX4_sum_24 (by decide) ?_
        exact ih_4 (k_4 + 1) (i + 1) (u + (M 0 (w + i).toNatClampNeg)) _ _ _ (by omega) (by omega) (by rw [ex_4]; exact nI_1 k_4)  hP hD hS (lv_sub hl [0, 1, 2, 3] rfl) (by rw [L_X4_sum_4, if_neg c_1] at hR_4; exact hR_4)
  exact loop_4 10 0 0 0 _ _ _ (by omega) (Nat.zero_le _) nI_0.symm  hP hD hS (lv_sub hl [0, 1, 2, 3] rfl) rfl
def D_X4_isNew (M : Nat → Nat → Int32) (a : Int32) (b : Int32) : (Int32) := if (D_X4_isThere M a) = 0 then 0 else (if (D_X4_isThere M b) = 0 then 0 else (if (M 0 (150 + (D_X4_pairAt a b)).toNatClampNeg) = 0 then 1 else 0))
set_option maxRecDepth 100000 in
theorem in_X4_isNew_RX4 : ∀ w ∈ u_ws RX4 TX4 13, w ∈ wsX4_isNew := by decide +kernel
set_option maxHeartbeats 4000000 in
set_option maxRecDepth 100000 in
theorem c_X4_isNew (l : Launch) (D : va_G) (Y : YY) (sz : Nat) (q : Nat → Nat) (M : Nat → Nat → Int32) (mo : Nat) (a : Int32) (b : Int32) (h_a : vp_in a 9) (h_b : vp_in b 9) : Met l yX4_isNew wsX4_isNew ({ frames := 1, cells := 0, slots := 0, locals := 21 } : Room) (va_Pc [.ref mo, .int a, .int b] (Pst D Y sz (wM Y mo q M))) ((fun A : Nat → Prop => Qsi D (fun r9 w9 => r9 = D_X4_isNew M a b ∧ w9 = wM Y mo q M) A) (va_A (wM Y mo q M) sz)) 0 0 (va_A (wM Y mo q M) sz) := by
  refine ct_in (cc := cX4_isNew) (maxL := 3) (ret := (some .boolean)) (Qc := fun A : Nat → Prop => Qsi D (fun r9 w9 => r9 = D_X4_isNew M a b ∧ w9 = wM Y mo q M) A) (by decide +kernel) rfl (Nat.le_of_ble_eq_true rfl) ?_
  intro p e s m below meth c A ls hx hb hr hts hown hml hlk hin hsz hA hP hD hK hS hl
  have hown : s.vm.findClass RX4 = some m.cls := hown
  have hl : lv_has ls 3 [(0, .ref mo), (1, .int a), (2, .int b)] := hl
  show W p l e ({ frames := 1, cells := 0, slots := 0, locals := 21 } : Room) s m ([.ref mo, .int a, .int b] : List Value).toArray below meth c s.heap [] 0 0 (MQ below (Qsi D (fun r9 w9 => r9 = D_X4_isNew M a b ∧ w9 = wM Y mo q M) A) ([.ref mo, .int a, .int b] : List Value).toArray s 0 0 A) (F0 m 0 ls [])
  refine lv_aload_n hx hb dX4_isNew_0 rfl (lv_at hl 0 rfl) ?_
  refine lv_iload_n hx hb dX4_isNew_1 rfl (lv_at hl 1 rfl) ?_
  refine ck_iD (wr := ([] : va_W)) (ws' := wM Y mo q M) (va_runV (As := [.int a]) (rest := []) ⟨hx, hb, hml, hown, hts⟩ (c_X4_isThere l D Y s.heap.size q M mo a h_a) (cwV 1 hts gX4_isNew_X4_isThere rfl rfl rfl (by decide +kernel) ⟨Nat.le_of_ble_eq_true rfl, Nat.le_of_ble_eq_true rfl⟩) (pst_V hK hP hD [0, 1, 2, 3, 4, 5, 6, 7, 8, 9] rfl (by decide) (q0 := 0) rfl rfl) rfl rfl hl.1 rfl (lv_room (Nat.le_of_ble_eq_true rfl)) dX4_isNew_2 ⟨Nat.zero_le _, Nat.zero_le _⟩) hP hD hS hA [0, 1, 2, 3, 4, 5, 6, 7, 8, 9] [] [0, 1, 2, 3, 4, 5, 6, 7, 8, 9] rfl rfl (by decide) (by decide) rfl (by decide) (fun H locs hP hD hS => ?_)
  refine lv_if_eq (tgt := 37) hx hb dX4_isNew_5 (by decide) (fun c_1 => ?_) (fun c_1 => ?_)
  · refine lv_iconst (v := 0) hx hb dX4_isNew_37 (by decide) ?_
    have e9 : D_X4_isNew M a b = 0 := by rw [D_X4_isNew, if_pos c_1]
    exact ret_z hx hb hr rfl hlk hP hD hS dX4_isNew_38 ⟨Nat.zero_le _, Nat.zero_le _⟩ ⟨e9.symm, rfl⟩
  · refine lv_aload_n hx hb dX4_isNew_8 rfl (lv_at hl 0 rfl) ?_
    refine lv_iload_n hx hb dX4_isNew_9 rfl (lv_at hl 2 rfl) ?_
    refine ck_iD (wr := ([] : va_W)) (ws' := wM Y mo q M) (va_runV (As := [.int b]) (rest := []) ⟨hx, hb, hml, hown, hts⟩ (c_X4_isThere l D Y H.size q M mo b h_b) (cwV 1 hts gX4_isNew_X4_isThere rfl rfl rfl (by decide +kernel) ⟨Nat.le_of_ble_eq_true rfl, Nat.le_of_ble_eq_true rfl⟩) (pst_V hK hP hD [0, 1, 2, 3, 4, 5, 6, 7, 8, 9] rfl (by decide) (q0 := 0) rfl rfl) rfl rfl hl.1 rfl (lv_room (Nat.le_of_ble_eq_true rfl)) dX4_isNew_10 ⟨Nat.zero_le _, Nat.zero_le _⟩) hP hD hS hA [0, 1, 2, 3, 4, 5, 6, 7, 8, 9] [] [0, 1, 2, 3, 4, 5, 6, 7, 8, 9] rfl rfl (by decide) (by decide) rfl (by decide) (fun H locs hP hD hS => ?_)
    refine lv_if_eq (tgt := 37) hx hb dX4_isNew_13 (by decide) (fun c_2 => ?_) (fun c_2 => ?_)
    · refine lv_iconst (v := 0) hx hb dX4_isNew_37 (by decide) ?_
      have e9 : D_X4_isNew M a b = 0 := by rw [D_X4_isNew, if_neg c_1, if_pos c_2]
      exact ret_z hx hb hr rfl hlk hP hD hS dX4_isNew_38 ⟨Nat.zero_le _, Nat.zero_le _⟩ ⟨e9.symm, rfl⟩
    · refine lv_aload_n hx hb dX4_isNew_16 rfl (lv_at hl 0 rfl) ?_
      refine va_get (D := D) (ci := 4) (v := .ref (q 0)) (C := RX4) (T := TX4) (N := 13) hx hb hts in_X4_isNew_RX4 hown hK.1 hP 0 rfl rfl 0 (by decide) (hts (.fieldLink RX4 7 "NineDancersModel" "all" "[I") (by decide +kernel)) (fun _ h9 => h9) rfl dX4_isNew_17 ?_
      refine lv_sipush (v := 150) hx hb dX4_isNew_20 (by decide) ?_
      refine lv_iload_n hx hb dX4_isNew_23 rfl (lv_at hl 1 rfl) ?_
      refine lv_iload_n hx hb dX4_isNew_24 rfl (lv_at hl 2 rfl) ?_
      refine ck_iD (wr := wM Y mo q M) (ws' := wM Y mo q M) (va_runS (As := [.int a, .int b]) (rest := [.int 150, .ref (q 0)]) ⟨hx, hb, hml, hown, hts⟩ (c_X4_pairAt l D Y H.size a b) (va_cwS 2 hts gX4_isNew_X4_pairAt rfl rfl rfl (by decide +kernel) ⟨Nat.le_of_ble_eq_true rfl, Nat.le_of_ble_eq_true rfl⟩) (pst_S hK hP hD [] rfl (by decide)) rfl rfl hl.1 rfl (lv_room (Nat.le_of_ble_eq_true rfl)) dX4_isNew_25 ⟨Nat.zero_le _, Nat.zero_le _⟩) hP hD hS hA [] [0, 1, 2, 3, 4, 5, 6, 7, 8, 9] [0, 1, 2, 3, 4, 5, 6, 7, 8, 9] rfl rfl (by decide) (by decide) rfl (by decide) (fun H locs hP hD hS => ?_)
      refine lv_iadd hx hb dX4_isNew_28 ?_
      refine va_iald (D := D) hx hb hK.1 hP 1 0 rfl rfl (my_wid (my_off 150 (in_pairAt h_a h_b) (Nat.le_refl _) (by decide)) (by decide) (by decide)) dX4_isNew_29 ?_
      refine lv_if_ne (tgt := 37) hx hb dX4_isNew_30 (by decide) (fun c_3 => ?_) (fun c_3 => ?_)
      · refine lv_iconst (v := 0) hx hb dX4_isNew_37 (by decide) ?_
        have e9 : D_X4_isNew M a b = 0 := by rw [D_X4_isNew, if_neg c_1, if_neg c_2, if_neg c_3]
        exact ret_z hx hb hr rfl hlk hP hD hS dX4_isNew_38 ⟨Nat.zero_le _, Nat.zero_le _⟩ ⟨e9.symm, rfl⟩
      · refine lv_iconst (v := 1) hx hb dX4_isNew_33 (by decide) ?_
        refine lv_goto (tgt := 38) hx hb dX4_isNew_34 (by decide) ?_
        have e9 : D_X4_isNew M a b = 1 := by rw [D_X4_isNew, if_neg c_1, if_neg c_2, if_pos c_3]
        exact ret_z hx hb hr rfl hlk hP hD hS dX4_isNew_38 ⟨Nat.zero_le _, Nat.zero_le _⟩ ⟨e9.symm, rfl⟩
theorem z_X4_isNew (M : Nat → Nat → Int32) (a : Int32) (b : Int32) : D_X4_isNew M a b = 0 ∨ D_X4_isNew M a b = 1 := by unfold D_X4_isNew; (repeat' split) <;> simp
def L_X4_newPairs_14 (M : Nat → Nat → Int32) (i : Int32) (u : Int32) : Nat → (Int32) → (Int32) → (Int32)
  | 0, j, u1 => u1
  | n_14 + 1, j, u1 => if 9 ≤ j then u1 else (if (D_X4_isNew M i j) = 0 then (L_X4_newPairs_14 M i u n_14 (j + 1) (u1 + 0)) else (L_X4_newPairs_14 M i u n_14 (j + 1) (u1 + 1)))
def L_X4_newPairs_4 (M : Nat → Nat → Int32) : Nat → (Int32) → (Int32) → (Int32)
  | 0, i, u => u
  | n_4 + 1, i, u => if 9 ≤ i then u else (L_X4_newPairs_4 M n_4 (i + 1) (L_X4_newPairs_14 M i u 10 (i + 1) u))
def D_X4_newPairs (M : Nat → Nat → Int32)  : (Int32) := (L_X4_newPairs_4 M 10 0 0)
set_option maxHeartbeats 4000000 in
set_option maxRecDepth 100000 in
theorem c_X4_newPairs (l : Launch) (D : va_G) (Y : YY) (sz : Nat) (q : Nat → Nat) (M : Nat → Nat → Int32) (mo : Nat) : Met l yX4_newPairs wsX4_newPairs ({ frames := 2, cells := 0, slots := 0, locals := 43 } : Room) (va_Pc [.ref mo] (Pst D Y sz (wM Y mo q M))) ((fun A : Nat → Prop => Qsi D (fun r9 w9 => r9 = D_X4_newPairs M ∧ w9 = wM Y mo q M) A) (va_A (wM Y mo q M) sz)) 0 0 (va_A (wM Y mo q M) sz) := by
  refine ct_in (cc := cX4_newPairs) (maxL := 4) (ret := (some .int)) (Qc := fun A : Nat → Prop => Qsi D (fun r9 w9 => r9 = D_X4_newPairs M ∧ w9 = wM Y mo q M) A) (by decide +kernel) rfl (Nat.le_of_ble_eq_true rfl) ?_
  intro p e s m below meth c A ls hx hb hr hts hown hml hlk hin hsz hA hP hD hK hS hl
  have hown : s.vm.findClass RX4 = some m.cls := hown
  have hl : lv_has ls 4 [(0, .ref mo)] := hl
  show W p l e ({ frames := 2, cells := 0, slots := 0, locals := 43 } : Room) s m ([.ref mo] : List Value).toArray below meth c s.heap [] 0 0 (MQ below (Qsi D (fun r9 w9 => r9 = D_X4_newPairs M ∧ w9 = wM Y mo q M) A) ([.ref mo] : List Value).toArray s 0 0 A) (F0 m 0 ls [])
  refine lv_iconst (v := 0) hx hb dX4_newPairs_0 (by decide) ?_
  refine lv_istore_n (lv' := [(1, .int 0), (0, .ref mo)]) hx hb dX4_newPairs_1 rfl hl (by decide) rfl (fun ls hl => ?_)
  refine lv_iconst (v := 0) hx hb dX4_newPairs_2 (by decide) ?_
  refine lv_istore_n (lv' := [(2, .int 0), (1, .int 0), (0, .ref mo)]) hx hb dX4_newPairs_3 rfl hl (by decide) rfl (fun ls hl => ?_)
  have loop_4 : ∀ (n_4 k_4 : Nat) (i : Int32) (u : Int32) (H : Heap) (locs : List Loc) (ls : Array Slot), 10 ≤ k_4 + n_4 → k_4 ≤ 9 → i = nI k_4 → va_P D vwCl (wM Y mo q M) H → va_D A (wM Y mo q M) → va_S A s.heap H locs → lv_has ls 4 [(2, .int i), (1, .int u), (0, .ref mo)] → L_X4_newPairs_4 M n_4 i u = L_X4_newPairs_4 M 10 0 0 → W p l e ({ frames := 2, cells := 0, slots := 0, locals := 43 } : Room) s m ([.ref mo] : List Value).toArray below meth c H locs 0 0 (MQ below (Qsi D (fun r9 w9 => r9 = D_X4_newPairs M ∧ w9 = wM Y mo q M) A) ([.ref mo] : List Value).toArray s 0 0 A) (F0 m 4 ls []) := by
    intro n_4
    induction n_4 with
    | zero => intro k_4 i u H locs ls hkf hkN_4 ex_4 hP hD hS hl hR_4; exact absurd hkf (by omega)
    | succ n_4 ih_4 =>
      intro k_4 i u H locs ls hkf hkN_4 ex_4 hP hD hS hl hR_4
      refine lv_iload_n hx hb dX4_newPairs_4 rfl (lv_at hl 0 rfl) ?_
      refine lv_bipush (v := 9) hx hb dX4_newPairs_5 (by decide) ?_
      refine lv_icmp_ge (tgt := 49) hx hb dX4_newPairs_7 (by decide) (fun c_1 => ?_) (fun c_1 => ?_)
      · have e8 : L_X4_newPairs_4 M (n_4 + 1) i u = u := by rw [L_X4_newPairs_4, if_pos c_1]
        have e8 := hR_4.symm.trans e8
        have eu : L_X4_newPairs_4 M 10 0 0 = u := by rw [e8]
        clear e8 hR_4 ih_4
        refine lv_iload_n hx hb dX4_newPairs_49 rfl (lv_at hl 1 rfl) ?_
        subst eu
        have e9 : D_X4_newPairs M = (L_X4_newPairs_4 M 10 0 0) := by rw [D_X4_newPairs]
        exact ret_i hx hb hr hlk hP hD hS dX4_newPairs_50 ⟨Nat.zero_le _, Nat.zero_le _⟩ ⟨e9.symm, rfl⟩
      · have hk_4 := my_lt ex_4 (show (9 : Int32) = nI 9 from rfl) (by decide) hkN_4 c_1
        refine lv_iload_n hx hb dX4_newPairs_10 rfl (lv_at hl 0 rfl) ?_
        refine lv_iconst (v := 1) hx hb dX4_newPairs_11 (by decide) ?_
        refine lv_iadd hx hb dX4_newPairs_12 ?_
        refine lv_istore_n (lv' := [(3, .int (i + 1)), (2, .int i), (1, .int u), (0, .ref mo)]) hx hb dX4_newPairs_13 rfl hl (by decide) rfl (fun ls hl => ?_)
        have loop_14 : ∀ (n_14 k_14 : Nat) (j : Int32) (u1 : Int32) (H : Heap) (locs : List Loc) (ls : Array Slot), 10 ≤ k_14 + n_14 → k_14 ≤ 9 → j = nI k_14 → va_P D vwCl (wM Y mo q M) H → va_D A (wM Y mo q M) → va_S A s.heap H locs → lv_has ls 4 [(3, .int j), (2, .int i), (1, .int u1), (0, .ref mo)] → L_X4_newPairs_14 M i u n_14 j u1 = L_X4_newPairs_14 M i u 10 (i + 1) u → W p l e ({ frames := 2, cells := 0, slots := 0, locals := 43 } : Room) s m ([.ref mo] : List Value).toArray below meth c H locs 0 0 (MQ below (Qsi D (fun r9 w9 => r9 = D_X4_newPairs M ∧ w9 = wM Y mo q M) A) ([.ref mo] : List Value).toArray s 0 0 A) (F0 m 14 ls []) := by
          intro n_14
          induction n_14 with
          | zero => intro k_14 j u1 H locs ls hkf hkN_14 ex_14 hP hD hS hl hR_14; exact absurd hkf (by omega)
          | succ n_14 ih_14 =>
            intro k_14 j u1 H locs ls hkf hkN_14 ex_14 hP hD hS hl hR_14
            refine lv_iload_n hx hb dX4_newPairs_14 rfl (lv_at hl 0 rfl) ?_
            refine lv_bipush (v := 9) hx hb dX4_newPairs_15 (by decide) ?_
            refine lv_icmp_ge (tgt := 43) hx hb dX4_newPairs_17 (by decide) (fun c_2 => ?_) (fun c_2 => ?_)
            · have e8 : L_X4_newPairs_14 M i u (n_14 + 1) j u1 = u1 := by rw [L_X4_newPairs_14, if_pos c_2]
              have e8 := hR_14.symm.trans e8
              have eu1 : L_X4_newPairs_14 M i u 10 (i + 1) u = u1 := by rw [e8]
              clear e8 hR_14 ih_14
              refine lv_iinc (v := i + 1) (lv' := [(2, .int (i + 1)), (3, .int j), (1, .int u1), (0, .ref mo)]) hx hb dX4_newPairs_43 hl (k := 1) rfl rfl (by decide) rfl (fun ls hl => ?_)
              refine lv_goto (tgt := 4) hx hb dX4_newPairs_46 (by decide) ?_
              subst eu1
              exact ih_4 (k_4 + 1) (i + 1) (L_X4_newPairs_14 M i u 10 (i + 1) u) _ _ _ (by omega) (by omega) (by rw [ex_4]; exact nI_1 k_4)  hP hD hS (lv_sub hl [0, 2, 3] rfl) (by rw [L_X4_newPairs_4, if_neg c_1] at hR_4; exact hR_4)
            · have hk_14 := my_lt ex_14 (show (9 : Int32) = nI 9 from rfl) (by decide) hkN_14 c_2
              refine lv_iload_n hx hb dX4_newPairs_20 rfl (lv_at hl 2 rfl) ?_
              refine lv_aload_n hx hb dX4_newPairs_21 rfl (lv_at hl 3 rfl) ?_
              refine lv_iload_n hx hb dX4_newPairs_22 rfl (lv_at hl 1 rfl) ?_
              refine lv_iload_n hx hb dX4_newPairs_23 rfl (lv_at hl 0 rfl) ?_
              refine ck_iD (wr := ([] : va_W)) (ws' := wM Y mo q M) (va_runV (As := [.int i, .int j]) (rest := [.int u1]) ⟨hx, hb, hml, hown, hts⟩ (c_X4_isNew l D Y H.size q M mo i j (by rw [ex_4]; exact vp_in_nI hk_4 (by decide)) (by rw [ex_14]; exact vp_in_nI hk_14 (by decide))) (cwV 2 hts gX4_newPairs_X4_isNew rfl rfl rfl (by decide +kernel) ⟨Nat.le_of_ble_eq_true rfl, Nat.le_of_ble_eq_true rfl⟩) (pst_V hK hP hD [0, 1, 2, 3, 4, 5, 6, 7, 8, 9] rfl (by decide) (q0 := 0) rfl rfl) rfl rfl hl.1 rfl (lv_room (Nat.le_of_ble_eq_true rfl)) dX4_newPairs_24 ⟨Nat.zero_le _, Nat.zero_le _⟩) hP hD hS hA [0, 1, 2, 3, 4, 5, 6, 7, 8, 9] [] [0, 1, 2, 3, 4, 5, 6, 7, 8, 9] rfl rfl (by decide) (by decide) rfl (by decide) (fun H locs hP hD hS => ?_)
              refine lv_if_eq (tgt := 34) hx hb dX4_newPairs_27 (by decide) (fun c_3 => ?_) (fun c_3 => ?_)
              · refine lv_iconst (v := 0) hx hb dX4_newPairs_34 (by decide) ?_
                refine lv_iadd hx hb dX4_newPairs_35 ?_
                refine lv_istore_n (lv' := [(1, .int (u1 + 0)), (3, .int j), (2, .int i), (0, .ref mo)]) hx hb dX4_newPairs_36 rfl hl (by decide) rfl (fun ls hl => ?_)
                refine lv_iinc (v := j + 1) (lv' := [(3, .int (j + 1)), (1, .int (u1 + 0)), (2, .int i), (0, .ref mo)]) hx hb dX4_newPairs_37 hl (k := 1) rfl rfl (by decide) rfl (fun ls hl => ?_)
                refine lv_goto (tgt := 14) hx hb dX4_newPairs_40 (by decide) ?_
                exact ih_14 (k_14 + 1) (j + 1) (u1 + 0) _ _ _ (by omega) (by omega) (by rw [ex_14]; exact nI_1 k_14)  hP hD hS (lv_sub hl [0, 2, 1, 3] rfl) (by rw [L_X4_newPairs_14, if_neg c_2, if_pos c_3] at hR_14; exact hR_14)
              · refine lv_iconst (v := 1) hx hb dX4_newPairs_30 (by decide) ?_
                refine lv_goto (tgt := 35) hx hb dX4_newPairs_31 (by decide) ?_
                refine lv_iadd hx hb dX4_newPairs_35 ?_
                refine lv_istore_n (lv' := [(1, .int (u1 + 1)), (3, .int j), (2, .int i), (0, .ref mo)]) hx hb dX4_newPairs_36 rfl hl (by decide) rfl (fun ls hl => ?_)
                refine lv_iinc (v := j + 1) (lv' := [(3, .int (j + 1)), (1, .int (u1 + 1)), (2, .int i), (0, .ref mo)]) hx hb dX4_newPairs_37 hl (k := 1) rfl rfl (by decide) rfl (fun ls hl => ?_)
                refine lv_goto (tgt := 14) hx hb dX4_newPairs_40 (by decide) ?_
                exact ih_14 (k_14 + 1) (j + 1) (u1 + 1) _ _ _ (by omega) (by omega) (by rw [ex_14]; exact nI_1 k_14)  hP hD hS (lv_sub hl [0, 2, 1, 3] rfl) (by rw [L_X4_newPairs_14, if_neg c_2, if_neg c_3] at hR_14; exact hR_14)
        exact loop_14 10 (k_4 + 1) (i + 1) u _ _ _ (by omega) (by omega) (by rw [ex_4]; exact nI_1 k_4)  hP hD hS (lv_sub hl [0, 1, 2, 3] rfl) rfl
  exact loop_4 10 0 0 0 _ _ _ (by omega) (Nat.zero_le _) nI_0.symm  hP hD hS (lv_sub hl [0, 1, 2] rfl) rfl
def L_X4_metBy_4 (M : Nat → Nat → Int32) (v : Int32) : Nat → (Int32) → (Int32) → (Int32)
  | 0, i, u => u
  | n_4 + 1, i, u => if 9 ≤ i then u else (if (M 0 (150 + (D_X4_pairAt v i)).toNatClampNeg) ≤ 0 then (L_X4_metBy_4 M v n_4 (i + 1) (u ||| 0)) else (L_X4_metBy_4 M v n_4 (i + 1) (u ||| (1 <<< (i &&& 31)))))
def D_X4_metBy (M : Nat → Nat → Int32) (v : Int32) : (Int32) := (L_X4_metBy_4 M v 10 0 0)
set_option maxRecDepth 100000 in
theorem in_X4_metBy_RX4 : ∀ w ∈ u_ws RX4 TX4 13, w ∈ wsX4_metBy := by decide +kernel
set_option maxHeartbeats 4000000 in
set_option maxRecDepth 100000 in
theorem c_X4_metBy (l : Launch) (D : va_G) (Y : YY) (sz : Nat) (q : Nat → Nat) (M : Nat → Nat → Int32) (mo : Nat) (v : Int32) (h_v : vp_in v 9) : Met l yX4_metBy wsX4_metBy ({ frames := 1, cells := 0, slots := 0, locals := 21 } : Room) (va_Pc [.ref mo, .int v] (Pst D Y sz (wM Y mo q M))) ((fun A : Nat → Prop => Qsi D (fun r9 w9 => r9 = D_X4_metBy M v ∧ w9 = wM Y mo q M) A) (va_A (wM Y mo q M) sz)) 0 0 (va_A (wM Y mo q M) sz) := by
  refine ct_in (cc := cX4_metBy) (maxL := 4) (ret := (some .int)) (Qc := fun A : Nat → Prop => Qsi D (fun r9 w9 => r9 = D_X4_metBy M v ∧ w9 = wM Y mo q M) A) (by decide +kernel) rfl (Nat.le_of_ble_eq_true rfl) ?_
  intro p e s m below meth c A ls hx hb hr hts hown hml hlk hin hsz hA hP hD hK hS hl
  have hown : s.vm.findClass RX4 = some m.cls := hown
  have hl : lv_has ls 4 [(0, .ref mo), (1, .int v)] := hl
  show W p l e ({ frames := 1, cells := 0, slots := 0, locals := 21 } : Room) s m ([.ref mo, .int v] : List Value).toArray below meth c s.heap [] 0 0 (MQ below (Qsi D (fun r9 w9 => r9 = D_X4_metBy M v ∧ w9 = wM Y mo q M) A) ([.ref mo, .int v] : List Value).toArray s 0 0 A) (F0 m 0 ls [])
  refine lv_iconst (v := 0) hx hb dX4_metBy_0 (by decide) ?_
  refine lv_istore_n (lv' := [(2, .int 0), (0, .ref mo), (1, .int v)]) hx hb dX4_metBy_1 rfl hl (by decide) rfl (fun ls hl => ?_)
  refine lv_iconst (v := 0) hx hb dX4_metBy_2 (by decide) ?_
  refine lv_istore_n (lv' := [(3, .int 0), (2, .int 0), (0, .ref mo), (1, .int v)]) hx hb dX4_metBy_3 rfl hl (by decide) rfl (fun ls hl => ?_)
  have loop_4 : ∀ (n_4 k_4 : Nat) (i : Int32) (u : Int32) (H : Heap) (locs : List Loc) (ls : Array Slot), 10 ≤ k_4 + n_4 → k_4 ≤ 9 → i = nI k_4 → va_P D vwCl (wM Y mo q M) H → va_D A (wM Y mo q M) → va_S A s.heap H locs → lv_has ls 4 [(3, .int i), (2, .int u), (0, .ref mo), (1, .int v)] → L_X4_metBy_4 M v n_4 i u = L_X4_metBy_4 M v 10 0 0 → W p l e ({ frames := 1, cells := 0, slots := 0, locals := 21 } : Room) s m ([.ref mo, .int v] : List Value).toArray below meth c H locs 0 0 (MQ below (Qsi D (fun r9 w9 => r9 = D_X4_metBy M v ∧ w9 = wM Y mo q M) A) ([.ref mo, .int v] : List Value).toArray s 0 0 A) (F0 m 4 ls []) := by
    intro n_4
    induction n_4 with
    | zero => intro k_4 i u H locs ls hkf hkN_4 ex_4 hP hD hS hl hR_4; exact absurd hkf (by omega)
    | succ n_4 ih_4 =>
      intro k_4 i u H locs ls hkf hkN_4 ex_4 hP hD hS hl hR_4
      refine lv_iload_n hx hb dX4_metBy_4 rfl (lv_at hl 0 rfl) ?_
      refine lv_bipush (v := 9) hx hb dX4_metBy_5 (by decide) ?_
      refine lv_icmp_ge (tgt := 43) hx hb dX4_metBy_7 (by decide) (fun c_1 => ?_) (fun c_1 => ?_)
      · have e8 : L_X4_metBy_4 M v (n_4 + 1) i u = u := by rw [L_X4_metBy_4, if_pos c_1]
        have e8 := hR_4.symm.trans e8
        have eu : L_X4_metBy_4 M v 10 0 0 = u := by rw [e8]
        clear e8 hR_4 ih_4
        refine lv_iload_n hx hb dX4_metBy_43 rfl (lv_at hl 1 rfl) ?_
        subst eu
        have e9 : D_X4_metBy M v = (L_X4_metBy_4 M v 10 0 0) := by rw [D_X4_metBy]
        exact ret_i hx hb hr hlk hP hD hS dX4_metBy_44 ⟨Nat.zero_le _, Nat.zero_le _⟩ ⟨e9.symm, rfl⟩
      · have hk_4 := my_lt ex_4 (show (9 : Int32) = nI 9 from rfl) (by decide) hkN_4 c_1
        refine lv_iload_n hx hb dX4_metBy_10 rfl (lv_at hl 1 rfl) ?_
        refine lv_aload_n hx hb dX4_metBy_11 rfl (lv_at hl 2 rfl) ?_
        refine va_get (D := D) (ci := 4) (v := .ref (q 0)) (C := RX4) (T := TX4) (N := 13) hx hb hts in_X4_metBy_RX4 hown hK.1 hP 0 rfl rfl 0 (by decide) (hts (.fieldLink RX4 7 "NineDancersModel" "all" "[I") (by decide +kernel)) (fun _ h9 => h9) rfl dX4_metBy_12 ?_
        refine lv_sipush (v := 150) hx hb dX4_metBy_15 (by decide) ?_
        refine lv_iload_n hx hb dX4_metBy_18 rfl (lv_at hl 3 rfl) ?_
        refine lv_iload_n hx hb dX4_metBy_19 rfl (lv_at hl 0 rfl) ?_
        refine ck_iD (wr := wM Y mo q M) (ws' := wM Y mo q M) (va_runS (As := [.int v, .int i]) (rest := [.int 150, .ref (q 0), .int u]) ⟨hx, hb, hml, hown, hts⟩ (c_X4_pairAt l D Y H.size v i) (va_cwS 2 hts gX4_metBy_X4_pairAt rfl rfl rfl (by decide +kernel) ⟨Nat.le_of_ble_eq_true rfl, Nat.le_of_ble_eq_true rfl⟩) (pst_S hK hP hD [] rfl (by decide)) rfl rfl hl.1 rfl (lv_room (Nat.le_of_ble_eq_true rfl)) dX4_metBy_20 ⟨Nat.zero_le _, Nat.zero_le _⟩) hP hD hS hA [] [0, 1, 2, 3, 4, 5, 6, 7, 8, 9] [0, 1, 2, 3, 4, 5, 6, 7, 8, 9] rfl rfl (by decide) (by decide) rfl (by decide) (fun H locs hP hD hS => ?_)
        refine lv_iadd hx hb dX4_metBy_23 ?_
        refine va_iald (D := D) hx hb hK.1 hP 1 0 rfl rfl (my_wid (my_off 150 (in_pairAt h_v (by rw [ex_4]; exact vp_in_nI hk_4 (by decide))) (Nat.le_refl _) (by decide)) (by decide) (by decide)) dX4_metBy_24 ?_
        refine lv_if_le (tgt := 34) hx hb dX4_metBy_25 (by decide) (fun c_2 => ?_) (fun c_2 => ?_)
        · refine lv_iconst (v := 0) hx hb dX4_metBy_34 (by decide) ?_
          refine lv_ior hx hb dX4_metBy_35 ?_
          refine lv_istore_n (lv' := [(2, .int (u ||| 0)), (3, .int i), (0, .ref mo), (1, .int v)]) hx hb dX4_metBy_36 rfl hl (by decide) rfl (fun ls hl => ?_)
          refine lv_iinc (v := i + 1) (lv' := [(3, .int (i + 1)), (2, .int (u ||| 0)), (0, .ref mo), (1, .int v)]) hx hb dX4_metBy_37 hl (k := 1) rfl rfl (by decide) rfl (fun ls hl => ?_)
          refine lv_goto (tgt := 4) hx hb dX4_metBy_40 (by decide) ?_
          exact ih_4 (k_4 + 1) (i + 1) (u ||| 0) _ _ _ (by omega) (by omega) (by rw [ex_4]; exact nI_1 k_4)  hP hD hS (lv_sub hl [0, 1, 2, 3] rfl) (by rw [L_X4_metBy_4, if_neg c_1, if_pos c_2] at hR_4; exact hR_4)
        · refine lv_iconst (v := 1) hx hb dX4_metBy_28 (by decide) ?_
          refine lv_iload_n hx hb dX4_metBy_29 rfl (lv_at hl 0 rfl) ?_
          refine lv_ishl hx hb dX4_metBy_30 ?_
          refine lv_goto (tgt := 35) hx hb dX4_metBy_31 (by decide) ?_
          refine lv_ior hx hb dX4_metBy_35 ?_
          refine lv_istore_n (lv' := [(2, .int (u ||| (1 <<< (i &&& 31)))), (3, .int i), (0, .ref mo), (1, .int v)]) hx hb dX4_metBy_36 rfl hl (by decide) rfl (fun ls hl => ?_)
          refine lv_iinc (v := i + 1) (lv' := [(3, .int (i + 1)), (2, .int (u ||| (1 <<< (i &&& 31)))), (0, .ref mo), (1, .int v)]) hx hb dX4_metBy_37 hl (k := 1) rfl rfl (by decide) rfl (fun ls hl => ?_)
          refine lv_goto (tgt := 4) hx hb dX4_metBy_40 (by decide) ?_
          exact ih_4 (k_4 + 1) (i + 1) (u ||| (1 <<< (i &&& 31))) _ _ _ (by omega) (by omega) (by rw [ex_4]; exact nI_1 k_4)  hP hD hS (lv_sub hl [0, 1, 2, 3] rfl) (by rw [L_X4_metBy_4, if_neg c_1, if_neg c_2] at hR_4; exact hR_4)
  exact loop_4 10 0 0 0 _ _ _ (by omega) (Nat.zero_le _) nI_0.symm  hP hD hS (lv_sub hl [0, 1, 2, 3] rfl) rfl
def L_X4_mostOften_8 (M : Nat → Nat → Int32) (v : Int32) : Nat → (Int32) → (Int32) → (Int32) → (Int32) × (Int32)
  | 0, i, u, w => (u, w)
  | n_8 + 1, i, u, w => if 9 ≤ i then (u, w) else (if (M 0 (150 + (D_X4_pairAt v i)).toNatClampNeg) ≤ w then (if (M 0 (150 + (D_X4_pairAt v i)).toNatClampNeg) ≤ w then (L_X4_mostOften_8 M v n_8 (i + 1) u w) else (L_X4_mostOften_8 M v n_8 (i + 1) u (M 0 (150 + (D_X4_pairAt v i)).toNatClampNeg))) else (if (M 0 (150 + (D_X4_pairAt v i)).toNatClampNeg) ≤ w then (L_X4_mostOften_8 M v n_8 (i + 1) i w) else (L_X4_mostOften_8 M v n_8 (i + 1) i (M 0 (150 + (D_X4_pairAt v i)).toNatClampNeg))))
def D_X4_mostOften (M : Nat → Nat → Int32) (v : Int32) : (Int32) := ((L_X4_mostOften_8 M v 10 0 (-1000006) 0).1)
set_option maxRecDepth 100000 in
theorem in_X4_mostOften_RX4 : ∀ w ∈ u_ws RX4 TX4 13, w ∈ wsX4_mostOften := by decide +kernel
set_option maxHeartbeats 4000000 in
set_option maxRecDepth 100000 in
theorem c_X4_mostOften (l : Launch) (D : va_G) (Y : YY) (sz : Nat) (q : Nat → Nat) (M : Nat → Nat → Int32) (mo : Nat) (v : Int32) (h_v : vp_in v 9) : Met l yX4_mostOften wsX4_mostOften ({ frames := 1, cells := 0, slots := 0, locals := 21 } : Room) (va_Pc [.ref mo, .int v] (Pst D Y sz (wM Y mo q M))) ((fun A : Nat → Prop => Qsi D (fun r9 w9 => r9 = D_X4_mostOften M v ∧ w9 = wM Y mo q M) A) (va_A (wM Y mo q M) sz)) 0 0 (va_A (wM Y mo q M) sz) := by
  refine ct_in (cc := cX4_mostOften) (maxL := 6) (ret := (some .int)) (Qc := fun A : Nat → Prop => Qsi D (fun r9 w9 => r9 = D_X4_mostOften M v ∧ w9 = wM Y mo q M) A) (by decide +kernel) rfl (Nat.le_of_ble_eq_true rfl) ?_
  intro p e s m below meth c A ls hx hb hr hts hown hml hlk hin hsz hA hP hD hK hS hl
  have hown : s.vm.findClass RX4 = some m.cls := hown
  have hl : lv_has ls 6 [(0, .ref mo), (1, .int v)] := hl
  show W p l e ({ frames := 1, cells := 0, slots := 0, locals := 21 } : Room) s m ([.ref mo, .int v] : List Value).toArray below meth c s.heap [] 0 0 (MQ below (Qsi D (fun r9 w9 => r9 = D_X4_mostOften M v ∧ w9 = wM Y mo q M) A) ([.ref mo, .int v] : List Value).toArray s 0 0 A) (F0 m 0 ls [])
  refine lv_ldc (v := (-1000006)) hx hb hown (hts (.constant RX4 37 (-1000006)) (by decide +kernel)) dX4_mostOften_0 ?_
  refine lv_istore_n (lv' := [(2, .int (-1000006)), (0, .ref mo), (1, .int v)]) hx hb dX4_mostOften_2 rfl hl (by decide) rfl (fun ls hl => ?_)
  refine lv_iconst (v := 0) hx hb dX4_mostOften_3 (by decide) ?_
  refine lv_istore_n (lv' := [(3, .int 0), (2, .int (-1000006)), (0, .ref mo), (1, .int v)]) hx hb dX4_mostOften_4 rfl hl (by decide) rfl (fun ls hl => ?_)
  refine lv_iconst (v := 0) hx hb dX4_mostOften_5 (by decide) ?_
  refine lv_istore (lv' := [(4, .int 0), (3, .int 0), (2, .int (-1000006)), (0, .ref mo), (1, .int v)]) hx hb dX4_mostOften_6 hl (by decide) rfl (fun ls hl => ?_)
  have loop_8 : ∀ (n_8 k_8 : Nat) (i : Int32) (u : Int32) (w : Int32) (H : Heap) (locs : List Loc) (ls : Array Slot), 10 ≤ k_8 + n_8 → k_8 ≤ 9 → i = nI k_8 → va_P D vwCl (wM Y mo q M) H → va_D A (wM Y mo q M) → va_S A s.heap H locs → lv_has ls 6 [(4, .int i), (3, .int w), (2, .int u), (0, .ref mo), (1, .int v)] → L_X4_mostOften_8 M v n_8 i u w = L_X4_mostOften_8 M v 10 0 (-1000006) 0 → W p l e ({ frames := 1, cells := 0, slots := 0, locals := 21 } : Room) s m ([.ref mo, .int v] : List Value).toArray below meth c H locs 0 0 (MQ below (Qsi D (fun r9 w9 => r9 = D_X4_mostOften M v ∧ w9 = wM Y mo q M) A) ([.ref mo, .int v] : List Value).toArray s 0 0 A) (F0 m 8 ls []) := by
    intro n_8
    induction n_8 with
    | zero => intro k_8 i u w H locs ls hkf hkN_8 ex_8 hP hD hS hl hR_8; exact absurd hkf (by omega)
    | succ n_8 ih_8 =>
      intro k_8 i u w H locs ls hkf hkN_8 ex_8 hP hD hS hl hR_8
      refine lv_iload hx hb dX4_mostOften_8 (lv_at hl 0 rfl) ?_
      refine lv_bipush (v := 9) hx hb dX4_mostOften_10 (by decide) ?_
      refine lv_icmp_ge (tgt := 64) hx hb dX4_mostOften_12 (by decide) (fun c_1 => ?_) (fun c_1 => ?_)
      · have e8 : L_X4_mostOften_8 M v (n_8 + 1) i u w = (u, w) := by rw [L_X4_mostOften_8, if_pos c_1]
        have e8 := hR_8.symm.trans e8
        have eu : (L_X4_mostOften_8 M v 10 0 (-1000006) 0).1 = u := by rw [e8]
        have ew : (L_X4_mostOften_8 M v 10 0 (-1000006) 0).2 = w := by rw [e8]
        clear e8 hR_8 ih_8
        refine lv_iload_n hx hb dX4_mostOften_64 rfl (lv_at hl 2 rfl) ?_
        subst ew
        subst eu
        have e9 : D_X4_mostOften M v = ((L_X4_mostOften_8 M v 10 0 (-1000006) 0).1) := by rw [D_X4_mostOften]
        exact ret_i hx hb hr hlk hP hD hS dX4_mostOften_65 ⟨Nat.zero_le _, Nat.zero_le _⟩ ⟨e9.symm, rfl⟩
      · have hk_8 := my_lt ex_8 (show (9 : Int32) = nI 9 from rfl) (by decide) hkN_8 c_1
        refine lv_aload_n hx hb dX4_mostOften_15 rfl (lv_at hl 3 rfl) ?_
        refine va_get (D := D) (ci := 4) (v := .ref (q 0)) (C := RX4) (T := TX4) (N := 13) hx hb hts in_X4_mostOften_RX4 hown hK.1 hP 0 rfl rfl 0 (by decide) (hts (.fieldLink RX4 7 "NineDancersModel" "all" "[I") (by decide +kernel)) (fun _ h9 => h9) rfl dX4_mostOften_16 ?_
        refine lv_sipush (v := 150) hx hb dX4_mostOften_19 (by decide) ?_
        refine lv_iload_n hx hb dX4_mostOften_22 rfl (lv_at hl 4 rfl) ?_
        refine lv_iload hx hb dX4_mostOften_23 (lv_at hl 0 rfl) ?_
        refine ck_iD (wr := wM Y mo q M) (ws' := wM Y mo q M) (va_runS (As := [.int v, .int i]) (rest := [.int 150, .ref (q 0)]) ⟨hx, hb, hml, hown, hts⟩ (c_X4_pairAt l D Y H.size v i) (va_cwS 2 hts gX4_mostOften_X4_pairAt rfl rfl rfl (by decide +kernel) ⟨Nat.le_of_ble_eq_true rfl, Nat.le_of_ble_eq_true rfl⟩) (pst_S hK hP hD [] rfl (by decide)) rfl rfl hl.1 rfl (lv_room (Nat.le_of_ble_eq_true rfl)) dX4_mostOften_25 ⟨Nat.zero_le _, Nat.zero_le _⟩) hP hD hS hA [] [0, 1, 2, 3, 4, 5, 6, 7, 8, 9] [0, 1, 2, 3, 4, 5, 6, 7, 8, 9] rfl rfl (by decide) (by decide) rfl (by decide) (fun H locs hP hD hS => ?_)
        refine lv_iadd hx hb dX4_mostOften_28 ?_
        refine va_iald (D := D) hx hb hK.1 hP 1 0 rfl rfl (my_wid (my_off 150 (in_pairAt h_v (by rw [ex_8]; exact vp_in_nI hk_8 (by decide))) (Nat.le_refl _) (by decide)) (by decide) (by decide)) dX4_mostOften_29 ?_
        refine lv_istore (lv' := [(5, .int (M 0 (150 + (D_X4_pairAt v i)).toNatClampNeg)), (4, .int i), (3, .int w), (2, .int u), (0, .ref mo), (1, .int v)]) hx hb dX4_mostOften_30 hl (by decide) rfl (fun ls hl => ?_)
        refine lv_iload hx hb dX4_mostOften_32 (lv_at hl 0 rfl) ?_
        refine lv_iload_n hx hb dX4_mostOften_34 rfl (lv_at hl 2 rfl) ?_
        refine lv_icmp_le (tgt := 43) hx hb dX4_mostOften_35 (by decide) (fun c_2 => ?_) (fun c_2 => ?_)
        · refine lv_iload_n hx hb dX4_mostOften_43 rfl (lv_at hl 3 rfl) ?_
          refine lv_istore_n (lv' := [(2, .int u), (5, .int (M 0 (150 + (D_X4_pairAt v i)).toNatClampNeg)), (4, .int i), (3, .int w), (0, .ref mo), (1, .int v)]) hx hb dX4_mostOften_44 rfl hl (by decide) rfl (fun ls hl => ?_)
          refine lv_iload hx hb dX4_mostOften_45 (lv_at hl 1 rfl) ?_
          refine lv_iload_n hx hb dX4_mostOften_47 rfl (lv_at hl 3 rfl) ?_
          refine lv_icmp_le (tgt := 56) hx hb dX4_mostOften_48 (by decide) (fun c_3 => ?_) (fun c_3 => ?_)
          · refine lv_iload_n hx hb dX4_mostOften_56 rfl (lv_at hl 3 rfl) ?_
            refine lv_istore_n (lv' := [(3, .int w), (2, .int u), (5, .int (M 0 (150 + (D_X4_pairAt v i)).toNatClampNeg)), (4, .int i), (0, .ref mo), (1, .int v)]) hx hb dX4_mostOften_57 rfl hl (by decide) rfl (fun ls hl => ?_)
            refine lv_iinc (v := i + 1) (lv' := [(4, .int (i + 1)), (3, .int w), (2, .int u), (5, .int (M 0 (150 + (D_X4_pairAt v i)).toNatClampNeg)), (0, .ref mo), (1, .int v)]) hx hb dX4_mostOften_58 hl (k := 3) rfl rfl (by decide) rfl (fun ls hl => ?_)
            refine lv_goto (tgt := 8) hx hb dX4_mostOften_61 (by decide) ?_
            exact ih_8 (k_8 + 1) (i + 1) u w _ _ _ (by omega) (by omega) (by rw [ex_8]; exact nI_1 k_8)  hP hD hS (lv_sub hl [0, 1, 2, 4, 5] rfl) (by rw [L_X4_mostOften_8, if_neg c_1, if_pos c_2, if_pos c_3] at hR_8; exact hR_8)
          · refine lv_iload hx hb dX4_mostOften_51 (lv_at hl 1 rfl) ?_
            refine lv_goto (tgt := 57) hx hb dX4_mostOften_53 (by decide) ?_
            refine lv_istore_n (lv' := [(3, .int (M 0 (150 + (D_X4_pairAt v i)).toNatClampNeg)), (2, .int u), (5, .int (M 0 (150 + (D_X4_pairAt v i)).toNatClampNeg)), (4, .int i), (0, .ref mo), (1, .int v)]) hx hb dX4_mostOften_57 rfl hl (by decide) rfl (fun ls hl => ?_)
            refine lv_iinc (v := i + 1) (lv' := [(4, .int (i + 1)), (3, .int (M 0 (150 + (D_X4_pairAt v i)).toNatClampNeg)), (2, .int u), (5, .int (M 0 (150 + (D_X4_pairAt v i)).toNatClampNeg)), (0, .ref mo), (1, .int v)]) hx hb dX4_mostOften_58 hl (k := 3) rfl rfl (by decide) rfl (fun ls hl => ?_)
            refine lv_goto (tgt := 8) hx hb dX4_mostOften_61 (by decide) ?_
            exact ih_8 (k_8 + 1) (i + 1) u (M 0 (150 + (D_X4_pairAt v i)).toNatClampNeg) _ _ _ (by omega) (by omega) (by rw [ex_8]; exact nI_1 k_8)  hP hD hS (lv_sub hl [0, 1, 2, 4, 5] rfl) (by rw [L_X4_mostOften_8, if_neg c_1, if_pos c_2, if_neg c_3] at hR_8; exact hR_8)
        · refine lv_iload hx hb dX4_mostOften_38 (lv_at hl 1 rfl) ?_
          refine lv_goto (tgt := 44) hx hb dX4_mostOften_40 (by decide) ?_
          refine lv_istore_n (lv' := [(2, .int i), (5, .int (M 0 (150 + (D_X4_pairAt v i)).toNatClampNeg)), (4, .int i), (3, .int w), (0, .ref mo), (1, .int v)]) hx hb dX4_mostOften_44 rfl hl (by decide) rfl (fun ls hl => ?_)
          refine lv_iload hx hb dX4_mostOften_45 (lv_at hl 1 rfl) ?_
          refine lv_iload_n hx hb dX4_mostOften_47 rfl (lv_at hl 3 rfl) ?_
          refine lv_icmp_le (tgt := 56) hx hb dX4_mostOften_48 (by decide) (fun c_4 => ?_) (fun c_4 => ?_)
          · refine lv_iload_n hx hb dX4_mostOften_56 rfl (lv_at hl 3 rfl) ?_
            refine lv_istore_n (lv' := [(3, .int w), (2, .int i), (5, .int (M 0 (150 + (D_X4_pairAt v i)).toNatClampNeg)), (4, .int i), (0, .ref mo), (1, .int v)]) hx hb dX4_mostOften_57 rfl hl (by decide) rfl (fun ls hl => ?_)
            refine lv_iinc (v := i + 1) (lv' := [(4, .int (i + 1)), (3, .int w), (2, .int i), (5, .int (M 0 (150 + (D_X4_pairAt v i)).toNatClampNeg)), (0, .ref mo), (1, .int v)]) hx hb dX4_mostOften_58 hl (k := 3) rfl rfl (by decide) rfl (fun ls hl => ?_)
            refine lv_goto (tgt := 8) hx hb dX4_mostOften_61 (by decide) ?_
            exact ih_8 (k_8 + 1) (i + 1) i w _ _ _ (by omega) (by omega) (by rw [ex_8]; exact nI_1 k_8)  hP hD hS (lv_sub hl [0, 1, 2, 4, 5] rfl) (by rw [L_X4_mostOften_8, if_neg c_1, if_neg c_2, if_pos c_4] at hR_8; exact hR_8)
          · refine lv_iload hx hb dX4_mostOften_51 (lv_at hl 1 rfl) ?_
            refine lv_goto (tgt := 57) hx hb dX4_mostOften_53 (by decide) ?_
            refine lv_istore_n (lv' := [(3, .int (M 0 (150 + (D_X4_pairAt v i)).toNatClampNeg)), (2, .int i), (5, .int (M 0 (150 + (D_X4_pairAt v i)).toNatClampNeg)), (4, .int i), (0, .ref mo), (1, .int v)]) hx hb dX4_mostOften_57 rfl hl (by decide) rfl (fun ls hl => ?_)
            refine lv_iinc (v := i + 1) (lv' := [(4, .int (i + 1)), (3, .int (M 0 (150 + (D_X4_pairAt v i)).toNatClampNeg)), (2, .int i), (5, .int (M 0 (150 + (D_X4_pairAt v i)).toNatClampNeg)), (0, .ref mo), (1, .int v)]) hx hb dX4_mostOften_58 hl (k := 3) rfl rfl (by decide) rfl (fun ls hl => ?_)
            refine lv_goto (tgt := 8) hx hb dX4_mostOften_61 (by decide) ?_
            exact ih_8 (k_8 + 1) (i + 1) i (M 0 (150 + (D_X4_pairAt v i)).toNatClampNeg) _ _ _ (by omega) (by omega) (by rw [ex_8]; exact nI_1 k_8)  hP hD hS (lv_sub hl [0, 1, 2, 4, 5] rfl) (by rw [L_X4_mostOften_8, if_neg c_1, if_neg c_2, if_neg c_4] at hR_8; exact hR_8)
  exact loop_8 10 0 0 (-1000006) 0 _ _ _ (by omega) (Nat.zero_le _) nI_0.symm  hP hD hS (lv_sub hl [0, 1, 2, 3, 4] rfl) rfl
def V_X4_thoseThere_1 (M : Nat → Nat → Int32) (i : Int32) (u : Int32) : Int32 := u ||| ((M 0 (15 + i).toNatClampNeg) <<< (i &&& 31))
def L_X4_thoseThere_4 (M : Nat → Nat → Int32) : Nat → (Int32) → (Int32) → (Int32)
  | 0, i, u => u
  | n_4 + 1, i, u => if 9 ≤ i then u else (L_X4_thoseThere_4 M n_4 (i + 1) (V_X4_thoseThere_1 M i u))
def D_X4_thoseThere (M : Nat → Nat → Int32)  : (Int32) := (L_X4_thoseThere_4 M 10 0 0)
set_option maxRecDepth 100000 in
theorem in_X4_thoseThere_RX4 : ∀ w ∈ u_ws RX4 TX4 13, w ∈ wsX4_thoseThere := by decide +kernel
set_option maxHeartbeats 4000000 in
set_option maxRecDepth 100000 in
theorem c_X4_thoseThere (l : Launch) (D : va_G) (Y : YY) (sz : Nat) (q : Nat → Nat) (M : Nat → Nat → Int32) (mo : Nat) : Met l yX4_thoseThere wsX4_thoseThere ({ frames := 0, cells := 0, slots := 0, locals := 0 } : Room) (va_Pc [.ref mo] (Pst D Y sz (wM Y mo q M))) ((fun A : Nat → Prop => Qsi D (fun r9 w9 => r9 = D_X4_thoseThere M ∧ w9 = wM Y mo q M) A) (va_A (wM Y mo q M) sz)) 0 0 (va_A (wM Y mo q M) sz) := by
  refine ct_in (cc := cX4_thoseThere) (maxL := 3) (ret := (some .int)) (Qc := fun A : Nat → Prop => Qsi D (fun r9 w9 => r9 = D_X4_thoseThere M ∧ w9 = wM Y mo q M) A) (by decide +kernel) rfl (Nat.le_of_ble_eq_true rfl) ?_
  intro p e s m below meth c A ls hx hb hr hts hown hml hlk hin hsz hA hP hD hK hS hl
  have hown : s.vm.findClass RX4 = some m.cls := hown
  have hl : lv_has ls 3 [(0, .ref mo)] := hl
  show W p l e ({ frames := 0, cells := 0, slots := 0, locals := 0 } : Room) s m ([.ref mo] : List Value).toArray below meth c s.heap [] 0 0 (MQ below (Qsi D (fun r9 w9 => r9 = D_X4_thoseThere M ∧ w9 = wM Y mo q M) A) ([.ref mo] : List Value).toArray s 0 0 A) (F0 m 0 ls [])
  refine lv_iconst (v := 0) hx hb dX4_thoseThere_0 (by decide) ?_
  refine lv_istore_n (lv' := [(1, .int 0), (0, .ref mo)]) hx hb dX4_thoseThere_1 rfl hl (by decide) rfl (fun ls hl => ?_)
  refine lv_iconst (v := 0) hx hb dX4_thoseThere_2 (by decide) ?_
  refine lv_istore_n (lv' := [(2, .int 0), (1, .int 0), (0, .ref mo)]) hx hb dX4_thoseThere_3 rfl hl (by decide) rfl (fun ls hl => ?_)
  have loop_4 : ∀ (n_4 k_4 : Nat) (i : Int32) (u : Int32) (H : Heap) (locs : List Loc) (ls : Array Slot), 10 ≤ k_4 + n_4 → k_4 ≤ 9 → i = nI k_4 → va_P D vwCl (wM Y mo q M) H → va_D A (wM Y mo q M) → va_S A s.heap H locs → lv_has ls 3 [(2, .int i), (1, .int u), (0, .ref mo)] → L_X4_thoseThere_4 M n_4 i u = L_X4_thoseThere_4 M 10 0 0 → W p l e ({ frames := 0, cells := 0, slots := 0, locals := 0 } : Room) s m ([.ref mo] : List Value).toArray below meth c H locs 0 0 (MQ below (Qsi D (fun r9 w9 => r9 = D_X4_thoseThere M ∧ w9 = wM Y mo q M) A) ([.ref mo] : List Value).toArray s 0 0 A) (F0 m 4 ls []) := by
    intro n_4
    induction n_4 with
    | zero => intro k_4 i u H locs ls hkf hkN_4 ex_4 hP hD hS hl hR_4; exact absurd hkf (by omega)
    | succ n_4 ih_4 =>
      intro k_4 i u H locs ls hkf hkN_4 ex_4 hP hD hS hl hR_4
      refine lv_iload_n hx hb dX4_thoseThere_4 rfl (lv_at hl 0 rfl) ?_
      refine lv_bipush (v := 9) hx hb dX4_thoseThere_5 (by decide) ?_
      refine lv_icmp_ge (tgt := 30) hx hb dX4_thoseThere_7 (by decide) (fun c_1 => ?_) (fun c_1 => ?_)
      · have e8 : L_X4_thoseThere_4 M (n_4 + 1) i u = u := by rw [L_X4_thoseThere_4, if_pos c_1]
        have e8 := hR_4.symm.trans e8
        have eu : L_X4_thoseThere_4 M 10 0 0 = u := by rw [e8]
        clear e8 hR_4 ih_4
        refine lv_iload_n hx hb dX4_thoseThere_30 rfl (lv_at hl 1 rfl) ?_
        subst eu
        have e9 : D_X4_thoseThere M = (L_X4_thoseThere_4 M 10 0 0) := by rw [D_X4_thoseThere]
        exact ret_i hx hb hr hlk hP hD hS dX4_thoseThere_31 ⟨Nat.zero_le _, Nat.zero_le _⟩ ⟨e9.symm, rfl⟩
      · have hk_4 := my_lt ex_4 (show (9 : Int32) = nI 9 from rfl) (by decide) hkN_4 c_1
        refine lv_iload_n hx hb dX4_thoseThere_10 rfl (lv_at hl 1 rfl) ?_
        refine lv_aload_n hx hb dX4_thoseThere_11 rfl (lv_at hl 2 rfl) ?_
        refine va_get (D := D) (ci := 4) (v := .ref (q 0)) (C := RX4) (T := TX4) (N := 13) hx hb hts in_X4_thoseThere_RX4 hown hK.1 hP 0 rfl rfl 0 (by decide) (hts (.fieldLink RX4 7 "NineDancersModel" "all" "[I") (by decide +kernel)) (fun _ h9 => h9) rfl dX4_thoseThere_12 ?_
        refine lv_bipush (v := 15) hx hb dX4_thoseThere_15 (by decide) ?_
        refine lv_iload_n hx hb dX4_thoseThere_17 rfl (lv_at hl 0 rfl) ?_
        refine lv_iadd hx hb dX4_thoseThere_18 ?_
        refine va_iald (D := D) hx hb hK.1 hP 1 0 rfl rfl (my_wid (my_off 15 (by rw [ex_4]; exact vp_in_nI hk_4 (by decide)) (Nat.le_refl _) (by decide)) (by decide) (by decide)) dX4_thoseThere_19 ?_
        refine lv_iload_n hx hb dX4_thoseThere_20 rfl (lv_at hl 0 rfl) ?_
        refine lv_ishl hx hb dX4_thoseThere_21 ?_
        refine lv_ior hx hb dX4_thoseThere_22 ?_
        refine lv_istore_n (lv' := [(1, .int (V_X4_thoseThere_1 M i u)), (2, .int i), (0, .ref mo)]) hx hb dX4_thoseThere_23 rfl hl (by decide) rfl (fun ls hl => ?_)
        refine lv_iinc (v := i + 1) (lv' := [(2, .int (i + 1)), (1, .int (V_X4_thoseThere_1 M i u)), (0, .ref mo)]) hx hb dX4_thoseThere_24 hl (k := 1) rfl rfl (by decide) rfl (fun ls hl => ?_)
        refine lv_goto (tgt := 4) hx hb dX4_thoseThere_27 (by decide) ?_
        exact ih_4 (k_4 + 1) (i + 1) (V_X4_thoseThere_1 M i u) _ _ _ (by omega) (by omega) (by rw [ex_4]; exact nI_1 k_4)  hP hD hS (lv_sub hl [0, 1, 2] rfl) (by rw [L_X4_thoseThere_4, if_neg c_1] at hR_4; exact hR_4)
  exact loop_4 10 0 0 0 _ _ _ (by omega) (Nat.zero_le _) nI_0.symm  hP hD hS (lv_sub hl [0, 1, 2] rfl) rfl
def L_X4_joyBy_4 (M : Nat → Nat → Int32) (n : Int32) : Nat → (Int32) → (Int32) → (Int32)
  | 0, i, u => u
  | n_4 + 1, i, u => if 9 ≤ i then u else (if (D_X4_dances M i n) = 0 then (L_X4_joyBy_4 M n n_4 (i + 1) (u + 0)) else (L_X4_joyBy_4 M n n_4 (i + 1) (u + (D_X4_joyOf M i (D_X4_partnerBy i n)))))
def D_X4_joyBy (M : Nat → Nat → Int32) (n : Int32) : (Int32) := (L_X4_joyBy_4 M n 10 0 0)
set_option maxHeartbeats 4000000 in
set_option maxRecDepth 100000 in
theorem c_X4_joyBy (l : Launch) (D : va_G) (Y : YY) (sz : Nat) (q : Nat → Nat) (M : Nat → Nat → Int32) (mo : Nat) (n : Int32) (h_n : vp_in n 1000) : Met l yX4_joyBy wsX4_joyBy ({ frames := 3, cells := 0, slots := 0, locals := 65 } : Room) (va_Pc [.ref mo, .int n] (Pst D Y sz (wM Y mo q M))) ((fun A : Nat → Prop => Qsi D (fun r9 w9 => r9 = D_X4_joyBy M n ∧ w9 = wM Y mo q M) A) (va_A (wM Y mo q M) sz)) 0 0 (va_A (wM Y mo q M) sz) := by
  refine ct_in (cc := cX4_joyBy) (maxL := 4) (ret := (some .int)) (Qc := fun A : Nat → Prop => Qsi D (fun r9 w9 => r9 = D_X4_joyBy M n ∧ w9 = wM Y mo q M) A) (by decide +kernel) rfl (Nat.le_of_ble_eq_true rfl) ?_
  intro p e s m below meth c A ls hx hb hr hts hown hml hlk hin hsz hA hP hD hK hS hl
  have hown : s.vm.findClass RX4 = some m.cls := hown
  have hl : lv_has ls 4 [(0, .ref mo), (1, .int n)] := hl
  show W p l e ({ frames := 3, cells := 0, slots := 0, locals := 65 } : Room) s m ([.ref mo, .int n] : List Value).toArray below meth c s.heap [] 0 0 (MQ below (Qsi D (fun r9 w9 => r9 = D_X4_joyBy M n ∧ w9 = wM Y mo q M) A) ([.ref mo, .int n] : List Value).toArray s 0 0 A) (F0 m 0 ls [])
  refine lv_iconst (v := 0) hx hb dX4_joyBy_0 (by decide) ?_
  refine lv_istore_n (lv' := [(2, .int 0), (0, .ref mo), (1, .int n)]) hx hb dX4_joyBy_1 rfl hl (by decide) rfl (fun ls hl => ?_)
  refine lv_iconst (v := 0) hx hb dX4_joyBy_2 (by decide) ?_
  refine lv_istore_n (lv' := [(3, .int 0), (2, .int 0), (0, .ref mo), (1, .int n)]) hx hb dX4_joyBy_3 rfl hl (by decide) rfl (fun ls hl => ?_)
  have loop_4 : ∀ (n_4 k_4 : Nat) (i : Int32) (u : Int32) (H : Heap) (locs : List Loc) (ls : Array Slot), 10 ≤ k_4 + n_4 → k_4 ≤ 9 → i = nI k_4 → va_P D vwCl (wM Y mo q M) H → va_D A (wM Y mo q M) → va_S A s.heap H locs → lv_has ls 4 [(3, .int i), (2, .int u), (0, .ref mo), (1, .int n)] → L_X4_joyBy_4 M n n_4 i u = L_X4_joyBy_4 M n 10 0 0 → W p l e ({ frames := 3, cells := 0, slots := 0, locals := 65 } : Room) s m ([.ref mo, .int n] : List Value).toArray below meth c H locs 0 0 (MQ below (Qsi D (fun r9 w9 => r9 = D_X4_joyBy M n ∧ w9 = wM Y mo q M) A) ([.ref mo, .int n] : List Value).toArray s 0 0 A) (F0 m 4 ls []) := by
    intro n_4
    induction n_4 with
    | zero => intro k_4 i u H locs ls hkf hkN_4 ex_4 hP hD hS hl hR_4; exact absurd hkf (by omega)
    | succ n_4 ih_4 =>
      intro k_4 i u H locs ls hkf hkN_4 ex_4 hP hD hS hl hR_4
      refine lv_iload_n hx hb dX4_joyBy_4 rfl (lv_at hl 0 rfl) ?_
      refine lv_bipush (v := 9) hx hb dX4_joyBy_5 (by decide) ?_
      refine lv_icmp_ge (tgt := 42) hx hb dX4_joyBy_7 (by decide) (fun c_1 => ?_) (fun c_1 => ?_)
      · have e8 : L_X4_joyBy_4 M n (n_4 + 1) i u = u := by rw [L_X4_joyBy_4, if_pos c_1]
        have e8 := hR_4.symm.trans e8
        have eu : L_X4_joyBy_4 M n 10 0 0 = u := by rw [e8]
        clear e8 hR_4 ih_4
        refine lv_iload_n hx hb dX4_joyBy_42 rfl (lv_at hl 1 rfl) ?_
        subst eu
        have e9 : D_X4_joyBy M n = (L_X4_joyBy_4 M n 10 0 0) := by rw [D_X4_joyBy]
        exact ret_i hx hb hr hlk hP hD hS dX4_joyBy_43 ⟨Nat.zero_le _, Nat.zero_le _⟩ ⟨e9.symm, rfl⟩
      · have hk_4 := my_lt ex_4 (show (9 : Int32) = nI 9 from rfl) (by decide) hkN_4 c_1
        refine lv_iload_n hx hb dX4_joyBy_10 rfl (lv_at hl 1 rfl) ?_
        refine lv_aload_n hx hb dX4_joyBy_11 rfl (lv_at hl 2 rfl) ?_
        refine lv_iload_n hx hb dX4_joyBy_12 rfl (lv_at hl 0 rfl) ?_
        refine lv_iload_n hx hb dX4_joyBy_13 rfl (lv_at hl 3 rfl) ?_
        refine ck_iD (wr := ([] : va_W)) (ws' := wM Y mo q M) (va_runV (As := [.int i, .int n]) (rest := [.int u]) ⟨hx, hb, hml, hown, hts⟩ (c_X4_dances l D Y H.size q M mo i n (by rw [ex_4]; exact vp_in_nI hk_4 (by decide)) h_n) (cwV 2 hts gX4_joyBy_X4_dances rfl rfl rfl (by decide +kernel) ⟨Nat.le_of_ble_eq_true rfl, Nat.le_of_ble_eq_true rfl⟩) (pst_V hK hP hD [0, 1, 2, 3, 4, 5, 6, 7, 8, 9] rfl (by decide) (q0 := 0) rfl rfl) rfl rfl hl.1 rfl (lv_room (Nat.le_of_ble_eq_true rfl)) dX4_joyBy_14 ⟨Nat.zero_le _, Nat.zero_le _⟩) hP hD hS hA [0, 1, 2, 3, 4, 5, 6, 7, 8, 9] [] [0, 1, 2, 3, 4, 5, 6, 7, 8, 9] rfl rfl (by decide) (by decide) rfl (by decide) (fun H locs hP hD hS => ?_)
        refine lv_if_eq (tgt := 33) hx hb dX4_joyBy_17 (by decide) (fun c_2 => ?_) (fun c_2 => ?_)
        · refine lv_iconst (v := 0) hx hb dX4_joyBy_33 (by decide) ?_
          refine lv_iadd hx hb dX4_joyBy_34 ?_
          refine lv_istore_n (lv' := [(2, .int (u + 0)), (3, .int i), (0, .ref mo), (1, .int n)]) hx hb dX4_joyBy_35 rfl hl (by decide) rfl (fun ls hl => ?_)
          refine lv_iinc (v := i + 1) (lv' := [(3, .int (i + 1)), (2, .int (u + 0)), (0, .ref mo), (1, .int n)]) hx hb dX4_joyBy_36 hl (k := 1) rfl rfl (by decide) rfl (fun ls hl => ?_)
          refine lv_goto (tgt := 4) hx hb dX4_joyBy_39 (by decide) ?_
          exact ih_4 (k_4 + 1) (i + 1) (u + 0) _ _ _ (by omega) (by omega) (by rw [ex_4]; exact nI_1 k_4)  hP hD hS (lv_sub hl [0, 1, 2, 3] rfl) (by rw [L_X4_joyBy_4, if_neg c_1, if_pos c_2] at hR_4; exact hR_4)
        · refine lv_aload_n hx hb dX4_joyBy_20 rfl (lv_at hl 2 rfl) ?_
          refine lv_iload_n hx hb dX4_joyBy_21 rfl (lv_at hl 0 rfl) ?_
          refine lv_iload_n hx hb dX4_joyBy_22 rfl (lv_at hl 0 rfl) ?_
          refine lv_iload_n hx hb dX4_joyBy_23 rfl (lv_at hl 3 rfl) ?_
          refine ck_iD (wr := wM Y mo q M) (ws' := wM Y mo q M) (va_runS (As := [.int i, .int n]) (rest := [.int i, .ref mo, .int u]) ⟨hx, hb, hml, hown, hts⟩ (c_X4_partnerBy l D Y H.size i n) (va_cwS 2 hts gX4_joyBy_X4_partnerBy rfl rfl rfl (by decide +kernel) ⟨Nat.le_of_ble_eq_true rfl, Nat.le_of_ble_eq_true rfl⟩) (pst_S hK hP hD [] rfl (by decide)) rfl rfl hl.1 rfl (lv_room (Nat.le_of_ble_eq_true rfl)) dX4_joyBy_24 ⟨Nat.zero_le _, Nat.zero_le _⟩) hP hD hS hA [] [0, 1, 2, 3, 4, 5, 6, 7, 8, 9] [0, 1, 2, 3, 4, 5, 6, 7, 8, 9] rfl rfl (by decide) (by decide) rfl (by decide) (fun H locs hP hD hS => ?_)
          refine ck_iD (wr := ([] : va_W)) (ws' := wM Y mo q M) (va_runV (As := [.int i, .int (D_X4_partnerBy i n)]) (rest := [.int u]) ⟨hx, hb, hml, hown, hts⟩ (c_X4_joyOf l D Y H.size q M mo i (D_X4_partnerBy i n) (by rw [ex_4]; exact vp_in_nI hk_4 (by decide)) (in_partnerBy (by rw [ex_4]; exact vp_in_nI hk_4 (by decide)) h_n)) (cwV 2 hts gX4_joyBy_X4_joyOf rfl rfl rfl (by decide +kernel) ⟨Nat.le_of_ble_eq_true rfl, Nat.le_of_ble_eq_true rfl⟩) (pst_V hK hP hD [0, 1, 2, 3, 4, 5, 6, 7, 8, 9] rfl (by decide) (q0 := 0) rfl rfl) rfl rfl hl.1 rfl (lv_room (Nat.le_of_ble_eq_true rfl)) dX4_joyBy_27 ⟨Nat.zero_le _, Nat.zero_le _⟩) hP hD hS hA [0, 1, 2, 3, 4, 5, 6, 7, 8, 9] [] [0, 1, 2, 3, 4, 5, 6, 7, 8, 9] rfl rfl (by decide) (by decide) rfl (by decide) (fun H locs hP hD hS => ?_)
          refine lv_goto (tgt := 34) hx hb dX4_joyBy_30 (by decide) ?_
          refine lv_iadd hx hb dX4_joyBy_34 ?_
          refine lv_istore_n (lv' := [(2, .int (u + (D_X4_joyOf M i (D_X4_partnerBy i n)))), (3, .int i), (0, .ref mo), (1, .int n)]) hx hb dX4_joyBy_35 rfl hl (by decide) rfl (fun ls hl => ?_)
          refine lv_iinc (v := i + 1) (lv' := [(3, .int (i + 1)), (2, .int (u + (D_X4_joyOf M i (D_X4_partnerBy i n)))), (0, .ref mo), (1, .int n)]) hx hb dX4_joyBy_36 hl (k := 1) rfl rfl (by decide) rfl (fun ls hl => ?_)
          refine lv_goto (tgt := 4) hx hb dX4_joyBy_39 (by decide) ?_
          exact ih_4 (k_4 + 1) (i + 1) (u + (D_X4_joyOf M i (D_X4_partnerBy i n))) _ _ _ (by omega) (by omega) (by rw [ex_4]; exact nI_1 k_4)  hP hD hS (lv_sub hl [0, 1, 2, 3] rfl) (by rw [L_X4_joyBy_4, if_neg c_1, if_neg c_2] at hR_4; exact hR_4)
  exact loop_4 10 0 0 0 _ _ _ (by omega) (Nat.zero_le _) nI_0.symm  hP hD hS (lv_sub hl [0, 1, 2, 3] rfl) rfl
def L_X4_villagersBy_5 (M : Nat → Nat → Int32) (n : Int32) (w : Int32) : Nat → (Int32) → (Int32) → (Int32)
  | 0, i, u => u
  | n_5 + 1, i, u => if 9 ≤ i then u else (if w = 0 then (if (D_X4_dances M i n) = 0 then (L_X4_villagersBy_5 M n w n_5 (i + 1) (u + 0)) else (L_X4_villagersBy_5 M n w n_5 (i + 1) (u + 1))) else (if w = 2 then (if (D_X4_dances M i n) = 0 then (if (D_X4_isThere M i) = 0 then (L_X4_villagersBy_5 M n w n_5 (i + 1) (u + 0)) else (if (D_X4_partnerBy i n) = i then (L_X4_villagersBy_5 M n w n_5 (i + 1) (u + 0)) else (L_X4_villagersBy_5 M n w n_5 (i + 1) (u + 1)))) else (L_X4_villagersBy_5 M n w n_5 (i + 1) (u + 0))) else (if (D_X4_dances M i n) = 0 then (L_X4_villagersBy_5 M n w n_5 (i + 1) (u + 0)) else (if (M 0 (150 + (D_X4_pairAt i (D_X4_partnerBy i n))).toNatClampNeg) = 0 then (L_X4_villagersBy_5 M n w n_5 (i + 1) (u + 1)) else (L_X4_villagersBy_5 M n w n_5 (i + 1) (u + 0))))))
def D_X4_villagersBy (M : Nat → Nat → Int32) (n : Int32) (w : Int32) : (Int32) := (L_X4_villagersBy_5 M n w 10 0 0)
set_option maxRecDepth 100000 in
theorem in_X4_villagersBy_RX4 : ∀ w ∈ u_ws RX4 TX4 13, w ∈ wsX4_villagersBy := by decide +kernel
set_option maxHeartbeats 4000000 in
set_option maxRecDepth 100000 in
theorem c_X4_villagersBy (l : Launch) (D : va_G) (Y : YY) (sz : Nat) (q : Nat → Nat) (M : Nat → Nat → Int32) (mo : Nat) (n : Int32) (w : Int32) (h_n : vp_in n 1000) : Met l yX4_villagersBy wsX4_villagersBy ({ frames := 3, cells := 0, slots := 0, locals := 65 } : Room) (va_Pc [.ref mo, .int n, .int w] (Pst D Y sz (wM Y mo q M))) ((fun A : Nat → Prop => Qsi D (fun r9 w9 => r9 = D_X4_villagersBy M n w ∧ w9 = wM Y mo q M) A) (va_A (wM Y mo q M) sz)) 0 0 (va_A (wM Y mo q M) sz) := by
  refine ct_in (cc := cX4_villagersBy) (maxL := 7) (ret := (some .int)) (Qc := fun A : Nat → Prop => Qsi D (fun r9 w9 => r9 = D_X4_villagersBy M n w ∧ w9 = wM Y mo q M) A) (by decide +kernel) rfl (Nat.le_of_ble_eq_true rfl) ?_
  intro p e s m below meth c A ls hx hb hr hts hown hml hlk hin hsz hA hP hD hK hS hl
  have hown : s.vm.findClass RX4 = some m.cls := hown
  have hl : lv_has ls 7 [(0, .ref mo), (1, .int n), (2, .int w)] := hl
  show W p l e ({ frames := 3, cells := 0, slots := 0, locals := 65 } : Room) s m ([.ref mo, .int n, .int w] : List Value).toArray below meth c s.heap [] 0 0 (MQ below (Qsi D (fun r9 w9 => r9 = D_X4_villagersBy M n w ∧ w9 = wM Y mo q M) A) ([.ref mo, .int n, .int w] : List Value).toArray s 0 0 A) (F0 m 0 ls [])
  refine lv_iconst (v := 0) hx hb dX4_villagersBy_0 (by decide) ?_
  refine lv_istore_n (lv' := [(3, .int 0), (0, .ref mo), (1, .int n), (2, .int w)]) hx hb dX4_villagersBy_1 rfl hl (by decide) rfl (fun ls hl => ?_)
  refine lv_iconst (v := 0) hx hb dX4_villagersBy_2 (by decide) ?_
  refine lv_istore (lv' := [(4, .int 0), (3, .int 0), (0, .ref mo), (1, .int n), (2, .int w)]) hx hb dX4_villagersBy_3 hl (by decide) rfl (fun ls hl => ?_)
  have loop_5 : ∀ (n_5 k_5 : Nat) (i : Int32) (u : Int32) (H : Heap) (locs : List Loc) (ls : Array Slot), 10 ≤ k_5 + n_5 → k_5 ≤ 9 → i = nI k_5 → va_P D vwCl (wM Y mo q M) H → va_D A (wM Y mo q M) → va_S A s.heap H locs → lv_has ls 7 [(4, .int i), (3, .int u), (0, .ref mo), (1, .int n), (2, .int w)] → L_X4_villagersBy_5 M n w n_5 i u = L_X4_villagersBy_5 M n w 10 0 0 → W p l e ({ frames := 3, cells := 0, slots := 0, locals := 65 } : Room) s m ([.ref mo, .int n, .int w] : List Value).toArray below meth c H locs 0 0 (MQ below (Qsi D (fun r9 w9 => r9 = D_X4_villagersBy M n w ∧ w9 = wM Y mo q M) A) ([.ref mo, .int n, .int w] : List Value).toArray s 0 0 A) (F0 m 5 ls []) := by
    intro n_5
    induction n_5 with
    | zero => intro k_5 i u H locs ls hkf hkN_5 ex_5 hP hD hS hl hR_5; exact absurd hkf (by omega)
    | succ n_5 ih_5 =>
      intro k_5 i u H locs ls hkf hkN_5 ex_5 hP hD hS hl hR_5
      refine lv_iload hx hb dX4_villagersBy_5 (lv_at hl 0 rfl) ?_
      refine lv_bipush (v := 9) hx hb dX4_villagersBy_7 (by decide) ?_
      refine lv_icmp_ge (tgt := 108) hx hb dX4_villagersBy_9 (by decide) (fun c_1 => ?_) (fun c_1 => ?_)
      · have e8 : L_X4_villagersBy_5 M n w (n_5 + 1) i u = u := by rw [L_X4_villagersBy_5, if_pos c_1]
        have e8 := hR_5.symm.trans e8
        have eu : L_X4_villagersBy_5 M n w 10 0 0 = u := by rw [e8]
        clear e8 hR_5 ih_5
        refine lv_iload_n hx hb dX4_villagersBy_108 rfl (lv_at hl 1 rfl) ?_
        subst eu
        have e9 : D_X4_villagersBy M n w = (L_X4_villagersBy_5 M n w 10 0 0) := by rw [D_X4_villagersBy]
        exact ret_i hx hb hr hlk hP hD hS dX4_villagersBy_109 ⟨Nat.zero_le _, Nat.zero_le _⟩ ⟨e9.symm, rfl⟩
      · have hk_5 := my_lt ex_5 (show (9 : Int32) = nI 9 from rfl) (by decide) hkN_5 c_1
        refine lv_iload hx hb dX4_villagersBy_12 (lv_at hl 0 rfl) ?_
        refine lv_iload_n hx hb dX4_villagersBy_14 rfl (lv_at hl 3 rfl) ?_
        refine ck_iD (wr := wM Y mo q M) (ws' := wM Y mo q M) (va_runS (As := [.int i, .int n]) (rest := []) ⟨hx, hb, hml, hown, hts⟩ (c_X4_partnerBy l D Y H.size i n) (va_cwS 2 hts gX4_villagersBy_X4_partnerBy rfl rfl rfl (by decide +kernel) ⟨Nat.le_of_ble_eq_true rfl, Nat.le_of_ble_eq_true rfl⟩) (pst_S hK hP hD [] rfl (by decide)) rfl rfl hl.1 rfl (lv_room (Nat.le_of_ble_eq_true rfl)) dX4_villagersBy_15 ⟨Nat.zero_le _, Nat.zero_le _⟩) hP hD hS hA [] [0, 1, 2, 3, 4, 5, 6, 7, 8, 9] [0, 1, 2, 3, 4, 5, 6, 7, 8, 9] rfl rfl (by decide) (by decide) rfl (by decide) (fun H locs hP hD hS => ?_)
        refine lv_istore (lv' := [(5, .int (D_X4_partnerBy i n)), (4, .int i), (3, .int u), (0, .ref mo), (1, .int n), (2, .int w)]) hx hb dX4_villagersBy_18 hl (by decide) rfl (fun ls hl => ?_)
        refine lv_aload_n hx hb dX4_villagersBy_20 rfl (lv_at hl 3 rfl) ?_
        refine lv_iload hx hb dX4_villagersBy_21 (lv_at hl 1 rfl) ?_
        refine lv_iload_n hx hb dX4_villagersBy_23 rfl (lv_at hl 4 rfl) ?_
        refine ck_iD (wr := ([] : va_W)) (ws' := wM Y mo q M) (va_runV (As := [.int i, .int n]) (rest := []) ⟨hx, hb, hml, hown, hts⟩ (c_X4_dances l D Y H.size q M mo i n (by rw [ex_5]; exact vp_in_nI hk_5 (by decide)) h_n) (cwV 2 hts gX4_villagersBy_X4_dances rfl rfl rfl (by decide +kernel) ⟨Nat.le_of_ble_eq_true rfl, Nat.le_of_ble_eq_true rfl⟩) (pst_V hK hP hD [0, 1, 2, 3, 4, 5, 6, 7, 8, 9] rfl (by decide) (q0 := 0) rfl rfl) rfl rfl hl.1 rfl (lv_room (Nat.le_of_ble_eq_true rfl)) dX4_villagersBy_24 ⟨Nat.zero_le _, Nat.zero_le _⟩) hP hD hS hA [0, 1, 2, 3, 4, 5, 6, 7, 8, 9] [] [0, 1, 2, 3, 4, 5, 6, 7, 8, 9] rfl rfl (by decide) (by decide) rfl (by decide) (fun H locs hP hD hS => ?_)
        refine lv_istore (lv' := [(6, .int (D_X4_dances M i n)), (5, .int (D_X4_partnerBy i n)), (4, .int i), (3, .int u), (0, .ref mo), (1, .int n), (2, .int w)]) hx hb dX4_villagersBy_27 hl (by decide) rfl (fun ls hl => ?_)
        refine lv_iload_n hx hb dX4_villagersBy_29 rfl (lv_at hl 3 rfl) ?_
        refine lv_iload_n hx hb dX4_villagersBy_30 rfl (lv_at hl 6 rfl) ?_
        refine lv_if_ne (tgt := 42) hx hb dX4_villagersBy_31 (by decide) (fun c_2 => ?_) (fun c_2 => ?_)
        · refine lv_iload_n hx hb dX4_villagersBy_42 rfl (lv_at hl 6 rfl) ?_
          refine lv_iconst (v := 2) hx hb dX4_villagersBy_43 (by decide) ?_
          refine lv_icmp_ne (tgt := 71) hx hb dX4_villagersBy_44 (by decide) (fun c_3 => ?_) (fun c_3 => ?_)
          · refine lv_iload hx hb dX4_villagersBy_71 (lv_at hl 0 rfl) ?_
            refine lv_if_eq (tgt := 99) hx hb dX4_villagersBy_73 (by decide) (fun c_4 => ?_) (fun c_4 => ?_)
            · refine lv_iconst (v := 0) hx hb dX4_villagersBy_99 (by decide) ?_
              refine lv_iadd hx hb dX4_villagersBy_100 ?_
              refine lv_istore_n (lv' := [(3, .int (u + 0)), (6, .int (D_X4_dances M i n)), (5, .int (D_X4_partnerBy i n)), (4, .int i), (0, .ref mo), (1, .int n), (2, .int w)]) hx hb dX4_villagersBy_101 rfl hl (by decide) rfl (fun ls hl => ?_)
              refine lv_iinc (v := i + 1) (lv' := [(4, .int (i + 1)), (3, .int (u + 0)), (6, .int (D_X4_dances M i n)), (5, .int (D_X4_partnerBy i n)), (0, .ref mo), (1, .int n), (2, .int w)]) hx hb dX4_villagersBy_102 hl (k := 3) rfl rfl (by decide) rfl (fun ls hl => ?_)
              refine lv_goto (tgt := 5) hx hb dX4_villagersBy_105 (by decide) ?_
              exact ih_5 (k_5 + 1) (i + 1) (u + 0) _ _ _ (by omega) (by omega) (by rw [ex_5]; exact nI_1 k_5)  hP hD hS (lv_sub hl [0, 1, 4, 5, 6] rfl) (by rw [L_X4_villagersBy_5, if_neg c_1, if_neg c_2, if_neg c_3, if_pos c_4] at hR_5; exact hR_5)
            · refine lv_aload_n hx hb dX4_villagersBy_76 rfl (lv_at hl 4 rfl) ?_
              refine va_get (D := D) (ci := 4) (v := .ref (q 0)) (C := RX4) (T := TX4) (N := 13) hx hb hts in_X4_villagersBy_RX4 hown hK.1 hP 0 rfl rfl 0 (by decide) (hts (.fieldLink RX4 7 "NineDancersModel" "all" "[I") (by decide +kernel)) (fun _ h9 => h9) rfl dX4_villagersBy_77 ?_
              refine lv_sipush (v := 150) hx hb dX4_villagersBy_80 (by decide) ?_
              refine lv_iload hx hb dX4_villagersBy_83 (lv_at hl 2 rfl) ?_
              refine lv_iload hx hb dX4_villagersBy_85 (lv_at hl 1 rfl) ?_
              refine ck_iD (wr := wM Y mo q M) (ws' := wM Y mo q M) (va_runS (As := [.int i, .int (D_X4_partnerBy i n)]) (rest := [.int 150, .ref (q 0), .int u]) ⟨hx, hb, hml, hown, hts⟩ (c_X4_pairAt l D Y H.size i (D_X4_partnerBy i n)) (va_cwS 2 hts gX4_villagersBy_X4_pairAt rfl rfl rfl (by decide +kernel) ⟨Nat.le_of_ble_eq_true rfl, Nat.le_of_ble_eq_true rfl⟩) (pst_S hK hP hD [] rfl (by decide)) rfl rfl hl.1 rfl (lv_room (Nat.le_of_ble_eq_true rfl)) dX4_villagersBy_87 ⟨Nat.zero_le _, Nat.zero_le _⟩) hP hD hS hA [] [0, 1, 2, 3, 4, 5, 6, 7, 8, 9] [0, 1, 2, 3, 4, 5, 6, 7, 8, 9] rfl rfl (by decide) (by decide) rfl (by decide) (fun H locs hP hD hS => ?_)
              refine lv_iadd hx hb dX4_villagersBy_90 ?_
              refine va_iald (D := D) hx hb hK.1 hP 1 0 rfl rfl (my_wid (my_off 150 (in_pairAt (by rw [ex_5]; exact vp_in_nI hk_5 (by decide)) (in_partnerBy (by rw [ex_5]; exact vp_in_nI hk_5 (by decide)) h_n)) (Nat.le_refl _) (by decide)) (by decide) (by decide)) dX4_villagersBy_91 ?_
              refine lv_if_ne (tgt := 99) hx hb dX4_villagersBy_92 (by decide) (fun c_5 => ?_) (fun c_5 => ?_)
              · refine lv_iconst (v := 0) hx hb dX4_villagersBy_99 (by decide) ?_
                refine lv_iadd hx hb dX4_villagersBy_100 ?_
                refine lv_istore_n (lv' := [(3, .int (u + 0)), (6, .int (D_X4_dances M i n)), (5, .int (D_X4_partnerBy i n)), (4, .int i), (0, .ref mo), (1, .int n), (2, .int w)]) hx hb dX4_villagersBy_101 rfl hl (by decide) rfl (fun ls hl => ?_)
                refine lv_iinc (v := i + 1) (lv' := [(4, .int (i + 1)), (3, .int (u + 0)), (6, .int (D_X4_dances M i n)), (5, .int (D_X4_partnerBy i n)), (0, .ref mo), (1, .int n), (2, .int w)]) hx hb dX4_villagersBy_102 hl (k := 3) rfl rfl (by decide) rfl (fun ls hl => ?_)
                refine lv_goto (tgt := 5) hx hb dX4_villagersBy_105 (by decide) ?_
                exact ih_5 (k_5 + 1) (i + 1) (u + 0) _ _ _ (by omega) (by omega) (by rw [ex_5]; exact nI_1 k_5)  hP hD hS (lv_sub hl [0, 1, 4, 5, 6] rfl) (by rw [L_X4_villagersBy_5, if_neg c_1, if_neg c_2, if_neg c_3, if_neg c_4, if_neg c_5] at hR_5; exact hR_5)
              · refine lv_iconst (v := 1) hx hb dX4_villagersBy_95 (by decide) ?_
                refine lv_goto (tgt := 100) hx hb dX4_villagersBy_96 (by decide) ?_
                refine lv_iadd hx hb dX4_villagersBy_100 ?_
                refine lv_istore_n (lv' := [(3, .int (u + 1)), (6, .int (D_X4_dances M i n)), (5, .int (D_X4_partnerBy i n)), (4, .int i), (0, .ref mo), (1, .int n), (2, .int w)]) hx hb dX4_villagersBy_101 rfl hl (by decide) rfl (fun ls hl => ?_)
                refine lv_iinc (v := i + 1) (lv' := [(4, .int (i + 1)), (3, .int (u + 1)), (6, .int (D_X4_dances M i n)), (5, .int (D_X4_partnerBy i n)), (0, .ref mo), (1, .int n), (2, .int w)]) hx hb dX4_villagersBy_102 hl (k := 3) rfl rfl (by decide) rfl (fun ls hl => ?_)
                refine lv_goto (tgt := 5) hx hb dX4_villagersBy_105 (by decide) ?_
                exact ih_5 (k_5 + 1) (i + 1) (u + 1) _ _ _ (by omega) (by omega) (by rw [ex_5]; exact nI_1 k_5)  hP hD hS (lv_sub hl [0, 1, 4, 5, 6] rfl) (by rw [L_X4_villagersBy_5, if_neg c_1, if_neg c_2, if_neg c_3, if_neg c_4, if_pos c_5] at hR_5; exact hR_5)
          · refine lv_iload hx hb dX4_villagersBy_47 (lv_at hl 0 rfl) ?_
            refine lv_if_ne (tgt := 99) hx hb dX4_villagersBy_49 (by decide) (fun c_6 => ?_) (fun c_6 => ?_)
            · refine lv_iconst (v := 0) hx hb dX4_villagersBy_99 (by decide) ?_
              refine lv_iadd hx hb dX4_villagersBy_100 ?_
              refine lv_istore_n (lv' := [(3, .int (u + 0)), (6, .int (D_X4_dances M i n)), (5, .int (D_X4_partnerBy i n)), (4, .int i), (0, .ref mo), (1, .int n), (2, .int w)]) hx hb dX4_villagersBy_101 rfl hl (by decide) rfl (fun ls hl => ?_)
              refine lv_iinc (v := i + 1) (lv' := [(4, .int (i + 1)), (3, .int (u + 0)), (6, .int (D_X4_dances M i n)), (5, .int (D_X4_partnerBy i n)), (0, .ref mo), (1, .int n), (2, .int w)]) hx hb dX4_villagersBy_102 hl (k := 3) rfl rfl (by decide) rfl (fun ls hl => ?_)
              refine lv_goto (tgt := 5) hx hb dX4_villagersBy_105 (by decide) ?_
              exact ih_5 (k_5 + 1) (i + 1) (u + 0) _ _ _ (by omega) (by omega) (by rw [ex_5]; exact nI_1 k_5)  hP hD hS (lv_sub hl [0, 1, 4, 5, 6] rfl) (by rw [L_X4_villagersBy_5, if_neg c_1, if_neg c_2, if_pos c_3, if_neg c_6] at hR_5; exact hR_5)
            · refine lv_aload_n hx hb dX4_villagersBy_52 rfl (lv_at hl 4 rfl) ?_
              refine lv_iload hx hb dX4_villagersBy_53 (lv_at hl 2 rfl) ?_
              refine ck_iD (wr := ([] : va_W)) (ws' := wM Y mo q M) (va_runV (As := [.int i]) (rest := [.int u]) ⟨hx, hb, hml, hown, hts⟩ (c_X4_isThere l D Y H.size q M mo i (by rw [ex_5]; exact vp_in_nI hk_5 (by decide))) (cwV 1 hts gX4_villagersBy_X4_isThere rfl rfl rfl (by decide +kernel) ⟨Nat.le_of_ble_eq_true rfl, Nat.le_of_ble_eq_true rfl⟩) (pst_V hK hP hD [0, 1, 2, 3, 4, 5, 6, 7, 8, 9] rfl (by decide) (q0 := 0) rfl rfl) rfl rfl hl.1 rfl (lv_room (Nat.le_of_ble_eq_true rfl)) dX4_villagersBy_55 ⟨Nat.zero_le _, Nat.zero_le _⟩) hP hD hS hA [0, 1, 2, 3, 4, 5, 6, 7, 8, 9] [] [0, 1, 2, 3, 4, 5, 6, 7, 8, 9] rfl rfl (by decide) (by decide) rfl (by decide) (fun H locs hP hD hS => ?_)
              refine lv_if_eq (tgt := 99) hx hb dX4_villagersBy_58 (by decide) (fun c_7 => ?_) (fun c_7 => ?_)
              · refine lv_iconst (v := 0) hx hb dX4_villagersBy_99 (by decide) ?_
                refine lv_iadd hx hb dX4_villagersBy_100 ?_
                refine lv_istore_n (lv' := [(3, .int (u + 0)), (6, .int (D_X4_dances M i n)), (5, .int (D_X4_partnerBy i n)), (4, .int i), (0, .ref mo), (1, .int n), (2, .int w)]) hx hb dX4_villagersBy_101 rfl hl (by decide) rfl (fun ls hl => ?_)
                refine lv_iinc (v := i + 1) (lv' := [(4, .int (i + 1)), (3, .int (u + 0)), (6, .int (D_X4_dances M i n)), (5, .int (D_X4_partnerBy i n)), (0, .ref mo), (1, .int n), (2, .int w)]) hx hb dX4_villagersBy_102 hl (k := 3) rfl rfl (by decide) rfl (fun ls hl => ?_)
                refine lv_goto (tgt := 5) hx hb dX4_villagersBy_105 (by decide) ?_
                exact ih_5 (k_5 + 1) (i + 1) (u + 0) _ _ _ (by omega) (by omega) (by rw [ex_5]; exact nI_1 k_5)  hP hD hS (lv_sub hl [0, 1, 4, 5, 6] rfl) (by rw [L_X4_villagersBy_5, if_neg c_1, if_neg c_2, if_pos c_3, if_pos c_6, if_pos c_7] at hR_5; exact hR_5)
              · refine lv_iload hx hb dX4_villagersBy_61 (lv_at hl 1 rfl) ?_
                refine lv_iload hx hb dX4_villagersBy_63 (lv_at hl 2 rfl) ?_
                refine lv_icmp_eq (tgt := 99) hx hb dX4_villagersBy_65 (by decide) (fun c_8 => ?_) (fun c_8 => ?_)
                · refine lv_iconst (v := 0) hx hb dX4_villagersBy_99 (by decide) ?_
                  refine lv_iadd hx hb dX4_villagersBy_100 ?_
                  refine lv_istore_n (lv' := [(3, .int (u + 0)), (6, .int (D_X4_dances M i n)), (5, .int (D_X4_partnerBy i n)), (4, .int i), (0, .ref mo), (1, .int n), (2, .int w)]) hx hb dX4_villagersBy_101 rfl hl (by decide) rfl (fun ls hl => ?_)
                  refine lv_iinc (v := i + 1) (lv' := [(4, .int (i + 1)), (3, .int (u + 0)), (6, .int (D_X4_dances M i n)), (5, .int (D_X4_partnerBy i n)), (0, .ref mo), (1, .int n), (2, .int w)]) hx hb dX4_villagersBy_102 hl (k := 3) rfl rfl (by decide) rfl (fun ls hl => ?_)
                  refine lv_goto (tgt := 5) hx hb dX4_villagersBy_105 (by decide) ?_
                  exact ih_5 (k_5 + 1) (i + 1) (u + 0) _ _ _ (by omega) (by omega) (by rw [ex_5]; exact nI_1 k_5)  hP hD hS (lv_sub hl [0, 1, 4, 5, 6] rfl) (by rw [L_X4_villagersBy_5, if_neg c_1, if_neg c_2, if_pos c_3, if_pos c_6, if_neg c_7, if_pos c_8] at hR_5; exact hR_5)
                · refine lv_goto (tgt := 95) hx hb dX4_villagersBy_68 (by decide) ?_
                  refine lv_iconst (v := 1) hx hb dX4_villagersBy_95 (by decide) ?_
                  refine lv_goto (tgt := 100) hx hb dX4_villagersBy_96 (by decide) ?_
                  refine lv_iadd hx hb dX4_villagersBy_100 ?_
                  refine lv_istore_n (lv' := [(3, .int (u + 1)), (6, .int (D_X4_dances M i n)), (5, .int (D_X4_partnerBy i n)), (4, .int i), (0, .ref mo), (1, .int n), (2, .int w)]) hx hb dX4_villagersBy_101 rfl hl (by decide) rfl (fun ls hl => ?_)
                  refine lv_iinc (v := i + 1) (lv' := [(4, .int (i + 1)), (3, .int (u + 1)), (6, .int (D_X4_dances M i n)), (5, .int (D_X4_partnerBy i n)), (0, .ref mo), (1, .int n), (2, .int w)]) hx hb dX4_villagersBy_102 hl (k := 3) rfl rfl (by decide) rfl (fun ls hl => ?_)
                  refine lv_goto (tgt := 5) hx hb dX4_villagersBy_105 (by decide) ?_
                  exact ih_5 (k_5 + 1) (i + 1) (u + 1) _ _ _ (by omega) (by omega) (by rw [ex_5]; exact nI_1 k_5)  hP hD hS (lv_sub hl [0, 1, 4, 5, 6] rfl) (by rw [L_X4_villagersBy_5, if_neg c_1, if_neg c_2, if_pos c_3, if_pos c_6, if_neg c_7, if_neg c_8] at hR_5; exact hR_5)
        · refine lv_iload hx hb dX4_villagersBy_34 (lv_at hl 0 rfl) ?_
          refine lv_if_eq (tgt := 99) hx hb dX4_villagersBy_36 (by decide) (fun c_9 => ?_) (fun c_9 => ?_)
          · refine lv_iconst (v := 0) hx hb dX4_villagersBy_99 (by decide) ?_
            refine lv_iadd hx hb dX4_villagersBy_100 ?_
            refine lv_istore_n (lv' := [(3, .int (u + 0)), (6, .int (D_X4_dances M i n)), (5, .int (D_X4_partnerBy i n)), (4, .int i), (0, .ref mo), (1, .int n), (2, .int w)]) hx hb dX4_villagersBy_101 rfl hl (by decide) rfl (fun ls hl => ?_)
            refine lv_iinc (v := i + 1) (lv' := [(4, .int (i + 1)), (3, .int (u + 0)), (6, .int (D_X4_dances M i n)), (5, .int (D_X4_partnerBy i n)), (0, .ref mo), (1, .int n), (2, .int w)]) hx hb dX4_villagersBy_102 hl (k := 3) rfl rfl (by decide) rfl (fun ls hl => ?_)
            refine lv_goto (tgt := 5) hx hb dX4_villagersBy_105 (by decide) ?_
            exact ih_5 (k_5 + 1) (i + 1) (u + 0) _ _ _ (by omega) (by omega) (by rw [ex_5]; exact nI_1 k_5)  hP hD hS (lv_sub hl [0, 1, 4, 5, 6] rfl) (by rw [L_X4_villagersBy_5, if_neg c_1, if_pos c_2, if_pos c_9] at hR_5; exact hR_5)
          · refine lv_goto (tgt := 95) hx hb dX4_villagersBy_39 (by decide) ?_
            refine lv_iconst (v := 1) hx hb dX4_villagersBy_95 (by decide) ?_
            refine lv_goto (tgt := 100) hx hb dX4_villagersBy_96 (by decide) ?_
            refine lv_iadd hx hb dX4_villagersBy_100 ?_
            refine lv_istore_n (lv' := [(3, .int (u + 1)), (6, .int (D_X4_dances M i n)), (5, .int (D_X4_partnerBy i n)), (4, .int i), (0, .ref mo), (1, .int n), (2, .int w)]) hx hb dX4_villagersBy_101 rfl hl (by decide) rfl (fun ls hl => ?_)
            refine lv_iinc (v := i + 1) (lv' := [(4, .int (i + 1)), (3, .int (u + 1)), (6, .int (D_X4_dances M i n)), (5, .int (D_X4_partnerBy i n)), (0, .ref mo), (1, .int n), (2, .int w)]) hx hb dX4_villagersBy_102 hl (k := 3) rfl rfl (by decide) rfl (fun ls hl => ?_)
            refine lv_goto (tgt := 5) hx hb dX4_villagersBy_105 (by decide) ?_
            exact ih_5 (k_5 + 1) (i + 1) (u + 1) _ _ _ (by omega) (by omega) (by rw [ex_5]; exact nI_1 k_5)  hP hD hS (lv_sub hl [0, 1, 4, 5, 6] rfl) (by rw [L_X4_villagersBy_5, if_neg c_1, if_pos c_2, if_neg c_9] at hR_5; exact hR_5)
  exact loop_5 10 0 0 0 _ _ _ (by omega) (Nat.zero_le _) nI_0.symm  hP hD hS (lv_sub hl [0, 1, 2, 3, 4] rfl) rfl
end

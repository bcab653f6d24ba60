section
-- ===== PART A: goes FIRST, ahead of the names: the tables' words, and 'selects' of the private methods out of them =====
/-- a private method of a class that the tables say can be made, by its rows of tables_1 -/
def lw_okq (q : MethodName × Nat) : Prop := (q.1.cls ≠ "java/lang/invoke/MethodHandle" ∧ q.1.cls ≠ "java/lang/invoke/VarHandle") ∧ Cond.instantiable q.1.cls q.2 ∈ tables_1 ∧ Cond.privateMethod q.1 ∈ tables_1 ∧ Cond.instanceMethod q.1 ∈ tables_1
theorem lw_p0 : lw_okq (⟨"NineDancers$Ring", "isUnmet", "(II)Z"⟩, 13) := ⟨⟨by decide +kernel, by decide +kernel⟩, List.mem_of_getElem? (i := 18) (by decide +kernel), List.mem_of_getElem? (i := 152) (by decide +kernel), List.mem_of_getElem? (i := 153) (by decide +kernel)⟩
theorem lw_p1 : lw_okq (⟨"NineDancers$History", "dropOldest", "()V"⟩, 2) := ⟨⟨by decide +kernel, by decide +kernel⟩, List.mem_of_getElem? (i := 97) (by decide +kernel), List.mem_of_getElem? (i := 172) (by decide +kernel), List.mem_of_getElem? (i := 173) (by decide +kernel)⟩
theorem lw_p2 : lw_okq (⟨"NineDancers$Ring", "rest", "(I)V"⟩, 13) := ⟨⟨by decide +kernel, by decide +kernel⟩, List.mem_of_getElem? (i := 18) (by decide +kernel), List.mem_of_getElem? (i := 281) (by decide +kernel), List.mem_of_getElem? (i := 282) (by decide +kernel)⟩
theorem lw_p3 : lw_okq (⟨"NineDancers$Ring", "wouldDance", "(II)Z"⟩, 13) := ⟨⟨by decide +kernel, by decide +kernel⟩, List.mem_of_getElem? (i := 18) (by decide +kernel), List.mem_of_getElem? (i := 285) (by decide +kernel), List.mem_of_getElem? (i := 286) (by decide +kernel)⟩
theorem lw_p4 : lw_okq (⟨"NineDancers$Ring", "dance", "(II)V"⟩, 13) := ⟨⟨by decide +kernel, by decide +kernel⟩, List.mem_of_getElem? (i := 18) (by decide +kernel), List.mem_of_getElem? (i := 289) (by decide +kernel), List.mem_of_getElem? (i := 290) (by decide +kernel)⟩
theorem lw_p5 : lw_okq (⟨"NineDancers$Ring", "joyOfEach", "(II)I"⟩, 13) := ⟨⟨by decide +kernel, by decide +kernel⟩, List.mem_of_getElem? (i := 18) (by decide +kernel), List.mem_of_getElem? (i := 293) (by decide +kernel), List.mem_of_getElem? (i := 294) (by decide +kernel)⟩
theorem lw_p6 : lw_okq (⟨"NineDancers$Ring", "takePart", "(II)V"⟩, 13) := ⟨⟨by decide +kernel, by decide +kernel⟩, List.mem_of_getElem? (i := 18) (by decide +kernel), List.mem_of_getElem? (i := 297) (by decide +kernel), List.mem_of_getElem? (i := 298) (by decide +kernel)⟩
theorem lw_p7 : lw_okq (⟨"NineDancers$Ring", "leaveAlone", "(I)V"⟩, 13) := ⟨⟨by decide +kernel, by decide +kernel⟩, List.mem_of_getElem? (i := 18) (by decide +kernel), List.mem_of_getElem? (i := 301) (by decide +kernel), List.mem_of_getElem? (i := 302) (by decide +kernel)⟩
theorem lw_p8 : lw_okq (⟨"NineDancers$Pad", "hasTimes", "(I)Z"⟩, 2) := ⟨⟨by decide +kernel, by decide +kernel⟩, List.mem_of_getElem? (i := 82) (by decide +kernel), List.mem_of_getElem? (i := 369) (by decide +kernel), List.mem_of_getElem? (i := 370) (by decide +kernel)⟩
theorem lw_p9 : lw_okq (⟨"NineDancers", "tellNumbersOfPad", "()I"⟩, 5) := ⟨⟨by decide +kernel, by decide +kernel⟩, List.mem_of_getElem? (i := 10) (by decide +kernel), List.mem_of_getElem? (i := 373) (by decide +kernel), List.mem_of_getElem? (i := 374) (by decide +kernel)⟩
theorem lw_p10 : lw_okq (⟨"NineDancers", "tell", "(II)I"⟩, 5) := ⟨⟨by decide +kernel, by decide +kernel⟩, List.mem_of_getElem? (i := 10) (by decide +kernel), List.mem_of_getElem? (i := 383) (by decide +kernel), List.mem_of_getElem? (i := 384) (by decide +kernel)⟩
theorem lw_p11 : lw_okq (⟨"NineDancers$Ring", "pairWouldBring", "(III)I"⟩, 13) := ⟨⟨by decide +kernel, by decide +kernel⟩, List.mem_of_getElem? (i := 18) (by decide +kernel), List.mem_of_getElem? (i := 398) (by decide +kernel), List.mem_of_getElem? (i := 399) (by decide +kernel)⟩
theorem lw_p12 : lw_okq (⟨"NineDancers$Ring", "hasUnmetPair", "(I)Z"⟩, 13) := ⟨⟨by decide +kernel, by decide +kernel⟩, List.mem_of_getElem? (i := 18) (by decide +kernel), List.mem_of_getElem? (i := 411) (by decide +kernel), List.mem_of_getElem? (i := 412) (by decide +kernel)⟩
def lw_privs_1 : List (MethodName × Nat) := [(⟨"NineDancers$Ring", "isUnmet", "(II)Z"⟩, 13), (⟨"NineDancers$History", "dropOldest", "()V"⟩, 2), (⟨"NineDancers$Ring", "rest", "(I)V"⟩, 13), (⟨"NineDancers$Ring", "wouldDance", "(II)Z"⟩, 13), (⟨"NineDancers$Ring", "dance", "(II)V"⟩, 13), (⟨"NineDancers$Ring", "joyOfEach", "(II)I"⟩, 13), (⟨"NineDancers$Ring", "takePart", "(II)V"⟩, 13), (⟨"NineDancers$Ring", "leaveAlone", "(I)V"⟩, 13), (⟨"NineDancers$Pad", "hasTimes", "(I)Z"⟩, 2), (⟨"NineDancers", "tellNumbersOfPad", "()I"⟩, 5), (⟨"NineDancers", "tell", "(II)I"⟩, 5), (⟨"NineDancers$Ring", "pairWouldBring", "(III)I"⟩, 13), (⟨"NineDancers$Ring", "hasUnmetPair", "(I)Z"⟩, 13)]
theorem lw_r1 : ∀ q ∈ lw_privs_1, lw_okq q := List.forall_mem_cons.mpr ⟨lw_p0, List.forall_mem_cons.mpr ⟨lw_p1, List.forall_mem_cons.mpr ⟨lw_p2, List.forall_mem_cons.mpr ⟨lw_p3, List.forall_mem_cons.mpr ⟨lw_p4, List.forall_mem_cons.mpr ⟨lw_p5, List.forall_mem_cons.mpr ⟨lw_p6, List.forall_mem_cons.mpr ⟨lw_p7, List.forall_mem_cons.mpr ⟨lw_p8, List.forall_mem_cons.mpr ⟨lw_p9, List.forall_mem_cons.mpr ⟨lw_p10, List.forall_mem_cons.mpr ⟨lw_p11, List.forall_mem_cons.mpr ⟨lw_p12, fun _ h => absurd h List.not_mem_nil⟩⟩⟩⟩⟩⟩⟩⟩⟩⟩⟩⟩⟩
def lw_privs : List (MethodName × Nat) := lw_privs_1
def lw_tbl : List Cond := k2_sels lw_privs ++ tables_1
theorem lw_privs_ok : ∀ q ∈ lw_privs, lw_okq q := lw_r1
-- ===== end of PART A; then your names; then what follows =====
/-! ===== BEGIN words of one list among another's, by their places ===== -/
theorem goodIn_r {big : List Cond} (ws : List Cond) (ps : List Nat) (hp : ws = ps.filterMap (fun i => big[i]?)) (h : ws.all goodWord = true) : GoodIn big ws := by
  intro w hw
  have h1 := List.all_eq_true.mp h w hw
  rw [hp] at hw
  obtain ⟨i, -, hi⟩ := List.mem_filterMap.mp hw
  have hm : w ∈ big := by first | exact List.mem_of_getElem? hi | exact List.getElem?_mem hi
  exact ⟨hm, good_of_word h1⟩
theorem goodIn_app {big a b : List Cond} (ha : GoodIn big a) (hb : GoodIn big b) : GoodIn big (a ++ b) := fun w h => (List.mem_append.mp h).elim (ha w) (hb w)
theorem goodIn_ca {big a b : List Cond} {c : Cond} (ha : GoodIn big (c :: a)) (hb : GoodIn big b) : GoodIn big (c :: (a ++ b)) := fun w h => (List.mem_cons.mp h).elim (fun e => ha w (List.mem_cons.mpr (Or.inl e))) (fun h => (List.mem_append.mp h).elim (fun h => ha w (List.mem_cons.mpr (Or.inr h))) (hb w))
theorem goodIn_sub {big ws : List Cond} (hm : ∀ w ∈ ws, w ∈ big) (h : ws.all goodWord = true) : GoodIn big ws := fun w hw => ⟨hm w hw, good_of_word (List.all_eq_true.mp h w hw)⟩
/-! ===== END ===== -/

/-! ===== BEGIN printed: names, fields, word lists, decode rows ===== -/
def RX0 : String := "NineDancers$History"
def TX0 : u_T := fun k => match k with
  | 0 => ("NineDancers$History", "states", "[LNineDancers$Ring;", true)
  | _ => ("NineDancers$History", "length", "I", false)
def tyX0 : Nat → FieldType := fun k => match k with
  | 0 => .array (.object "NineDancers$Ring")
  | _ => .int
abbrev wsX00 : List Cond := u_ws RX0 TX0 2
theorem nmX0 : ∀ a, a < 2 → ∀ b, b < 2 → a ≠ b → (TX0 a).2.1 ≠ (TX0 b).2.1 := by decide +kernel
theorem tyX0_ok : ∀ k, k < 2 → parseFieldDescriptor (TX0 k).2.2.1 = some (tyX0 k) := by decide +kernel
abbrev cX0_init : ByteArray := prog_2_method_1_code
def yX0_init : MethodName := ⟨RX0, "<init>", "()V"⟩
abbrev cX0_remember : ByteArray := prog_2_method_2_code
def yX0_remember : MethodName := ⟨RX0, "remember", "(LNineDancers$Ring;)V"⟩
abbrev cX0_dropOldest : ByteArray := prog_2_method_3_code
def yX0_dropOldest : MethodName := ⟨RX0, "dropOldest", "()V"⟩
abbrev cX0_takeBackInto : ByteArray := prog_2_method_4_code
def yX0_takeBackInto : MethodName := ⟨RX0, "takeBackInto", "(LNineDancers$Ring;)V"⟩
def RX1 : String := "NineDancers$Pad"
def TX1 : u_T := fun k => match k with
  | 0 => ("NineDancers$Pad", "text", "[C", true)
  | _ => ("NineDancers$Pad", "length", "I", false)
def tyX1 : Nat → FieldType := fun k => match k with
  | 0 => .array .char
  | _ => .int
abbrev wsX10 : List Cond := u_ws RX1 TX1 2
theorem nmX1 : ∀ a, a < 2 → ∀ b, b < 2 → a ≠ b → (TX1 a).2.1 ≠ (TX1 b).2.1 := by decide +kernel
theorem tyX1_ok : ∀ k, k < 2 → parseFieldDescriptor (TX1 k).2.2.1 = some (tyX1 k) := by decide +kernel
abbrev cX1_init : ByteArray := prog_3_method_1_code
def yX1_init : MethodName := ⟨RX1, "<init>", "()V"⟩
abbrev cX1_append : ByteArray := prog_3_method_2_code
def yX1_append : MethodName := ⟨RX1, "append", "(JI)V"⟩
abbrev cX1_empty : ByteArray := prog_3_method_3_code
def yX1_empty : MethodName := ⟨RX1, "empty", "()I"⟩
abbrev cX1_firstFault : ByteArray := prog_3_method_4_code
def yX1_firstFault : MethodName := ⟨RX1, "firstFault", "()I"⟩
abbrev cX1_isDigit : ByteArray := prog_3_method_5_code
def yX1_isDigit : MethodName := ⟨RX1, "isDigit", "(C)Z"⟩
abbrev cX1_canTakeDigit : ByteArray := prog_3_method_6_code
def yX1_canTakeDigit : MethodName := ⟨RX1, "canTakeDigit", "(II)Z"⟩
abbrev cX1_roundsInAll : ByteArray := prog_3_method_7_code
def yX1_roundsInAll : MethodName := ⟨RX1, "roundsInAll", "()I"⟩
abbrev cX1_startsCall : ByteArray := prog_3_method_8_code
def yX1_startsCall : MethodName := ⟨RX1, "startsCall", "(I)Z"⟩
abbrev cX1_hasTimes : ByteArray := prog_3_method_9_code
def yX1_hasTimes : MethodName := ⟨RX1, "hasTimes", "(I)Z"⟩
abbrev cX1_timesAt : ByteArray := prog_3_method_10_code
def yX1_timesAt : MethodName := ⟨RX1, "timesAt", "(I)I"⟩
abbrev cX1_numberAt : ByteArray := prog_3_method_11_code
def yX1_numberAt : MethodName := ⟨RX1, "numberAt", "(I)I"⟩
def RX2 : String := "NineDancers$Ring"
def TX2 : u_T := fun k => match k with
  | 0 => ("NineDancers$Ring", "settings", "[I", true)
  | 1 => ("NineDancers$Ring", "there", "I", false)
  | 2 => ("NineDancers$Ring", "strengths", "[I", true)
  | 3 => ("NineDancers$Ring", "joys", "[I", true)
  | 4 => ("NineDancers$Ring", "roundsDanced", "[I", true)
  | 5 => ("NineDancers$Ring", "roundsRested", "[I", true)
  | 6 => ("NineDancers$Ring", "roundsAlone", "[I", true)
  | 7 => ("NineDancers$Ring", "likings", "[I", true)
  | 8 => ("NineDancers$Ring", "dances", "[I", true)
  | 9 => ("NineDancers$Ring", "lastDances", "[I", true)
  | 10 => ("NineDancers$Ring", "timesTold", "[I", true)
  | 11 => ("NineDancers$Ring", "rounds", "I", false)
  | _ => ("NineDancers$Ring", "lastNumber", "I", false)
def tyX2 : Nat → FieldType := fun k => match k with
  | 0 => .array .int
  | 1 => .int
  | 2 => .array .int
  | 3 => .array .int
  | 4 => .array .int
  | 5 => .array .int
  | 6 => .array .int
  | 7 => .array .int
  | 8 => .array .int
  | 9 => .array .int
  | 10 => .array .int
  | 11 => .int
  | _ => .int
abbrev wsX20 : List Cond := u_ws RX2 TX2 13
theorem nmX2 : ∀ a, a < 13 → ∀ b, b < 13 → a ≠ b → (TX2 a).2.1 ≠ (TX2 b).2.1 := by decide +kernel
theorem tyX2_ok : ∀ k, k < 13 → parseFieldDescriptor (TX2 k).2.2.1 = some (tyX2 k) := by decide +kernel
abbrev cX2_init : ByteArray := prog_4_method_1_code
def yX2_init : MethodName := ⟨RX2, "<init>", "()V"⟩
abbrev cX2_copyFrom : ByteArray := prog_4_method_2_code
def yX2_copyFrom : MethodName := ⟨RX2, "copyFrom", "(LNineDancers$Ring;)V"⟩
abbrev cX2_copyRow : ByteArray := prog_4_method_3_code
def yX2_copyRow : MethodName := ⟨RX2, "copyRow", "([I[I)V"⟩
abbrev cX2_isThere : ByteArray := prog_4_method_4_code
def yX2_isThere : MethodName := ⟨RX2, "isThere", "(I)Z"⟩
abbrev cX2_danceRound : ByteArray := prog_4_method_5_code
def yX2_danceRound : MethodName := ⟨RX2, "danceRound", "(I)I"⟩
abbrev cX2_wouldDance : ByteArray := prog_4_method_6_code
def yX2_wouldDance : MethodName := ⟨RX2, "wouldDance", "(II)Z"⟩
abbrev cX2_dance : ByteArray := prog_4_method_7_code
def yX2_dance : MethodName := ⟨RX2, "dance", "(II)V"⟩
abbrev cX2_joyOfEach : ByteArray := prog_4_method_8_code
def yX2_joyOfEach : MethodName := ⟨RX2, "joyOfEach", "(II)I"⟩
abbrev cX2_takePart : ByteArray := prog_4_method_9_code
def yX2_takePart : MethodName := ⟨RX2, "takePart", "(II)V"⟩
abbrev cX2_leaveAlone : ByteArray := prog_4_method_10_code
def yX2_leaveAlone : MethodName := ⟨RX2, "leaveAlone", "(I)V"⟩
abbrev cX2_rest : ByteArray := prog_4_method_11_code
def yX2_rest : MethodName := ⟨RX2, "rest", "(I)V"⟩
abbrev cX2_dancedWith : ByteArray := prog_4_method_12_code
def yX2_dancedWith : MethodName := ⟨RX2, "dancedWith", "(I)I"⟩
abbrev cX2_mostFrequentPartner : ByteArray := prog_4_method_13_code
def yX2_mostFrequentPartner : MethodName := ⟨RX2, "mostFrequentPartner", "(I)I"⟩
abbrev cX2_isUnmet : ByteArray := prog_4_method_14_code
def yX2_isUnmet : MethodName := ⟨RX2, "isUnmet", "(II)Z"⟩
abbrev cX2_unmetPairs : ByteArray := prog_4_method_15_code
def yX2_unmetPairs : MethodName := ⟨RX2, "unmetPairs", "()I"⟩
abbrev cX2_remaindersWithUnmetPair : ByteArray := prog_4_method_16_code
def yX2_remaindersWithUnmetPair : MethodName := ⟨RX2, "remaindersWithUnmetPair", "()I"⟩
abbrev cX2_hasUnmetPair : ByteArray := prog_4_method_17_code
def yX2_hasUnmetPair : MethodName := ⟨RX2, "hasUnmetPair", "(I)Z"⟩
abbrev cX2_roundsByTrying : ByteArray := prog_4_method_18_code
def yX2_roundsByTrying : MethodName := ⟨RX2, "roundsByTrying", "()I"⟩
abbrev cX2_wouldBring : ByteArray := prog_4_method_19_code
def yX2_wouldBring : MethodName := ⟨RX2, "wouldBring", "(II)I"⟩
abbrev cX2_pairWouldBring : ByteArray := prog_4_method_20_code
def yX2_pairWouldBring : MethodName := ⟨RX2, "pairWouldBring", "(III)I"⟩
def RX3 : String := "NineDancers"
def TX3 : u_T := fun k => match k with
  | 0 => ("NineDancers", "ring", "LNineDancers$Ring;", true)
  | 1 => ("NineDancers", "trial", "LNineDancers$Ring;", true)
  | 2 => ("NineDancers", "pad", "LNineDancers$Pad;", true)
  | 3 => ("NineDancers", "history", "LNineDancers$History;", true)
  | _ => ("NineDancers", "slots", "[LNineDancers$Ring;", true)
def tyX3 : Nat → FieldType := fun k => match k with
  | 0 => .object "NineDancers$Ring"
  | 1 => .object "NineDancers$Ring"
  | 2 => .object "NineDancers$Pad"
  | 3 => .object "NineDancers$History"
  | _ => .array (.object "NineDancers$Ring")
abbrev wsX30 : List Cond := u_ws RX3 TX3 5
theorem nmX3 : ∀ a, a < 5 → ∀ b, b < 5 → a ≠ b → (TX3 a).2.1 ≠ (TX3 b).2.1 := by decide +kernel
theorem tyX3_ok : ∀ k, k < 5 → parseFieldDescriptor (TX3 k).2.2.1 = some (tyX3 k) := by decide +kernel
abbrev cX3_init : ByteArray := prog_1_method_1_code
def yX3_init : MethodName := ⟨RX3, "<init>", "()V"⟩
abbrev cX3_set : ByteArray := prog_1_method_2_code
def yX3_set : MethodName := ⟨RX3, "set", "(II)I"⟩
abbrev cX3_like : ByteArray := prog_1_method_3_code
def yX3_like : MethodName := ⟨RX3, "like", "(III)I"⟩
abbrev cX3_away : ByteArray := prog_1_method_4_code
def yX3_away : MethodName := ⟨RX3, "away", "(IZ)I"⟩
abbrev cX3_call : ByteArray := prog_1_method_5_code
def yX3_call : MethodName := ⟨RX3, "call", "(I)I"⟩
abbrev cX3_read : ByteArray := prog_1_method_6_code
def yX3_read : MethodName := ⟨RX3, "read", "()I"⟩
abbrev cX3_feed : ByteArray := prog_1_method_7_code
def yX3_feed : MethodName := ⟨RX3, "feed", "(II)I"⟩
abbrev cX3_villager : ByteArray := prog_1_method_8_code
def yX3_villager : MethodName := ⟨RX3, "villager", "(II)I"⟩
abbrev cX3_pair : ByteArray := prog_1_method_9_code
def yX3_pair : MethodName := ⟨RX3, "pair", "(III)I"⟩
abbrev cX3_partner : ByteArray := prog_1_method_10_code
def yX3_partner : MethodName := ⟨RX3, "partner", "(II)I"⟩
abbrev cX3_count : ByteArray := prog_1_method_11_code
def yX3_count : MethodName := ⟨RX3, "count", "(I)I"⟩
abbrev cX3_ifCalled : ByteArray := prog_1_method_12_code
def yX3_ifCalled : MethodName := ⟨RX3, "ifCalled", "(II)I"⟩
abbrev cX3_bestCall : ByteArray := prog_1_method_13_code
def yX3_bestCall : MethodName := ⟨RX3, "bestCall", "(I)I"⟩
abbrev cX3_fewestRounds : ByteArray := prog_1_method_14_code
def yX3_fewestRounds : MethodName := ⟨RX3, "fewestRounds", "(I)I"⟩
abbrev cX3_untilAllMet : ByteArray := prog_1_method_15_code
def yX3_untilAllMet : MethodName := ⟨RX3, "untilAllMet", "()I"⟩
abbrev cX3_put : ByteArray := prog_1_method_16_code
def yX3_put : MethodName := ⟨RX3, "put", "(J)I"⟩
abbrev cX3_wipe : ByteArray := prog_1_method_17_code
def yX3_wipe : MethodName := ⟨RX3, "wipe", "()I"⟩
abbrev cX3_undo : ByteArray := prog_1_method_19_code
def yX3_undo : MethodName := ⟨RX3, "undo", "()I"⟩
abbrev cX3_save : ByteArray := prog_1_method_20_code
def yX3_save : MethodName := ⟨RX3, "save", "(I)I"⟩
abbrev cX3_restore : ByteArray := prog_1_method_21_code
def yX3_restore : MethodName := ⟨RX3, "restore", "(I)I"⟩
abbrev cX3_isVillager : ByteArray := prog_1_method_22_code
def yX3_isVillager : MethodName := ⟨RX3, "isVillager", "(I)Z"⟩
abbrev cX3_isNumber : ByteArray := prog_1_method_23_code
def yX3_isNumber : MethodName := ⟨RX3, "isNumber", "(I)Z"⟩
abbrev cX3_isSlot : ByteArray := prog_1_method_24_code
def yX3_isSlot : MethodName := ⟨RX3, "isSlot", "(I)Z"⟩
abbrev cX3_pairIndex : ByteArray := prog_1_method_25_code
def yX3_pairIndex : MethodName := ⟨RX3, "pairIndex", "(II)I"⟩
abbrev cX3_counterpart : ByteArray := prog_1_method_26_code
def yX3_counterpart : MethodName := ⟨RX3, "counterpart", "(II)I"⟩
abbrev cX3_remainderOf : ByteArray := prog_1_method_27_code
def yX3_remainderOf : MethodName := ⟨RX3, "remainderOf", "(I)I"⟩
abbrev cX3_sumOf : ByteArray := prog_1_method_28_code
def yX3_sumOf : MethodName := ⟨RX3, "sumOf", "([I)I"⟩
abbrev cX3_charactersIn : ByteArray := prog_1_method_29_code
def yX3_charactersIn : MethodName := ⟨RX3, "charactersIn", "(J)I"⟩
abbrev cX3_tellNumbersOfPad : ByteArray := prog_1_method_30_code
def yX3_tellNumbersOfPad : MethodName := ⟨RX3, "tellNumbersOfPad", "()I"⟩
abbrev cX3_tell : ByteArray := prog_1_method_31_code
def yX3_tell : MethodName := ⟨RX3, "tell", "(II)I"⟩
def RX4 : String := "NineDancersModel"
def TX4 : u_T := fun k => match k with
  | _ => ("", "", "", false)
def tyX4 : Nat → FieldType := fun k => match k with
  | _ => .int
abbrev wsX40 : List Cond := u_ws RX4 TX4 0
theorem nmX4 : ∀ a, a < 0 → ∀ b, b < 0 → a ≠ b → (TX4 a).2.1 ≠ (TX4 b).2.1 := by decide +kernel
theorem tyX4_ok : ∀ k, k < 0 → parseFieldDescriptor (TX4 k).2.2.1 = some (tyX4 k) := by decide +kernel
def RJ6 : String := "java/lang/Integer"
def TJ6 : u_T := fun k => match k with
  | _ => ("", "", "", false)
def tyJ6 : Nat → FieldType := fun k => match k with
  | _ => .int
abbrev wsJ60 : List Cond := u_ws RJ6 TJ6 0
theorem nmJ6 : ∀ a, a < 0 → ∀ b, b < 0 → a ≠ b → (TJ6 a).2.1 ≠ (TJ6 b).2.1 := by decide +kernel
theorem tyJ6_ok : ∀ k, k < 0 → parseFieldDescriptor (TJ6 k).2.2.1 = some (tyJ6 k) := by decide +kernel
abbrev cJ6_bitCount_0f7a4 : ByteArray := prog_7_method_49_code
def yJ6_bitCount_0f7a4 : MethodName := ⟨RJ6, "bitCount", "(I)I"⟩
def RJ9 : String := "java/lang/Math"
def TJ9 : u_T := fun k => match k with
  | _ => ("", "", "", false)
def tyJ9 : Nat → FieldType := fun k => match k with
  | _ => .int
abbrev wsJ90 : List Cond := u_ws RJ9 TJ9 0
theorem nmJ9 : ∀ a, a < 0 → ∀ b, b < 0 → a ≠ b → (TJ9 a).2.1 ≠ (TJ9 b).2.1 := by decide +kernel
theorem tyJ9_ok : ∀ k, k < 0 → parseFieldDescriptor (TJ9 k).2.2.1 = some (tyJ9 k) := by decide +kernel
abbrev cJ9_floorMod_7cf53 : ByteArray := prog_8_method_50_code
def yJ9_floorMod_7cf53 : MethodName := ⟨RJ9, "floorMod", "(II)I"⟩
abbrev cJ9_min_7cf53 : ByteArray := prog_8_method_69_code
def yJ9_min_7cf53 : MethodName := ⟨RJ9, "min", "(II)I"⟩
def RJ10 : String := "java/lang/System"
def TJ10 : u_T := fun k => match k with
  | _ => ("", "", "", false)
def tyJ10 : Nat → FieldType := fun k => match k with
  | _ => .int
abbrev wsJ100 : List Cond := u_ws RJ10 TJ10 0
theorem nmJ10 : ∀ a, a < 0 → ∀ b, b < 0 → a ≠ b → (TJ10 a).2.1 ≠ (TJ10 b).2.1 := by decide +kernel
theorem tyJ10_ok : ∀ k, k < 0 → parseFieldDescriptor (TJ10 k).2.2.1 = some (tyJ10 k) := by decide +kernel
def RJ7 : String := "java/util/Arrays"
def TJ7 : u_T := fun k => match k with
  | _ => ("", "", "", false)
def tyJ7 : Nat → FieldType := fun k => match k with
  | _ => .int
abbrev wsJ70 : List Cond := u_ws RJ7 TJ7 0
theorem nmJ7 : ∀ a, a < 0 → ∀ b, b < 0 → a ≠ b → (TJ7 a).2.1 ≠ (TJ7 b).2.1 := by decide +kernel
theorem tyJ7_ok : ∀ k, k < 0 → parseFieldDescriptor (TJ7 k).2.2.1 = some (tyJ7 k) := by decide +kernel
abbrev cJ7_fill_53178 : ByteArray := prog_10_method_103_code
def yJ7_fill_53178 : MethodName := ⟨RJ7, "fill", "([II)V"⟩
def RL : String := "NineDancersLaw"
abbrev cL_cell : ByteArray := method_2_code
def yL_cell : MethodName := ⟨RL, "cell", "([II)I"⟩
abbrev cL_up : ByteArray := method_3_code
def yL_up : MethodName := ⟨RL, "up", "(II)I"⟩
abbrev cL_there : ByteArray := method_4_code
def yL_there : MethodName := ⟨RL, "there", "(I)I"⟩
abbrev cL_twice : ByteArray := method_5_code
def yL_twice : MethodName := ⟨RL, "twice", "(I)I"⟩
abbrev cL_number : ByteArray := method_6_code
def yL_number : MethodName := ⟨RL, "number", "(LNineDancers;I)Z"⟩
abbrev cL_bits : ByteArray := method_7_code
def yL_bits : MethodName := ⟨RL, "bits", "(I)I"⟩
abbrev cL_isStep : ByteArray := method_8_code
def yL_isStep : MethodName := ⟨RL, "isStep", "(LNineDancers;LNineDancers;II)Z"⟩
abbrev cL_isRound : ByteArray := method_9_code
def yL_isRound : MethodName := ⟨RL, "isRound", "(LNineDancers;I)Z"⟩
abbrev cL_areAlike : ByteArray := method_10_code
def yL_areAlike : MethodName := ⟨RL, "areAlike", "(LNineDancers;LNineDancers;I)Z"⟩
abbrev cL_isWell : ByteArray := method_11_code
def yL_isWell : MethodName := ⟨RL, "isWell", "(LNineDancers;)Z"⟩
abbrev cL_law : ByteArray := code
def yL_law : MethodName := ⟨RL, "law", "([I)Z"⟩
def wsJ7_fill_53178 : List Cond := .code yJ7_fill_53178 cJ7_fill_53178 4 none :: ([])
def wsX2_init : List Cond := .code yX2_init cX2_init 1 none :: ([.methodLink RX2 3 objectInit, .instanceMethod objectInit, .code objectInit ⟨#[0xb1]⟩ 1 none, .arrayClass .int, .fieldLink RX2 9 "NineDancers$Ring" "settings" "[I", .fieldLink RX2 15 "NineDancers$Ring" "there" "I", .fieldLink RX2 19 "NineDancers$Ring" "strengths" "[I", .fieldLink RX2 22 "NineDancers$Ring" "joys" "[I", .fieldLink RX2 25 "NineDancers$Ring" "roundsDanced" "[I", .fieldLink RX2 28 "NineDancers$Ring" "roundsRested" "[I", .fieldLink RX2 31 "NineDancers$Ring" "roundsAlone" "[I", .fieldLink RX2 34 "NineDancers$Ring" "likings" "[I", .fieldLink RX2 37 "NineDancers$Ring" "dances" "[I", .fieldLink RX2 40 "NineDancers$Ring" "lastDances" "[I", .fieldLink RX2 43 "NineDancers$Ring" "timesTold" "[I", .fieldLink RX2 46 "NineDancers$Ring" "rounds" "I", .constant RX2 49 (-1000006), .fieldLink RX2 50 "NineDancers$Ring" "lastNumber" "I", .methodLink RX2 53 yJ7_fill_53178, .static yJ7_fill_53178, .initialized RJ7, .code yJ7_fill_53178 cJ7_fill_53178 4 none] ++ wsX20)
def wsX0_init_r1 : List Cond := [Cond.methodLink RX0 3 objectInit, Cond.instanceMethod objectInit, Cond.code objectInit ⟨#[0xb1]⟩ 1 none, Cond.classLink RX0 9 RX2, Cond.fieldLink RX0 11 "NineDancers$History" "states" "[LNineDancers$Ring;", Cond.fieldLink RX0 17 "NineDancers$History" "length" "I", Cond.instantiable RX2 13, Cond.initialized RX2, Cond.methodLink RX0 21 yX2_init, Cond.instanceMethod yX2_init, Cond.code yX2_init cX2_init 1 none, Cond.methodLink RX2 3 objectInit, Cond.arrayClass .int, Cond.fieldLink RX2 9 "NineDancers$Ring" "settings" "[I", Cond.fieldLink RX2 15 "NineDancers$Ring" "there" "I", Cond.fieldLink RX2 19 "NineDancers$Ring" "strengths" "[I", Cond.fieldLink RX2 22 "NineDancers$Ring" "joys" "[I", Cond.fieldLink RX2 25 "NineDancers$Ring" "roundsDanced" "[I", Cond.fieldLink RX2 28 "NineDancers$Ring" "roundsRested" "[I", Cond.fieldLink RX2 31 "NineDancers$Ring" "roundsAlone" "[I", Cond.fieldLink RX2 34 "NineDancers$Ring" "likings" "[I", Cond.fieldLink RX2 37 "NineDancers$Ring" "dances" "[I", Cond.fieldLink RX2 40 "NineDancers$Ring" "lastDances" "[I", Cond.fieldLink RX2 43 "NineDancers$Ring" "timesTold" "[I"]
def wsX0_init_r2 : List Cond := [Cond.fieldLink RX2 46 "NineDancers$Ring" "rounds" "I", Cond.constant RX2 49 (-1000006), Cond.fieldLink RX2 50 "NineDancers$Ring" "lastNumber" "I", Cond.methodLink RX2 53 yJ7_fill_53178, Cond.static yJ7_fill_53178, Cond.initialized RJ7, Cond.code yJ7_fill_53178 cJ7_fill_53178 4 none]
def wsX0_init : List Cond := .code yX0_init cX0_init 2 none :: ((wsX0_init_r1 ++ wsX0_init_r2) ++ wsX00 ++ wsX20)
def wsX0_dropOldest : List Cond := .code yX0_dropOldest cX0_dropOldest 3 none :: ([.fieldLink RX0 11 "NineDancers$History" "states" "[LNineDancers$Ring;", .fieldLink RX0 17 "NineDancers$History" "length" "I"] ++ wsX00)
def wsX2_copyRow : List Cond := .code yX2_copyRow cX2_copyRow 2 none :: ([.methodLink RX2 63 Lib.Math.min.name, .static Lib.Math.min.name, .initialized "java/lang/Math", .code Lib.Math.min.name Lib.Math.min.code 2 (some .int), .methodLink RX2 69 arraycopyName, .native arraycopyName, .static arraycopyName, .initialized "java/lang/System"])
def wsX2_copyFrom_r1 : List Cond := [Cond.fieldLink RX2 9 "NineDancers$Ring" "settings" "[I", Cond.fieldLink RX2 15 "NineDancers$Ring" "there" "I", Cond.fieldLink RX2 19 "NineDancers$Ring" "strengths" "[I", Cond.fieldLink RX2 22 "NineDancers$Ring" "joys" "[I", Cond.fieldLink RX2 25 "NineDancers$Ring" "roundsDanced" "[I", Cond.fieldLink RX2 28 "NineDancers$Ring" "roundsRested" "[I", Cond.fieldLink RX2 31 "NineDancers$Ring" "roundsAlone" "[I", Cond.fieldLink RX2 34 "NineDancers$Ring" "likings" "[I", Cond.fieldLink RX2 37 "NineDancers$Ring" "dances" "[I", Cond.fieldLink RX2 40 "NineDancers$Ring" "lastDances" "[I", Cond.fieldLink RX2 43 "NineDancers$Ring" "timesTold" "[I", Cond.fieldLink RX2 46 "NineDancers$Ring" "rounds" "I", Cond.fieldLink RX2 50 "NineDancers$Ring" "lastNumber" "I", Cond.methodLink RX2 59 yX2_copyRow, Cond.static yX2_copyRow, Cond.initialized RX2, Cond.code yX2_copyRow cX2_copyRow 2 none, Cond.methodLink RX2 63 Lib.Math.min.name, Cond.static Lib.Math.min.name, Cond.initialized "java/lang/Math", Cond.code Lib.Math.min.name Lib.Math.min.code 2 (some .int), Cond.methodLink RX2 69 arraycopyName, Cond.native arraycopyName, Cond.static arraycopyName]
def wsX2_copyFrom_r2 : List Cond := [Cond.initialized "java/lang/System"]
def wsX2_copyFrom : List Cond := .code yX2_copyFrom cX2_copyFrom 2 none :: ((wsX2_copyFrom_r1 ++ wsX2_copyFrom_r2) ++ wsX20)
def wsX0_remember_r1 : List Cond := [Cond.fieldLink RX0 17 "NineDancers$History" "length" "I", Cond.fieldLink RX0 11 "NineDancers$History" "states" "[LNineDancers$Ring;", Cond.methodLink RX0 22 yX0_dropOldest, Cond.instanceMethod yX0_dropOldest, Cond.selects RX0 yX0_dropOldest yX0_dropOldest, Cond.initialized RX0, Cond.code yX0_dropOldest cX0_dropOldest 3 none, Cond.methodLink RX0 25 yX2_copyFrom, Cond.instanceMethod yX2_copyFrom, Cond.selects RX2 yX2_copyFrom yX2_copyFrom, Cond.initialized RX2, Cond.code yX2_copyFrom cX2_copyFrom 2 none, Cond.fieldLink RX2 9 "NineDancers$Ring" "settings" "[I", Cond.fieldLink RX2 15 "NineDancers$Ring" "there" "I", Cond.fieldLink RX2 19 "NineDancers$Ring" "strengths" "[I", Cond.fieldLink RX2 22 "NineDancers$Ring" "joys" "[I", Cond.fieldLink RX2 25 "NineDancers$Ring" "roundsDanced" "[I", Cond.fieldLink RX2 28 "NineDancers$Ring" "roundsRested" "[I", Cond.fieldLink RX2 31 "NineDancers$Ring" "roundsAlone" "[I", Cond.fieldLink RX2 34 "NineDancers$Ring" "likings" "[I", Cond.fieldLink RX2 37 "NineDancers$Ring" "dances" "[I", Cond.fieldLink RX2 40 "NineDancers$Ring" "lastDances" "[I", Cond.fieldLink RX2 43 "NineDancers$Ring" "timesTold" "[I", Cond.fieldLink RX2 46 "NineDancers$Ring" "rounds" "I"]
def wsX0_remember_r2 : List Cond := [Cond.fieldLink RX2 50 "NineDancers$Ring" "lastNumber" "I", Cond.methodLink RX2 59 yX2_copyRow, Cond.static yX2_copyRow, Cond.code yX2_copyRow cX2_copyRow 2 none, Cond.methodLink RX2 63 Lib.Math.min.name, Cond.static Lib.Math.min.name, Cond.initialized "java/lang/Math", Cond.code Lib.Math.min.name Lib.Math.min.code 2 (some .int), Cond.methodLink RX2 69 arraycopyName, Cond.native arraycopyName, Cond.static arraycopyName, Cond.initialized "java/lang/System"]
def wsX0_remember : List Cond := .code yX0_remember cX0_remember 2 none :: ((wsX0_remember_r1 ++ wsX0_remember_r2) ++ wsX00 ++ wsX20)
def wsX0_takeBackInto_r1 : List Cond := [Cond.fieldLink RX0 17 "NineDancers$History" "length" "I", Cond.fieldLink RX0 11 "NineDancers$History" "states" "[LNineDancers$Ring;", Cond.methodLink RX0 25 yX2_copyFrom, Cond.instanceMethod yX2_copyFrom, Cond.selects RX2 yX2_copyFrom yX2_copyFrom, Cond.initialized RX2, Cond.code yX2_copyFrom cX2_copyFrom 2 none, Cond.fieldLink RX2 9 "NineDancers$Ring" "settings" "[I", Cond.fieldLink RX2 15 "NineDancers$Ring" "there" "I", Cond.fieldLink RX2 19 "NineDancers$Ring" "strengths" "[I", Cond.fieldLink RX2 22 "NineDancers$Ring" "joys" "[I", Cond.fieldLink RX2 25 "NineDancers$Ring" "roundsDanced" "[I", Cond.fieldLink RX2 28 "NineDancers$Ring" "roundsRested" "[I", Cond.fieldLink RX2 31 "NineDancers$Ring" "roundsAlone" "[I", Cond.fieldLink RX2 34 "NineDancers$Ring" "likings" "[I", Cond.fieldLink RX2 37 "NineDancers$Ring" "dances" "[I", Cond.fieldLink RX2 40 "NineDancers$Ring" "lastDances" "[I", Cond.fieldLink RX2 43 "NineDancers$Ring" "timesTold" "[I", Cond.fieldLink RX2 46 "NineDancers$Ring" "rounds" "I", Cond.fieldLink RX2 50 "NineDancers$Ring" "lastNumber" "I", Cond.methodLink RX2 59 yX2_copyRow, Cond.static yX2_copyRow, Cond.code yX2_copyRow cX2_copyRow 2 none, Cond.methodLink RX2 63 Lib.Math.min.name]
def wsX0_takeBackInto_r2 : List Cond := [Cond.static Lib.Math.min.name, Cond.initialized "java/lang/Math", Cond.code Lib.Math.min.name Lib.Math.min.code 2 (some .int), Cond.methodLink RX2 69 arraycopyName, Cond.native arraycopyName, Cond.static arraycopyName, Cond.initialized "java/lang/System"]
def wsX0_takeBackInto : List Cond := .code yX0_takeBackInto cX0_takeBackInto 2 none :: ((wsX0_takeBackInto_r1 ++ wsX0_takeBackInto_r2) ++ wsX00 ++ wsX20)
def wsX1_init : List Cond := .code yX1_init cX1_init 1 none :: ([.methodLink RX1 3 objectInit, .instanceMethod objectInit, .code objectInit ⟨#[0xb1]⟩ 1 none, .arrayClass .char, .fieldLink RX1 9 "NineDancers$Pad" "text" "[C", .fieldLink RX1 15 "NineDancers$Pad" "length" "I"] ++ wsX10)
def wsX1_append : List Cond := .code yX1_append cX1_append 5 none :: ([.fieldLink RX1 15 "NineDancers$Pad" "length" "I", .fieldLink RX1 9 "NineDancers$Pad" "text" "[C", .constantLong RX1 19 (255)] ++ wsX10)
def wsX1_empty : List Cond := .code yX1_empty cX1_empty 2 (some .int) :: ([.fieldLink RX1 15 "NineDancers$Pad" "length" "I"] ++ wsX10)
def wsX1_isDigit : List Cond := .code yX1_isDigit cX1_isDigit 1 (some .boolean) :: ([])
def wsX1_canTakeDigit : List Cond := .code yX1_canTakeDigit cX1_canTakeDigit 2 (some .boolean) :: ([])
def wsX1_firstFault : List Cond := .code yX1_firstFault cX1_firstFault 6 (some .int) :: ([.fieldLink RX1 15 "NineDancers$Pad" "length" "I", .fieldLink RX1 9 "NineDancers$Pad" "text" "[C", .constant RX1 29 (-1000006), .methodLink RX1 21 yX1_isDigit, .static yX1_isDigit, .initialized RX1, .code yX1_isDigit cX1_isDigit 1 (some .boolean), .methodLink RX1 25 yX1_canTakeDigit, .static yX1_canTakeDigit, .code yX1_canTakeDigit cX1_canTakeDigit 2 (some .boolean)] ++ wsX10)
def wsX1_startsCall : List Cond := .code yX1_startsCall cX1_startsCall 2 (some .boolean) :: ([.fieldLink RX1 9 "NineDancers$Pad" "text" "[C"] ++ wsX10)
def wsX1_hasTimes : List Cond := .code yX1_hasTimes cX1_hasTimes 2 (some .boolean) :: ([.fieldLink RX1 15 "NineDancers$Pad" "length" "I", .fieldLink RX1 9 "NineDancers$Pad" "text" "[C"] ++ wsX10)
def wsX1_timesAt : List Cond := .code yX1_timesAt cX1_timesAt 2 (some .int) :: ([.fieldLink RX1 9 "NineDancers$Pad" "text" "[C", .methodLink RX1 38 yX1_hasTimes, .instanceMethod yX1_hasTimes, .selects RX1 yX1_hasTimes yX1_hasTimes, .initialized RX1, .code yX1_hasTimes cX1_hasTimes 2 (some .boolean), .fieldLink RX1 15 "NineDancers$Pad" "length" "I"] ++ wsX10)
def wsX1_roundsInAll : List Cond := .code yX1_roundsInAll cX1_roundsInAll 3 (some .int) :: ([.fieldLink RX1 15 "NineDancers$Pad" "length" "I", .methodLink RX1 30 yX1_startsCall, .instanceMethod yX1_startsCall, .selects RX1 yX1_startsCall yX1_startsCall, .initialized RX1, .code yX1_startsCall cX1_startsCall 2 (some .boolean), .fieldLink RX1 9 "NineDancers$Pad" "text" "[C", .methodLink RX1 34 yX1_timesAt, .instanceMethod yX1_timesAt, .selects RX1 yX1_timesAt yX1_timesAt, .code yX1_timesAt cX1_timesAt 2 (some .int), .methodLink RX1 38 yX1_hasTimes, .instanceMethod yX1_hasTimes, .selects RX1 yX1_hasTimes yX1_hasTimes, .code yX1_hasTimes cX1_hasTimes 2 (some .boolean)] ++ wsX10)
def wsX1_numberAt : List Cond := .code yX1_numberAt cX1_numberAt 5 (some .int) :: ([.fieldLink RX1 15 "NineDancers$Pad" "length" "I", .fieldLink RX1 9 "NineDancers$Pad" "text" "[C", .methodLink RX1 38 yX1_hasTimes, .instanceMethod yX1_hasTimes, .selects RX1 yX1_hasTimes yX1_hasTimes, .initialized RX1, .code yX1_hasTimes cX1_hasTimes 2 (some .boolean), .methodLink RX1 21 yX1_isDigit, .static yX1_isDigit, .code yX1_isDigit cX1_isDigit 1 (some .boolean)] ++ wsX10)
def wsX2_isThere : List Cond := .code yX2_isThere cX2_isThere 2 (some .boolean) :: ([.fieldLink RX2 15 "NineDancers$Ring" "there" "I"] ++ wsX20)
def wsJ9_floorMod_7cf53 : List Cond := .code yJ9_floorMod_7cf53 cJ9_floorMod_7cf53 3 (some .int) :: ([])
def wsX3_remainderOf : List Cond := .code yX3_remainderOf cX3_remainderOf 1 (some .int) :: ([.methodLink RX3 173 yJ9_floorMod_7cf53, .static yJ9_floorMod_7cf53, .initialized RJ9, .code yJ9_floorMod_7cf53 cJ9_floorMod_7cf53 3 (some .int)])
def wsX3_counterpart : List Cond := .code yX3_counterpart cX3_counterpart 2 (some .int) :: ([.methodLink RX3 118 yX3_remainderOf, .static yX3_remainderOf, .initialized RX3, .code yX3_remainderOf cX3_remainderOf 1 (some .int), .methodLink RX3 173 yJ9_floorMod_7cf53, .static yJ9_floorMod_7cf53, .initialized RJ9, .code yJ9_floorMod_7cf53 cJ9_floorMod_7cf53 3 (some .int)])
def wsX2_rest : List Cond := .code yX2_rest cX2_rest 2 none :: ([.fieldLink RX2 28 "NineDancers$Ring" "roundsRested" "[I", .fieldLink RX2 19 "NineDancers$Ring" "strengths" "[I", .fieldLink RX2 9 "NineDancers$Ring" "settings" "[I", .methodLink RX2 63 Lib.Math.min.name, .static Lib.Math.min.name, .initialized "java/lang/Math", .code Lib.Math.min.name Lib.Math.min.code 2 (some .int), .methodLink RX2 97 yX2_isThere, .instanceMethod yX2_isThere, .selects RX2 yX2_isThere yX2_isThere, .initialized RX2, .code yX2_isThere cX2_isThere 2 (some .boolean), .fieldLink RX2 15 "NineDancers$Ring" "there" "I"] ++ wsX20)
def wsX2_wouldDance : List Cond := .code yX2_wouldDance cX2_wouldDance 3 (some .boolean) :: ([.fieldLink RX2 19 "NineDancers$Ring" "strengths" "[I", .fieldLink RX2 9 "NineDancers$Ring" "settings" "[I", .methodLink RX2 97 yX2_isThere, .instanceMethod yX2_isThere, .selects RX2 yX2_isThere yX2_isThere, .initialized RX2, .code yX2_isThere cX2_isThere 2 (some .boolean), .fieldLink RX2 15 "NineDancers$Ring" "there" "I"] ++ wsX20)
def wsX3_pairIndex : List Cond := .code yX3_pairIndex cX3_pairIndex 2 (some .int) :: ([])
def wsX2_joyOfEach : List Cond := .code yX2_joyOfEach cX2_joyOfEach 3 (some .int) :: ([.fieldLink RX2 9 "NineDancers$Ring" "settings" "[I", .fieldLink RX2 34 "NineDancers$Ring" "likings" "[I", .static yX3_pairIndex, .initialized RX3, .code yX3_pairIndex cX3_pairIndex 2 (some .int)] ++ wsX20)
def wsX2_takePart : List Cond := .code yX2_takePart cX2_takePart 3 none :: ([.fieldLink RX2 22 "NineDancers$Ring" "joys" "[I", .fieldLink RX2 19 "NineDancers$Ring" "strengths" "[I", .fieldLink RX2 9 "NineDancers$Ring" "settings" "[I", .fieldLink RX2 25 "NineDancers$Ring" "roundsDanced" "[I"] ++ wsX20)
def wsX2_dance : List Cond := .code yX2_dance cX2_dance 5 none :: ([.fieldLink RX2 37 "NineDancers$Ring" "dances" "[I", .fieldLink RX2 40 "NineDancers$Ring" "lastDances" "[I", .fieldLink RX2 46 "NineDancers$Ring" "rounds" "I", .methodLink RX2 101 yX2_joyOfEach, .instanceMethod yX2_joyOfEach, .selects RX2 yX2_joyOfEach yX2_joyOfEach, .initialized RX2, .code yX2_joyOfEach cX2_joyOfEach 3 (some .int), .fieldLink RX2 9 "NineDancers$Ring" "settings" "[I", .fieldLink RX2 34 "NineDancers$Ring" "likings" "[I", .static yX3_pairIndex, .initialized RX3, .code yX3_pairIndex cX3_pairIndex 2 (some .int), .methodLink RX2 104 yX2_takePart, .instanceMethod yX2_takePart, .selects RX2 yX2_takePart yX2_takePart, .code yX2_takePart cX2_takePart 3 none, .fieldLink RX2 22 "NineDancers$Ring" "joys" "[I", .fieldLink RX2 19 "NineDancers$Ring" "strengths" "[I", .fieldLink RX2 25 "NineDancers$Ring" "roundsDanced" "[I"] ++ wsX20)
def wsX2_leaveAlone : List Cond := .code yX2_leaveAlone cX2_leaveAlone 2 none :: ([.fieldLink RX2 31 "NineDancers$Ring" "roundsAlone" "[I", .methodLink RX2 97 yX2_isThere, .instanceMethod yX2_isThere, .selects RX2 yX2_isThere yX2_isThere, .initialized RX2, .code yX2_isThere cX2_isThere 2 (some .boolean), .fieldLink RX2 15 "NineDancers$Ring" "there" "I", .methodLink RX2 78 yX2_rest, .instanceMethod yX2_rest, .selects RX2 yX2_rest yX2_rest, .code yX2_rest cX2_rest 2 none, .fieldLink RX2 28 "NineDancers$Ring" "roundsRested" "[I", .fieldLink RX2 19 "NineDancers$Ring" "strengths" "[I", .fieldLink RX2 9 "NineDancers$Ring" "settings" "[I", .methodLink RX2 63 Lib.Math.min.name, .static Lib.Math.min.name, .initialized "java/lang/Math", .code Lib.Math.min.name Lib.Math.min.code 2 (some .int)] ++ wsX20)
def wsX2_danceRound_r1 : List Cond := [Cond.fieldLink RX2 43 "NineDancers$Ring" "timesTold" "[I", Cond.fieldLink RX2 50 "NineDancers$Ring" "lastNumber" "I", Cond.fieldLink RX2 46 "NineDancers$Ring" "rounds" "I", Cond.static yX3_counterpart, Cond.initialized RX3, Cond.code yX3_counterpart cX3_counterpart 2 (some .int), Cond.methodLink RX3 118 yX3_remainderOf, Cond.static yX3_remainderOf, Cond.code yX3_remainderOf cX3_remainderOf 1 (some .int), Cond.methodLink RX3 173 yJ9_floorMod_7cf53, Cond.static yJ9_floorMod_7cf53, Cond.initialized RJ9, Cond.code yJ9_floorMod_7cf53 cJ9_floorMod_7cf53 3 (some .int), Cond.methodLink RX2 78 yX2_rest, Cond.instanceMethod yX2_rest, Cond.selects RX2 yX2_rest yX2_rest, Cond.initialized RX2, Cond.code yX2_rest cX2_rest 2 none, Cond.fieldLink RX2 28 "NineDancers$Ring" "roundsRested" "[I", Cond.fieldLink RX2 19 "NineDancers$Ring" "strengths" "[I", Cond.fieldLink RX2 9 "NineDancers$Ring" "settings" "[I", Cond.methodLink RX2 63 Lib.Math.min.name, Cond.static Lib.Math.min.name, Cond.initialized "java/lang/Math"]
def wsX2_danceRound_r2 : List Cond := [Cond.code Lib.Math.min.name Lib.Math.min.code 2 (some .int), Cond.methodLink RX2 97 yX2_isThere, Cond.instanceMethod yX2_isThere, Cond.selects RX2 yX2_isThere yX2_isThere, Cond.code yX2_isThere cX2_isThere 2 (some .boolean), Cond.fieldLink RX2 15 "NineDancers$Ring" "there" "I", Cond.methodLink RX2 82 yX2_wouldDance, Cond.instanceMethod yX2_wouldDance, Cond.selects RX2 yX2_wouldDance yX2_wouldDance, Cond.code yX2_wouldDance cX2_wouldDance 3 (some .boolean), Cond.methodLink RX2 86 yX2_dance, Cond.instanceMethod yX2_dance, Cond.selects RX2 yX2_dance yX2_dance, Cond.code yX2_dance cX2_dance 5 none, Cond.fieldLink RX2 37 "NineDancers$Ring" "dances" "[I", Cond.fieldLink RX2 40 "NineDancers$Ring" "lastDances" "[I", Cond.methodLink RX2 101 yX2_joyOfEach, Cond.instanceMethod yX2_joyOfEach, Cond.selects RX2 yX2_joyOfEach yX2_joyOfEach, Cond.code yX2_joyOfEach cX2_joyOfEach 3 (some .int), Cond.fieldLink RX2 34 "NineDancers$Ring" "likings" "[I", Cond.static yX3_pairIndex, Cond.code yX3_pairIndex cX3_pairIndex 2 (some .int), Cond.methodLink RX2 104 yX2_takePart]
def wsX2_danceRound_r3 : List Cond := [Cond.instanceMethod yX2_takePart, Cond.selects RX2 yX2_takePart yX2_takePart, Cond.code yX2_takePart cX2_takePart 3 none, Cond.fieldLink RX2 22 "NineDancers$Ring" "joys" "[I", Cond.fieldLink RX2 25 "NineDancers$Ring" "roundsDanced" "[I", Cond.methodLink RX2 90 yX2_leaveAlone, Cond.instanceMethod yX2_leaveAlone, Cond.selects RX2 yX2_leaveAlone yX2_leaveAlone, Cond.code yX2_leaveAlone cX2_leaveAlone 2 none, Cond.fieldLink RX2 31 "NineDancers$Ring" "roundsAlone" "[I"]
def wsX2_danceRound : List Cond := .code yX2_danceRound cX2_danceRound 5 (some .int) :: ((wsX2_danceRound_r1 ++ (wsX2_danceRound_r2 ++ wsX2_danceRound_r3)) ++ wsX20)
def wsX2_dancedWith : List Cond := .code yX2_dancedWith cX2_dancedWith 4 (some .int) :: ([.fieldLink RX2 37 "NineDancers$Ring" "dances" "[I", .static yX3_pairIndex, .initialized RX3, .code yX3_pairIndex cX3_pairIndex 2 (some .int)] ++ wsX20)
def wsX2_mostFrequentPartner : List Cond := .code yX2_mostFrequentPartner cX2_mostFrequentPartner 6 (some .int) :: ([.constant RX2 49 (-1000006), .fieldLink RX2 37 "NineDancers$Ring" "dances" "[I", .static yX3_pairIndex, .initialized RX3, .code yX3_pairIndex cX3_pairIndex 2 (some .int)] ++ wsX20)
def wsX2_isUnmet : List Cond := .code yX2_isUnmet cX2_isUnmet 3 (some .boolean) :: ([.fieldLink RX2 37 "NineDancers$Ring" "dances" "[I", .methodLink RX2 97 yX2_isThere, .instanceMethod yX2_isThere, .selects RX2 yX2_isThere yX2_isThere, .initialized RX2, .code yX2_isThere cX2_isThere 2 (some .boolean), .fieldLink RX2 15 "NineDancers$Ring" "there" "I", .static yX3_pairIndex, .initialized RX3, .code yX3_pairIndex cX3_pairIndex 2 (some .int)] ++ wsX20)
def wsX2_unmetPairs : List Cond := .code yX2_unmetPairs cX2_unmetPairs 4 (some .int) :: ([.methodLink RX2 110 yX2_isUnmet, .instanceMethod yX2_isUnmet, .selects RX2 yX2_isUnmet yX2_isUnmet, .initialized RX2, .code yX2_isUnmet cX2_isUnmet 3 (some .boolean), .fieldLink RX2 37 "NineDancers$Ring" "dances" "[I", .methodLink RX2 97 yX2_isThere, .instanceMethod yX2_isThere, .selects RX2 yX2_isThere yX2_isThere, .code yX2_isThere cX2_isThere 2 (some .boolean), .fieldLink RX2 15 "NineDancers$Ring" "there" "I", .static yX3_pairIndex, .initialized RX3, .code yX3_pairIndex cX3_pairIndex 2 (some .int)] ++ wsX20)
def wsX2_hasUnmetPair : List Cond := .code yX2_hasUnmetPair cX2_hasUnmetPair 4 (some .boolean) :: ([.static yX3_counterpart, .initialized RX3, .code yX3_counterpart cX3_counterpart 2 (some .int), .methodLink RX3 118 yX3_remainderOf, .static yX3_remainderOf, .code yX3_remainderOf cX3_remainderOf 1 (some .int), .methodLink RX3 173 yJ9_floorMod_7cf53, .static yJ9_floorMod_7cf53, .initialized RJ9, .code yJ9_floorMod_7cf53 cJ9_floorMod_7cf53 3 (some .int), .methodLink RX2 110 yX2_isUnmet, .instanceMethod yX2_isUnmet, .selects RX2 yX2_isUnmet yX2_isUnmet, .initialized RX2, .code yX2_isUnmet cX2_isUnmet 3 (some .boolean), .fieldLink RX2 37 "NineDancers$Ring" "dances" "[I", .methodLink RX2 97 yX2_isThere, .instanceMethod yX2_isThere, .selects RX2 yX2_isThere yX2_isThere, .code yX2_isThere cX2_isThere 2 (some .boolean), .fieldLink RX2 15 "NineDancers$Ring" "there" "I", .static yX3_pairIndex, .code yX3_pairIndex cX3_pairIndex 2 (some .int)] ++ wsX20)
def wsX2_remaindersWithUnmetPair_r1 : List Cond := [Cond.methodLink RX2 113 yX2_hasUnmetPair, Cond.instanceMethod yX2_hasUnmetPair, Cond.selects RX2 yX2_hasUnmetPair yX2_hasUnmetPair, Cond.initialized RX2, Cond.code yX2_hasUnmetPair cX2_hasUnmetPair 4 (some .boolean), Cond.static yX3_counterpart, Cond.initialized RX3, Cond.code yX3_counterpart cX3_counterpart 2 (some .int), Cond.methodLink RX3 118 yX3_remainderOf, Cond.static yX3_remainderOf, Cond.code yX3_remainderOf cX3_remainderOf 1 (some .int), Cond.methodLink RX3 173 yJ9_floorMod_7cf53, Cond.static yJ9_floorMod_7cf53, Cond.initialized RJ9, Cond.code yJ9_floorMod_7cf53 cJ9_floorMod_7cf53 3 (some .int), Cond.methodLink RX2 110 yX2_isUnmet, Cond.instanceMethod yX2_isUnmet, Cond.selects RX2 yX2_isUnmet yX2_isUnmet, Cond.code yX2_isUnmet cX2_isUnmet 3 (some .boolean), Cond.fieldLink RX2 37 "NineDancers$Ring" "dances" "[I", Cond.methodLink RX2 97 yX2_isThere, Cond.instanceMethod yX2_isThere, Cond.selects RX2 yX2_isThere yX2_isThere, Cond.code yX2_isThere cX2_isThere 2 (some .boolean)]
def wsX2_remaindersWithUnmetPair_r2 : List Cond := [Cond.fieldLink RX2 15 "NineDancers$Ring" "there" "I", Cond.static yX3_pairIndex, Cond.code yX3_pairIndex cX3_pairIndex 2 (some .int)]
def wsX2_remaindersWithUnmetPair : List Cond := .code yX2_remaindersWithUnmetPair cX2_remaindersWithUnmetPair 3 (some .int) :: ((wsX2_remaindersWithUnmetPair_r1 ++ wsX2_remaindersWithUnmetPair_r2) ++ wsX20)
def wsJ6_bitCount_0f7a4 : List Cond := .code yJ6_bitCount_0f7a4 cJ6_bitCount_0f7a4 1 (some .int) :: ([.constant RJ6 265 (1431655765), .constant RJ6 266 (858993459), .constant RJ6 267 (252645135)])
def wsX2_roundsByTrying_r1 : List Cond := [Cond.methodLink RX2 110 yX2_isUnmet, Cond.instanceMethod yX2_isUnmet, Cond.selects RX2 yX2_isUnmet yX2_isUnmet, Cond.initialized RX2, Cond.code yX2_isUnmet cX2_isUnmet 3 (some .boolean), Cond.fieldLink RX2 37 "NineDancers$Ring" "dances" "[I", Cond.methodLink RX2 97 yX2_isThere, Cond.instanceMethod yX2_isThere, Cond.selects RX2 yX2_isThere yX2_isThere, Cond.code yX2_isThere cX2_isThere 2 (some .boolean), Cond.fieldLink RX2 15 "NineDancers$Ring" "there" "I", Cond.static yX3_pairIndex, Cond.initialized RX3, Cond.code yX3_pairIndex cX3_pairIndex 2 (some .int), Cond.static yX3_remainderOf, Cond.code yX3_remainderOf cX3_remainderOf 1 (some .int), Cond.methodLink RX3 173 yJ9_floorMod_7cf53, Cond.static yJ9_floorMod_7cf53, Cond.initialized RJ9, Cond.code yJ9_floorMod_7cf53 cJ9_floorMod_7cf53 3 (some .int), Cond.methodLink RX2 116 yJ6_bitCount_0f7a4, Cond.static yJ6_bitCount_0f7a4, Cond.initialized RJ6, Cond.code yJ6_bitCount_0f7a4 cJ6_bitCount_0f7a4 1 (some .int)]
def wsX2_roundsByTrying_r2 : List Cond := [Cond.constant RJ6 265 (1431655765), Cond.constant RJ6 266 (858993459), Cond.constant RJ6 267 (252645135)]
def wsX2_roundsByTrying : List Cond := .code yX2_roundsByTrying cX2_roundsByTrying 4 (some .int) :: ((wsX2_roundsByTrying_r1 ++ wsX2_roundsByTrying_r2) ++ wsX20)
def wsX2_pairWouldBring_r1 : List Cond := [Cond.fieldLink RX2 15 "NineDancers$Ring" "there" "I", Cond.fieldLink RX2 37 "NineDancers$Ring" "dances" "[I", Cond.methodLink RX2 82 yX2_wouldDance, Cond.instanceMethod yX2_wouldDance, Cond.selects RX2 yX2_wouldDance yX2_wouldDance, Cond.initialized RX2, Cond.code yX2_wouldDance cX2_wouldDance 3 (some .boolean), Cond.fieldLink RX2 19 "NineDancers$Ring" "strengths" "[I", Cond.fieldLink RX2 9 "NineDancers$Ring" "settings" "[I", Cond.methodLink RX2 97 yX2_isThere, Cond.instanceMethod yX2_isThere, Cond.selects RX2 yX2_isThere yX2_isThere, Cond.code yX2_isThere cX2_isThere 2 (some .boolean), Cond.methodLink RX2 116 yJ6_bitCount_0f7a4, Cond.static yJ6_bitCount_0f7a4, Cond.initialized RJ6, Cond.code yJ6_bitCount_0f7a4 cJ6_bitCount_0f7a4 1 (some .int), Cond.constant RJ6 265 (1431655765), Cond.constant RJ6 266 (858993459), Cond.constant RJ6 267 (252645135), Cond.methodLink RX2 101 yX2_joyOfEach, Cond.instanceMethod yX2_joyOfEach, Cond.selects RX2 yX2_joyOfEach yX2_joyOfEach, Cond.code yX2_joyOfEach cX2_joyOfEach 3 (some .int)]
def wsX2_pairWouldBring_r2 : List Cond := [Cond.fieldLink RX2 34 "NineDancers$Ring" "likings" "[I", Cond.static yX3_pairIndex, Cond.initialized RX3, Cond.code yX3_pairIndex cX3_pairIndex 2 (some .int)]
def wsX2_pairWouldBring : List Cond := .code yX2_pairWouldBring cX2_pairWouldBring 5 (some .int) :: ((wsX2_pairWouldBring_r1 ++ wsX2_pairWouldBring_r2) ++ wsX20)
def wsX2_wouldBring_r1 : List Cond := [Cond.static yX3_counterpart, Cond.initialized RX3, Cond.code yX3_counterpart cX3_counterpart 2 (some .int), Cond.methodLink RX3 118 yX3_remainderOf, Cond.static yX3_remainderOf, Cond.code yX3_remainderOf cX3_remainderOf 1 (some .int), Cond.methodLink RX3 173 yJ9_floorMod_7cf53, Cond.static yJ9_floorMod_7cf53, Cond.initialized RJ9, Cond.code yJ9_floorMod_7cf53 cJ9_floorMod_7cf53 3 (some .int), Cond.methodLink RX2 121 yX2_pairWouldBring, Cond.instanceMethod yX2_pairWouldBring, Cond.selects RX2 yX2_pairWouldBring yX2_pairWouldBring, Cond.initialized RX2, Cond.code yX2_pairWouldBring cX2_pairWouldBring 5 (some .int), Cond.fieldLink RX2 15 "NineDancers$Ring" "there" "I", Cond.fieldLink RX2 37 "NineDancers$Ring" "dances" "[I", Cond.methodLink RX2 82 yX2_wouldDance, Cond.instanceMethod yX2_wouldDance, Cond.selects RX2 yX2_wouldDance yX2_wouldDance, Cond.code yX2_wouldDance cX2_wouldDance 3 (some .boolean), Cond.fieldLink RX2 19 "NineDancers$Ring" "strengths" "[I", Cond.fieldLink RX2 9 "NineDancers$Ring" "settings" "[I", Cond.methodLink RX2 97 yX2_isThere]
def wsX2_wouldBring_r2 : List Cond := [Cond.instanceMethod yX2_isThere, Cond.selects RX2 yX2_isThere yX2_isThere, Cond.code yX2_isThere cX2_isThere 2 (some .boolean), Cond.methodLink RX2 116 yJ6_bitCount_0f7a4, Cond.static yJ6_bitCount_0f7a4, Cond.initialized RJ6, Cond.code yJ6_bitCount_0f7a4 cJ6_bitCount_0f7a4 1 (some .int), Cond.constant RJ6 265 (1431655765), Cond.constant RJ6 266 (858993459), Cond.constant RJ6 267 (252645135), Cond.methodLink RX2 101 yX2_joyOfEach, Cond.instanceMethod yX2_joyOfEach, Cond.selects RX2 yX2_joyOfEach yX2_joyOfEach, Cond.code yX2_joyOfEach cX2_joyOfEach 3 (some .int), Cond.fieldLink RX2 34 "NineDancers$Ring" "likings" "[I", Cond.static yX3_pairIndex, Cond.code yX3_pairIndex cX3_pairIndex 2 (some .int)]
def wsX2_wouldBring : List Cond := .code yX2_wouldBring cX2_wouldBring 6 (some .int) :: ((wsX2_wouldBring_r1 ++ wsX2_wouldBring_r2) ++ wsX20)
def wsX3_init_r1 : List Cond := [Cond.methodLink RX3 3 objectInit, Cond.instanceMethod objectInit, Cond.code objectInit ⟨#[0xb1]⟩ 1 none, Cond.classLink RX3 9 RX2, Cond.instantiable RX2 13, Cond.initialized RX2, Cond.fieldLink RX3 12 "NineDancers" "ring" "LNineDancers$Ring;", Cond.fieldLink RX3 16 "NineDancers" "trial" "LNineDancers$Ring;", Cond.classLink RX3 19 RX1, Cond.instantiable RX1 2, Cond.initialized RX1, Cond.fieldLink RX3 22 "NineDancers" "pad" "LNineDancers$Pad;", Cond.classLink RX3 26 RX0, Cond.instantiable RX0 2, Cond.initialized RX0, Cond.fieldLink RX3 29 "NineDancers" "history" "LNineDancers$History;", Cond.fieldLink RX3 33 "NineDancers" "slots" "[LNineDancers$Ring;", Cond.methodLink RX3 11 yX2_init, Cond.instanceMethod yX2_init, Cond.code yX2_init cX2_init 1 none, Cond.methodLink RX2 3 objectInit, Cond.arrayClass .int, Cond.fieldLink RX2 9 "NineDancers$Ring" "settings" "[I", Cond.fieldLink RX2 15 "NineDancers$Ring" "there" "I"]
def wsX3_init_r2 : List Cond := [Cond.fieldLink RX2 19 "NineDancers$Ring" "strengths" "[I", Cond.fieldLink RX2 22 "NineDancers$Ring" "joys" "[I", Cond.fieldLink RX2 25 "NineDancers$Ring" "roundsDanced" "[I", Cond.fieldLink RX2 28 "NineDancers$Ring" "roundsRested" "[I", Cond.fieldLink RX2 31 "NineDancers$Ring" "roundsAlone" "[I", Cond.fieldLink RX2 34 "NineDancers$Ring" "likings" "[I", Cond.fieldLink RX2 37 "NineDancers$Ring" "dances" "[I", Cond.fieldLink RX2 40 "NineDancers$Ring" "lastDances" "[I", Cond.fieldLink RX2 43 "NineDancers$Ring" "timesTold" "[I", Cond.fieldLink RX2 46 "NineDancers$Ring" "rounds" "I", Cond.constant RX2 49 (-1000006), Cond.fieldLink RX2 50 "NineDancers$Ring" "lastNumber" "I", Cond.methodLink RX2 53 yJ7_fill_53178, Cond.static yJ7_fill_53178, Cond.initialized RJ7, Cond.code yJ7_fill_53178 cJ7_fill_53178 4 none, Cond.instanceMethod yX1_init, Cond.code yX1_init cX1_init 1 none, Cond.methodLink RX1 3 objectInit, Cond.arrayClass .char, Cond.fieldLink RX1 9 "NineDancers$Pad" "text" "[C", Cond.fieldLink RX1 15 "NineDancers$Pad" "length" "I", Cond.methodLink RX3 28 yX0_init, Cond.instanceMethod yX0_init]
def wsX3_init_r3 : List Cond := [Cond.code yX0_init cX0_init 2 none, Cond.methodLink RX0 3 objectInit, Cond.classLink RX0 9 RX2, Cond.fieldLink RX0 11 "NineDancers$History" "states" "[LNineDancers$Ring;", Cond.fieldLink RX0 17 "NineDancers$History" "length" "I", Cond.methodLink RX0 21 yX2_init]
def wsX3_init : List Cond := .code yX3_init cX3_init 1 none :: ((wsX3_init_r1 ++ (wsX3_init_r2 ++ wsX3_init_r3)) ++ wsX20 ++ wsX30 ++ wsX10 ++ wsX00)
def wsX3_set_r1 : List Cond := [Cond.constant RX3 37 (-1000002), Cond.fieldLink RX3 29 "NineDancers" "history" "LNineDancers$History;", Cond.fieldLink RX3 12 "NineDancers" "ring" "LNineDancers$Ring;", Cond.fieldLink RX3 42 "NineDancers$Ring" "settings" "[I", Cond.methodLink RX3 38 yX0_remember, Cond.instanceMethod yX0_remember, Cond.selects RX0 yX0_remember yX0_remember, Cond.initialized RX0, Cond.code yX0_remember cX0_remember 2 none, Cond.fieldLink RX0 17 "NineDancers$History" "length" "I", Cond.fieldLink RX0 11 "NineDancers$History" "states" "[LNineDancers$Ring;", Cond.methodLink RX0 22 yX0_dropOldest, Cond.instanceMethod yX0_dropOldest, Cond.selects RX0 yX0_dropOldest yX0_dropOldest, Cond.code yX0_dropOldest cX0_dropOldest 3 none, Cond.methodLink RX0 25 yX2_copyFrom, Cond.instanceMethod yX2_copyFrom, Cond.selects RX2 yX2_copyFrom yX2_copyFrom, Cond.initialized RX2, Cond.code yX2_copyFrom cX2_copyFrom 2 none, Cond.fieldLink RX2 9 "NineDancers$Ring" "settings" "[I", Cond.fieldLink RX2 15 "NineDancers$Ring" "there" "I", Cond.fieldLink RX2 19 "NineDancers$Ring" "strengths" "[I", Cond.fieldLink RX2 22 "NineDancers$Ring" "joys" "[I"]
def wsX3_set_r2 : List Cond := [Cond.fieldLink RX2 25 "NineDancers$Ring" "roundsDanced" "[I", Cond.fieldLink RX2 28 "NineDancers$Ring" "roundsRested" "[I", Cond.fieldLink RX2 31 "NineDancers$Ring" "roundsAlone" "[I", Cond.fieldLink RX2 34 "NineDancers$Ring" "likings" "[I", Cond.fieldLink RX2 37 "NineDancers$Ring" "dances" "[I", Cond.fieldLink RX2 40 "NineDancers$Ring" "lastDances" "[I", Cond.fieldLink RX2 43 "NineDancers$Ring" "timesTold" "[I", Cond.fieldLink RX2 46 "NineDancers$Ring" "rounds" "I", Cond.fieldLink RX2 50 "NineDancers$Ring" "lastNumber" "I", Cond.methodLink RX2 59 yX2_copyRow, Cond.static yX2_copyRow, Cond.code yX2_copyRow cX2_copyRow 2 none, Cond.methodLink RX2 63 Lib.Math.min.name, Cond.static Lib.Math.min.name, Cond.initialized "java/lang/Math", Cond.code Lib.Math.min.name Lib.Math.min.code 2 (some .int), Cond.methodLink RX2 69 arraycopyName, Cond.native arraycopyName, Cond.static arraycopyName, Cond.initialized "java/lang/System"]
def wsX3_set : List Cond := .code yX3_set cX3_set 5 (some .int) :: ((wsX3_set_r1 ++ wsX3_set_r2) ++ wsX30 ++ wsX20 ++ wsX00)
def wsX3_isVillager : List Cond := .code yX3_isVillager cX3_isVillager 1 (some .boolean) :: ([])
def wsX3_like_r1 : List Cond := [Cond.constant RX3 50 (-1000001), Cond.constant RX3 37 (-1000002), Cond.fieldLink RX3 29 "NineDancers" "history" "LNineDancers$History;", Cond.fieldLink RX3 12 "NineDancers" "ring" "LNineDancers$Ring;", Cond.fieldLink RX3 55 "NineDancers$Ring" "likings" "[I", Cond.methodLink RX3 46 yX3_isVillager, Cond.static yX3_isVillager, Cond.initialized RX3, Cond.code yX3_isVillager cX3_isVillager 1 (some .boolean), Cond.methodLink RX3 38 yX0_remember, Cond.instanceMethod yX0_remember, Cond.selects RX0 yX0_remember yX0_remember, Cond.initialized RX0, Cond.code yX0_remember cX0_remember 2 none, Cond.fieldLink RX0 17 "NineDancers$History" "length" "I", Cond.fieldLink RX0 11 "NineDancers$History" "states" "[LNineDancers$Ring;", Cond.methodLink RX0 22 yX0_dropOldest, Cond.instanceMethod yX0_dropOldest, Cond.selects RX0 yX0_dropOldest yX0_dropOldest, Cond.code yX0_dropOldest cX0_dropOldest 3 none, Cond.methodLink RX0 25 yX2_copyFrom, Cond.instanceMethod yX2_copyFrom, Cond.selects RX2 yX2_copyFrom yX2_copyFrom, Cond.initialized RX2]
def wsX3_like_r2 : List Cond := [Cond.code yX2_copyFrom cX2_copyFrom 2 none, Cond.fieldLink RX2 9 "NineDancers$Ring" "settings" "[I", Cond.fieldLink RX2 15 "NineDancers$Ring" "there" "I", Cond.fieldLink RX2 19 "NineDancers$Ring" "strengths" "[I", Cond.fieldLink RX2 22 "NineDancers$Ring" "joys" "[I", Cond.fieldLink RX2 25 "NineDancers$Ring" "roundsDanced" "[I", Cond.fieldLink RX2 28 "NineDancers$Ring" "roundsRested" "[I", Cond.fieldLink RX2 31 "NineDancers$Ring" "roundsAlone" "[I", Cond.fieldLink RX2 34 "NineDancers$Ring" "likings" "[I", Cond.fieldLink RX2 37 "NineDancers$Ring" "dances" "[I", Cond.fieldLink RX2 40 "NineDancers$Ring" "lastDances" "[I", Cond.fieldLink RX2 43 "NineDancers$Ring" "timesTold" "[I", Cond.fieldLink RX2 46 "NineDancers$Ring" "rounds" "I", Cond.fieldLink RX2 50 "NineDancers$Ring" "lastNumber" "I", Cond.methodLink RX2 59 yX2_copyRow, Cond.static yX2_copyRow, Cond.code yX2_copyRow cX2_copyRow 2 none, Cond.methodLink RX2 63 Lib.Math.min.name, Cond.static Lib.Math.min.name, Cond.initialized "java/lang/Math", Cond.code Lib.Math.min.name Lib.Math.min.code 2 (some .int), Cond.methodLink RX2 69 arraycopyName, Cond.native arraycopyName, Cond.static arraycopyName]
def wsX3_like_r3 : List Cond := [Cond.initialized "java/lang/System", Cond.methodLink RX3 51 yX3_pairIndex, Cond.static yX3_pairIndex, Cond.code yX3_pairIndex cX3_pairIndex 2 (some .int)]
def wsX3_like : List Cond := .code yX3_like cX3_like 6 (some .int) :: ((wsX3_like_r1 ++ (wsX3_like_r2 ++ wsX3_like_r3)) ++ wsX30 ++ wsX20 ++ wsX00)
def wsX3_away_r1 : List Cond := [Cond.constant RX3 50 (-1000001), Cond.fieldLink RX3 12 "NineDancers" "ring" "LNineDancers$Ring;", Cond.constant RX3 61 (-1000005), Cond.fieldLink RX3 29 "NineDancers" "history" "LNineDancers$History;", Cond.fieldLink RX3 62 "NineDancers$Ring" "there" "I", Cond.methodLink RX3 46 yX3_isVillager, Cond.static yX3_isVillager, Cond.initialized RX3, Cond.code yX3_isVillager cX3_isVillager 1 (some .boolean), Cond.methodLink RX3 58 yX2_isThere, Cond.instanceMethod yX2_isThere, Cond.selects RX2 yX2_isThere yX2_isThere, Cond.initialized RX2, Cond.code yX2_isThere cX2_isThere 2 (some .boolean), Cond.fieldLink RX2 15 "NineDancers$Ring" "there" "I", Cond.methodLink RX3 38 yX0_remember, Cond.instanceMethod yX0_remember, Cond.selects RX0 yX0_remember yX0_remember, Cond.initialized RX0, Cond.code yX0_remember cX0_remember 2 none, Cond.fieldLink RX0 17 "NineDancers$History" "length" "I", Cond.fieldLink RX0 11 "NineDancers$History" "states" "[LNineDancers$Ring;", Cond.methodLink RX0 22 yX0_dropOldest, Cond.instanceMethod yX0_dropOldest]
def wsX3_away_r2 : List Cond := [Cond.selects RX0 yX0_dropOldest yX0_dropOldest, Cond.code yX0_dropOldest cX0_dropOldest 3 none, Cond.methodLink RX0 25 yX2_copyFrom, Cond.instanceMethod yX2_copyFrom, Cond.selects RX2 yX2_copyFrom yX2_copyFrom, Cond.code yX2_copyFrom cX2_copyFrom 2 none, Cond.fieldLink RX2 9 "NineDancers$Ring" "settings" "[I", Cond.fieldLink RX2 19 "NineDancers$Ring" "strengths" "[I", Cond.fieldLink RX2 22 "NineDancers$Ring" "joys" "[I", Cond.fieldLink RX2 25 "NineDancers$Ring" "roundsDanced" "[I", Cond.fieldLink RX2 28 "NineDancers$Ring" "roundsRested" "[I", Cond.fieldLink RX2 31 "NineDancers$Ring" "roundsAlone" "[I", Cond.fieldLink RX2 34 "NineDancers$Ring" "likings" "[I", Cond.fieldLink RX2 37 "NineDancers$Ring" "dances" "[I", Cond.fieldLink RX2 40 "NineDancers$Ring" "lastDances" "[I", Cond.fieldLink RX2 43 "NineDancers$Ring" "timesTold" "[I", Cond.fieldLink RX2 46 "NineDancers$Ring" "rounds" "I", Cond.fieldLink RX2 50 "NineDancers$Ring" "lastNumber" "I", Cond.methodLink RX2 59 yX2_copyRow, Cond.static yX2_copyRow, Cond.code yX2_copyRow cX2_copyRow 2 none, Cond.methodLink RX2 63 Lib.Math.min.name, Cond.static Lib.Math.min.name, Cond.initialized "java/lang/Math"]
def wsX3_away_r3 : List Cond := [Cond.code Lib.Math.min.name Lib.Math.min.code 2 (some .int), Cond.methodLink RX2 69 arraycopyName, Cond.native arraycopyName, Cond.static arraycopyName, Cond.initialized "java/lang/System", Cond.methodLink RX3 66 yJ6_bitCount_0f7a4, Cond.static yJ6_bitCount_0f7a4, Cond.initialized RJ6, Cond.code yJ6_bitCount_0f7a4 cJ6_bitCount_0f7a4 1 (some .int), Cond.constant RJ6 265 (1431655765), Cond.constant RJ6 266 (858993459), Cond.constant RJ6 267 (252645135)]
def wsX3_away : List Cond := .code yX3_away cX3_away 3 (some .int) :: ((wsX3_away_r1 ++ (wsX3_away_r2 ++ wsX3_away_r3)) ++ wsX30 ++ wsX20 ++ wsX00)
def wsX3_isNumber : List Cond := .code yX3_isNumber cX3_isNumber 1 (some .boolean) :: ([])
def wsX3_call_r1 : List Cond := [Cond.constant RX3 37 (-1000002), Cond.fieldLink RX3 12 "NineDancers" "ring" "LNineDancers$Ring;", Cond.fieldLink RX3 75 "NineDancers$Ring" "rounds" "I", Cond.constant RX3 78 (-1000004), Cond.fieldLink RX3 29 "NineDancers" "history" "LNineDancers$History;", Cond.methodLink RX3 72 yX3_isNumber, Cond.static yX3_isNumber, Cond.initialized RX3, Cond.code yX3_isNumber cX3_isNumber 1 (some .boolean), Cond.methodLink RX3 38 yX0_remember, Cond.instanceMethod yX0_remember, Cond.selects RX0 yX0_remember yX0_remember, Cond.initialized RX0, Cond.code yX0_remember cX0_remember 2 none, Cond.fieldLink RX0 17 "NineDancers$History" "length" "I", Cond.fieldLink RX0 11 "NineDancers$History" "states" "[LNineDancers$Ring;", Cond.methodLink RX0 22 yX0_dropOldest, Cond.instanceMethod yX0_dropOldest, Cond.selects RX0 yX0_dropOldest yX0_dropOldest, Cond.code yX0_dropOldest cX0_dropOldest 3 none, Cond.methodLink RX0 25 yX2_copyFrom, Cond.instanceMethod yX2_copyFrom, Cond.selects RX2 yX2_copyFrom yX2_copyFrom, Cond.initialized RX2]
def wsX3_call_r2 : List Cond := [Cond.code yX2_copyFrom cX2_copyFrom 2 none, Cond.fieldLink RX2 9 "NineDancers$Ring" "settings" "[I", Cond.fieldLink RX2 15 "NineDancers$Ring" "there" "I", Cond.fieldLink RX2 19 "NineDancers$Ring" "strengths" "[I", Cond.fieldLink RX2 22 "NineDancers$Ring" "joys" "[I", Cond.fieldLink RX2 25 "NineDancers$Ring" "roundsDanced" "[I", Cond.fieldLink RX2 28 "NineDancers$Ring" "roundsRested" "[I", Cond.fieldLink RX2 31 "NineDancers$Ring" "roundsAlone" "[I", Cond.fieldLink RX2 34 "NineDancers$Ring" "likings" "[I", Cond.fieldLink RX2 37 "NineDancers$Ring" "dances" "[I", Cond.fieldLink RX2 40 "NineDancers$Ring" "lastDances" "[I", Cond.fieldLink RX2 43 "NineDancers$Ring" "timesTold" "[I", Cond.fieldLink RX2 46 "NineDancers$Ring" "rounds" "I", Cond.fieldLink RX2 50 "NineDancers$Ring" "lastNumber" "I", Cond.methodLink RX2 59 yX2_copyRow, Cond.static yX2_copyRow, Cond.code yX2_copyRow cX2_copyRow 2 none, Cond.methodLink RX2 63 Lib.Math.min.name, Cond.static Lib.Math.min.name, Cond.initialized "java/lang/Math", Cond.code Lib.Math.min.name Lib.Math.min.code 2 (some .int), Cond.methodLink RX2 69 arraycopyName, Cond.native arraycopyName, Cond.static arraycopyName]
def wsX3_call_r3 : List Cond := [Cond.initialized "java/lang/System", Cond.methodLink RX3 79 yX2_danceRound, Cond.instanceMethod yX2_danceRound, Cond.selects RX2 yX2_danceRound yX2_danceRound, Cond.code yX2_danceRound cX2_danceRound 5 (some .int), Cond.static yX3_counterpart, Cond.code yX3_counterpart cX3_counterpart 2 (some .int), Cond.methodLink RX3 118 yX3_remainderOf, Cond.static yX3_remainderOf, Cond.code yX3_remainderOf cX3_remainderOf 1 (some .int), Cond.methodLink RX3 173 yJ9_floorMod_7cf53, Cond.static yJ9_floorMod_7cf53, Cond.initialized RJ9, Cond.code yJ9_floorMod_7cf53 cJ9_floorMod_7cf53 3 (some .int), Cond.methodLink RX2 78 yX2_rest, Cond.instanceMethod yX2_rest, Cond.selects RX2 yX2_rest yX2_rest, Cond.code yX2_rest cX2_rest 2 none, Cond.methodLink RX2 97 yX2_isThere, Cond.instanceMethod yX2_isThere, Cond.selects RX2 yX2_isThere yX2_isThere, Cond.code yX2_isThere cX2_isThere 2 (some .boolean), Cond.methodLink RX2 82 yX2_wouldDance, Cond.instanceMethod yX2_wouldDance]
def wsX3_call_r4 : List Cond := [Cond.selects RX2 yX2_wouldDance yX2_wouldDance, Cond.code yX2_wouldDance cX2_wouldDance 3 (some .boolean), Cond.methodLink RX2 86 yX2_dance, Cond.instanceMethod yX2_dance, Cond.selects RX2 yX2_dance yX2_dance, Cond.code yX2_dance cX2_dance 5 none, Cond.methodLink RX2 101 yX2_joyOfEach, Cond.instanceMethod yX2_joyOfEach, Cond.selects RX2 yX2_joyOfEach yX2_joyOfEach, Cond.code yX2_joyOfEach cX2_joyOfEach 3 (some .int), Cond.static yX3_pairIndex, Cond.code yX3_pairIndex cX3_pairIndex 2 (some .int), Cond.methodLink RX2 104 yX2_takePart, Cond.instanceMethod yX2_takePart, Cond.selects RX2 yX2_takePart yX2_takePart, Cond.code yX2_takePart cX2_takePart 3 none, Cond.methodLink RX2 90 yX2_leaveAlone, Cond.instanceMethod yX2_leaveAlone, Cond.selects RX2 yX2_leaveAlone yX2_leaveAlone, Cond.code yX2_leaveAlone cX2_leaveAlone 2 none]
def wsX3_call : List Cond := .code yX3_call cX3_call 2 (some .int) :: ((wsX3_call_r1 ++ (wsX3_call_r2 ++ (wsX3_call_r3 ++ wsX3_call_r4))) ++ wsX30 ++ wsX20 ++ wsX00)
def wsX3_tell_r1 : List Cond := [Cond.fieldLink RX3 12 "NineDancers" "ring" "LNineDancers$Ring;", Cond.methodLink RX3 79 yX2_danceRound, Cond.instanceMethod yX2_danceRound, Cond.selects RX2 yX2_danceRound yX2_danceRound, Cond.initialized RX2, Cond.code yX2_danceRound cX2_danceRound 5 (some .int), Cond.fieldLink RX2 43 "NineDancers$Ring" "timesTold" "[I", Cond.fieldLink RX2 50 "NineDancers$Ring" "lastNumber" "I", Cond.fieldLink RX2 46 "NineDancers$Ring" "rounds" "I", Cond.static yX3_counterpart, Cond.initialized RX3, Cond.code yX3_counterpart cX3_counterpart 2 (some .int), Cond.methodLink RX3 118 yX3_remainderOf, Cond.static yX3_remainderOf, Cond.code yX3_remainderOf cX3_remainderOf 1 (some .int), Cond.methodLink RX3 173 yJ9_floorMod_7cf53, Cond.static yJ9_floorMod_7cf53, Cond.initialized RJ9, Cond.code yJ9_floorMod_7cf53 cJ9_floorMod_7cf53 3 (some .int), Cond.methodLink RX2 78 yX2_rest, Cond.instanceMethod yX2_rest, Cond.selects RX2 yX2_rest yX2_rest, Cond.code yX2_rest cX2_rest 2 none, Cond.fieldLink RX2 28 "NineDancers$Ring" "roundsRested" "[I"]
def wsX3_tell_r2 : List Cond := [Cond.fieldLink RX2 19 "NineDancers$Ring" "strengths" "[I", Cond.fieldLink RX2 9 "NineDancers$Ring" "settings" "[I", Cond.methodLink RX2 63 Lib.Math.min.name, Cond.static Lib.Math.min.name, Cond.initialized "java/lang/Math", Cond.code Lib.Math.min.name Lib.Math.min.code 2 (some .int), Cond.methodLink RX2 97 yX2_isThere, Cond.instanceMethod yX2_isThere, Cond.selects RX2 yX2_isThere yX2_isThere, Cond.code yX2_isThere cX2_isThere 2 (some .boolean), Cond.fieldLink RX2 15 "NineDancers$Ring" "there" "I", Cond.methodLink RX2 82 yX2_wouldDance, Cond.instanceMethod yX2_wouldDance, Cond.selects RX2 yX2_wouldDance yX2_wouldDance, Cond.code yX2_wouldDance cX2_wouldDance 3 (some .boolean), Cond.methodLink RX2 86 yX2_dance, Cond.instanceMethod yX2_dance, Cond.selects RX2 yX2_dance yX2_dance, Cond.code yX2_dance cX2_dance 5 none, Cond.fieldLink RX2 37 "NineDancers$Ring" "dances" "[I", Cond.fieldLink RX2 40 "NineDancers$Ring" "lastDances" "[I", Cond.methodLink RX2 101 yX2_joyOfEach, Cond.instanceMethod yX2_joyOfEach, Cond.selects RX2 yX2_joyOfEach yX2_joyOfEach]
def wsX3_tell_r3 : List Cond := [Cond.code yX2_joyOfEach cX2_joyOfEach 3 (some .int), Cond.fieldLink RX2 34 "NineDancers$Ring" "likings" "[I", Cond.static yX3_pairIndex, Cond.code yX3_pairIndex cX3_pairIndex 2 (some .int), Cond.methodLink RX2 104 yX2_takePart, Cond.instanceMethod yX2_takePart, Cond.selects RX2 yX2_takePart yX2_takePart, Cond.code yX2_takePart cX2_takePart 3 none, Cond.fieldLink RX2 22 "NineDancers$Ring" "joys" "[I", Cond.fieldLink RX2 25 "NineDancers$Ring" "roundsDanced" "[I", Cond.methodLink RX2 90 yX2_leaveAlone, Cond.instanceMethod yX2_leaveAlone, Cond.selects RX2 yX2_leaveAlone yX2_leaveAlone, Cond.code yX2_leaveAlone cX2_leaveAlone 2 none, Cond.fieldLink RX2 31 "NineDancers$Ring" "roundsAlone" "[I"]
def wsX3_tell : List Cond := .code yX3_tell cX3_tell 5 (some .int) :: ((wsX3_tell_r1 ++ (wsX3_tell_r2 ++ wsX3_tell_r3)) ++ wsX30 ++ wsX20)
def wsX3_tellNumbersOfPad_r1 : List Cond := [Cond.fieldLink RX3 22 "NineDancers" "pad" "LNineDancers$Pad;", Cond.fieldLink RX3 143 "NineDancers$Pad" "length" "I", Cond.methodLink RX3 184 yX1_startsCall, Cond.instanceMethod yX1_startsCall, Cond.selects RX1 yX1_startsCall yX1_startsCall, Cond.initialized RX1, Cond.code yX1_startsCall cX1_startsCall 2 (some .boolean), Cond.fieldLink RX1 9 "NineDancers$Pad" "text" "[C", Cond.methodLink RX3 187 yX1_numberAt, Cond.instanceMethod yX1_numberAt, Cond.selects RX1 yX1_numberAt yX1_numberAt, Cond.code yX1_numberAt cX1_numberAt 5 (some .int), Cond.fieldLink RX1 15 "NineDancers$Pad" "length" "I", Cond.methodLink RX1 38 yX1_hasTimes, Cond.instanceMethod yX1_hasTimes, Cond.selects RX1 yX1_hasTimes yX1_hasTimes, Cond.code yX1_hasTimes cX1_hasTimes 2 (some .boolean), Cond.methodLink RX1 21 yX1_isDigit, Cond.static yX1_isDigit, Cond.code yX1_isDigit cX1_isDigit 1 (some .boolean), Cond.methodLink RX3 190 yX1_timesAt, Cond.instanceMethod yX1_timesAt, Cond.selects RX1 yX1_timesAt yX1_timesAt, Cond.code yX1_timesAt cX1_timesAt 2 (some .int)]
def wsX3_tellNumbersOfPad_r2 : List Cond := [Cond.methodLink RX3 193 yX3_tell, Cond.instanceMethod yX3_tell, Cond.selects RX3 yX3_tell yX3_tell, Cond.initialized RX3, Cond.code yX3_tell cX3_tell 5 (some .int), Cond.fieldLink RX3 12 "NineDancers" "ring" "LNineDancers$Ring;", Cond.methodLink RX3 79 yX2_danceRound, Cond.instanceMethod yX2_danceRound, Cond.selects RX2 yX2_danceRound yX2_danceRound, Cond.initialized RX2, Cond.code yX2_danceRound cX2_danceRound 5 (some .int), Cond.fieldLink RX2 43 "NineDancers$Ring" "timesTold" "[I", Cond.fieldLink RX2 50 "NineDancers$Ring" "lastNumber" "I", Cond.fieldLink RX2 46 "NineDancers$Ring" "rounds" "I", Cond.static yX3_counterpart, Cond.code yX3_counterpart cX3_counterpart 2 (some .int), Cond.methodLink RX3 118 yX3_remainderOf, Cond.static yX3_remainderOf, Cond.code yX3_remainderOf cX3_remainderOf 1 (some .int), Cond.methodLink RX3 173 yJ9_floorMod_7cf53, Cond.static yJ9_floorMod_7cf53, Cond.initialized RJ9, Cond.code yJ9_floorMod_7cf53 cJ9_floorMod_7cf53 3 (some .int), Cond.methodLink RX2 78 yX2_rest]
def wsX3_tellNumbersOfPad_r3 : List Cond := [Cond.instanceMethod yX2_rest, Cond.selects RX2 yX2_rest yX2_rest, Cond.code yX2_rest cX2_rest 2 none, Cond.fieldLink RX2 28 "NineDancers$Ring" "roundsRested" "[I", Cond.fieldLink RX2 19 "NineDancers$Ring" "strengths" "[I", Cond.fieldLink RX2 9 "NineDancers$Ring" "settings" "[I", Cond.methodLink RX2 63 Lib.Math.min.name, Cond.static Lib.Math.min.name, Cond.initialized "java/lang/Math", Cond.code Lib.Math.min.name Lib.Math.min.code 2 (some .int), Cond.methodLink RX2 97 yX2_isThere, Cond.instanceMethod yX2_isThere, Cond.selects RX2 yX2_isThere yX2_isThere, Cond.code yX2_isThere cX2_isThere 2 (some .boolean), Cond.fieldLink RX2 15 "NineDancers$Ring" "there" "I", Cond.methodLink RX2 82 yX2_wouldDance, Cond.instanceMethod yX2_wouldDance, Cond.selects RX2 yX2_wouldDance yX2_wouldDance, Cond.code yX2_wouldDance cX2_wouldDance 3 (some .boolean), Cond.methodLink RX2 86 yX2_dance, Cond.instanceMethod yX2_dance, Cond.selects RX2 yX2_dance yX2_dance, Cond.code yX2_dance cX2_dance 5 none, Cond.fieldLink RX2 37 "NineDancers$Ring" "dances" "[I"]
def wsX3_tellNumbersOfPad_r4 : List Cond := [Cond.fieldLink RX2 40 "NineDancers$Ring" "lastDances" "[I", Cond.methodLink RX2 101 yX2_joyOfEach, Cond.instanceMethod yX2_joyOfEach, Cond.selects RX2 yX2_joyOfEach yX2_joyOfEach, Cond.code yX2_joyOfEach cX2_joyOfEach 3 (some .int), Cond.fieldLink RX2 34 "NineDancers$Ring" "likings" "[I", Cond.static yX3_pairIndex, Cond.code yX3_pairIndex cX3_pairIndex 2 (some .int), Cond.methodLink RX2 104 yX2_takePart, Cond.instanceMethod yX2_takePart, Cond.selects RX2 yX2_takePart yX2_takePart, Cond.code yX2_takePart cX2_takePart 3 none, Cond.fieldLink RX2 22 "NineDancers$Ring" "joys" "[I", Cond.fieldLink RX2 25 "NineDancers$Ring" "roundsDanced" "[I", Cond.methodLink RX2 90 yX2_leaveAlone, Cond.instanceMethod yX2_leaveAlone, Cond.selects RX2 yX2_leaveAlone yX2_leaveAlone, Cond.code yX2_leaveAlone cX2_leaveAlone 2 none, Cond.fieldLink RX2 31 "NineDancers$Ring" "roundsAlone" "[I"]
def wsX3_tellNumbersOfPad : List Cond := .code yX3_tellNumbersOfPad cX3_tellNumbersOfPad 3 (some .int) :: ((wsX3_tellNumbersOfPad_r1 ++ (wsX3_tellNumbersOfPad_r2 ++ (wsX3_tellNumbersOfPad_r3 ++ wsX3_tellNumbersOfPad_r4))) ++ wsX30 ++ wsX10 ++ wsX20)
def wsX3_read_r1 : List Cond := [Cond.fieldLink RX3 22 "NineDancers" "pad" "LNineDancers$Pad;", Cond.constant RX3 86 (-1000006), Cond.constant RX3 87 (-1000003), Cond.fieldLink RX3 12 "NineDancers" "ring" "LNineDancers$Ring;", Cond.fieldLink RX3 75 "NineDancers$Ring" "rounds" "I", Cond.constant RX3 78 (-1000004), Cond.fieldLink RX3 29 "NineDancers" "history" "LNineDancers$History;", Cond.methodLink RX3 82 yX1_firstFault, Cond.instanceMethod yX1_firstFault, Cond.selects RX1 yX1_firstFault yX1_firstFault, Cond.initialized RX1, Cond.code yX1_firstFault cX1_firstFault 6 (some .int), Cond.fieldLink RX1 15 "NineDancers$Pad" "length" "I", Cond.fieldLink RX1 9 "NineDancers$Pad" "text" "[C", Cond.constant RX1 29 (-1000006), Cond.methodLink RX1 21 yX1_isDigit, Cond.static yX1_isDigit, Cond.code yX1_isDigit cX1_isDigit 1 (some .boolean), Cond.methodLink RX1 25 yX1_canTakeDigit, Cond.static yX1_canTakeDigit, Cond.code yX1_canTakeDigit cX1_canTakeDigit 2 (some .boolean), Cond.methodLink RX3 88 yX1_roundsInAll, Cond.instanceMethod yX1_roundsInAll, Cond.selects RX1 yX1_roundsInAll yX1_roundsInAll]
def wsX3_read_r2 : List Cond := [Cond.code yX1_roundsInAll cX1_roundsInAll 3 (some .int), Cond.methodLink RX1 30 yX1_startsCall, Cond.instanceMethod yX1_startsCall, Cond.selects RX1 yX1_startsCall yX1_startsCall, Cond.code yX1_startsCall cX1_startsCall 2 (some .boolean), Cond.methodLink RX1 34 yX1_timesAt, Cond.instanceMethod yX1_timesAt, Cond.selects RX1 yX1_timesAt yX1_timesAt, Cond.code yX1_timesAt cX1_timesAt 2 (some .int), Cond.methodLink RX1 38 yX1_hasTimes, Cond.instanceMethod yX1_hasTimes, Cond.selects RX1 yX1_hasTimes yX1_hasTimes, Cond.code yX1_hasTimes cX1_hasTimes 2 (some .boolean), Cond.methodLink RX3 38 yX0_remember, Cond.instanceMethod yX0_remember, Cond.selects RX0 yX0_remember yX0_remember, Cond.initialized RX0, Cond.code yX0_remember cX0_remember 2 none, Cond.fieldLink RX0 17 "NineDancers$History" "length" "I", Cond.fieldLink RX0 11 "NineDancers$History" "states" "[LNineDancers$Ring;", Cond.methodLink RX0 22 yX0_dropOldest, Cond.instanceMethod yX0_dropOldest, Cond.selects RX0 yX0_dropOldest yX0_dropOldest, Cond.code yX0_dropOldest cX0_dropOldest 3 none]
def wsX3_read_r3 : List Cond := [Cond.methodLink RX0 25 yX2_copyFrom, Cond.instanceMethod yX2_copyFrom, Cond.selects RX2 yX2_copyFrom yX2_copyFrom, Cond.initialized RX2, Cond.code yX2_copyFrom cX2_copyFrom 2 none, Cond.fieldLink RX2 9 "NineDancers$Ring" "settings" "[I", Cond.fieldLink RX2 15 "NineDancers$Ring" "there" "I", Cond.fieldLink RX2 19 "NineDancers$Ring" "strengths" "[I", Cond.fieldLink RX2 22 "NineDancers$Ring" "joys" "[I", Cond.fieldLink RX2 25 "NineDancers$Ring" "roundsDanced" "[I", Cond.fieldLink RX2 28 "NineDancers$Ring" "roundsRested" "[I", Cond.fieldLink RX2 31 "NineDancers$Ring" "roundsAlone" "[I", Cond.fieldLink RX2 34 "NineDancers$Ring" "likings" "[I", Cond.fieldLink RX2 37 "NineDancers$Ring" "dances" "[I", Cond.fieldLink RX2 40 "NineDancers$Ring" "lastDances" "[I", Cond.fieldLink RX2 43 "NineDancers$Ring" "timesTold" "[I", Cond.fieldLink RX2 46 "NineDancers$Ring" "rounds" "I", Cond.fieldLink RX2 50 "NineDancers$Ring" "lastNumber" "I", Cond.methodLink RX2 59 yX2_copyRow, Cond.static yX2_copyRow, Cond.code yX2_copyRow cX2_copyRow 2 none, Cond.methodLink RX2 63 Lib.Math.min.name, Cond.static Lib.Math.min.name, Cond.initialized "java/lang/Math"]
def wsX3_read_r4 : List Cond := [Cond.code Lib.Math.min.name Lib.Math.min.code 2 (some .int), Cond.methodLink RX2 69 arraycopyName, Cond.native arraycopyName, Cond.static arraycopyName, Cond.initialized "java/lang/System", Cond.methodLink RX3 91 yX3_tellNumbersOfPad, Cond.instanceMethod yX3_tellNumbersOfPad, Cond.selects RX3 yX3_tellNumbersOfPad yX3_tellNumbersOfPad, Cond.initialized RX3, Cond.code yX3_tellNumbersOfPad cX3_tellNumbersOfPad 3 (some .int), Cond.fieldLink RX3 143 "NineDancers$Pad" "length" "I", Cond.methodLink RX3 184 yX1_startsCall, Cond.methodLink RX3 187 yX1_numberAt, Cond.instanceMethod yX1_numberAt, Cond.selects RX1 yX1_numberAt yX1_numberAt, Cond.code yX1_numberAt cX1_numberAt 5 (some .int), Cond.methodLink RX3 190 yX1_timesAt, Cond.methodLink RX3 193 yX3_tell, Cond.instanceMethod yX3_tell, Cond.selects RX3 yX3_tell yX3_tell, Cond.code yX3_tell cX3_tell 5 (some .int), Cond.methodLink RX3 79 yX2_danceRound, Cond.instanceMethod yX2_danceRound, Cond.selects RX2 yX2_danceRound yX2_danceRound]
def wsX3_read_r5 : List Cond := [Cond.code yX2_danceRound cX2_danceRound 5 (some .int), Cond.static yX3_counterpart, Cond.code yX3_counterpart cX3_counterpart 2 (some .int), Cond.methodLink RX3 118 yX3_remainderOf, Cond.static yX3_remainderOf, Cond.code yX3_remainderOf cX3_remainderOf 1 (some .int), Cond.methodLink RX3 173 yJ9_floorMod_7cf53, Cond.static yJ9_floorMod_7cf53, Cond.initialized RJ9, Cond.code yJ9_floorMod_7cf53 cJ9_floorMod_7cf53 3 (some .int), Cond.methodLink RX2 78 yX2_rest, Cond.instanceMethod yX2_rest, Cond.selects RX2 yX2_rest yX2_rest, Cond.code yX2_rest cX2_rest 2 none, Cond.methodLink RX2 97 yX2_isThere, Cond.instanceMethod yX2_isThere, Cond.selects RX2 yX2_isThere yX2_isThere, Cond.code yX2_isThere cX2_isThere 2 (some .boolean), Cond.methodLink RX2 82 yX2_wouldDance, Cond.instanceMethod yX2_wouldDance, Cond.selects RX2 yX2_wouldDance yX2_wouldDance, Cond.code yX2_wouldDance cX2_wouldDance 3 (some .boolean), Cond.methodLink RX2 86 yX2_dance, Cond.instanceMethod yX2_dance]
def wsX3_read_r6 : List Cond := [Cond.selects RX2 yX2_dance yX2_dance, Cond.code yX2_dance cX2_dance 5 none, Cond.methodLink RX2 101 yX2_joyOfEach, Cond.instanceMethod yX2_joyOfEach, Cond.selects RX2 yX2_joyOfEach yX2_joyOfEach, Cond.code yX2_joyOfEach cX2_joyOfEach 3 (some .int), Cond.static yX3_pairIndex, Cond.code yX3_pairIndex cX3_pairIndex 2 (some .int), Cond.methodLink RX2 104 yX2_takePart, Cond.instanceMethod yX2_takePart, Cond.selects RX2 yX2_takePart yX2_takePart, Cond.code yX2_takePart cX2_takePart 3 none, Cond.methodLink RX2 90 yX2_leaveAlone, Cond.instanceMethod yX2_leaveAlone, Cond.selects RX2 yX2_leaveAlone yX2_leaveAlone, Cond.code yX2_leaveAlone cX2_leaveAlone 2 none, Cond.methodLink RX3 94 yX1_empty, Cond.instanceMethod yX1_empty, Cond.selects RX1 yX1_empty yX1_empty, Cond.code yX1_empty cX1_empty 2 (some .int)]
def wsX3_read : List Cond := .code yX3_read cX3_read 2 (some .int) :: ((wsX3_read_r1 ++ (wsX3_read_r2 ++ (wsX3_read_r3 ++ (wsX3_read_r4 ++ (wsX3_read_r5 ++ wsX3_read_r6))))) ++ wsX30 ++ wsX20 ++ wsX10 ++ wsX00)
def wsX3_feed_r1 : List Cond := [Cond.constant RX3 50 (-1000001), Cond.constant RX3 37 (-1000002), Cond.fieldLink RX3 29 "NineDancers" "history" "LNineDancers$History;", Cond.fieldLink RX3 12 "NineDancers" "ring" "LNineDancers$Ring;", Cond.fieldLink RX3 97 "NineDancers$Ring" "strengths" "[I", Cond.methodLink RX3 46 yX3_isVillager, Cond.static yX3_isVillager, Cond.initialized RX3, Cond.code yX3_isVillager cX3_isVillager 1 (some .boolean), Cond.methodLink RX3 38 yX0_remember, Cond.instanceMethod yX0_remember, Cond.selects RX0 yX0_remember yX0_remember, Cond.initialized RX0, Cond.code yX0_remember cX0_remember 2 none, Cond.fieldLink RX0 17 "NineDancers$History" "length" "I", Cond.fieldLink RX0 11 "NineDancers$History" "states" "[LNineDancers$Ring;", Cond.methodLink RX0 22 yX0_dropOldest, Cond.instanceMethod yX0_dropOldest, Cond.selects RX0 yX0_dropOldest yX0_dropOldest, Cond.code yX0_dropOldest cX0_dropOldest 3 none, Cond.methodLink RX0 25 yX2_copyFrom, Cond.instanceMethod yX2_copyFrom, Cond.selects RX2 yX2_copyFrom yX2_copyFrom, Cond.initialized RX2]
def wsX3_feed_r2 : List Cond := [Cond.code yX2_copyFrom cX2_copyFrom 2 none, Cond.fieldLink RX2 9 "NineDancers$Ring" "settings" "[I", Cond.fieldLink RX2 15 "NineDancers$Ring" "there" "I", Cond.fieldLink RX2 19 "NineDancers$Ring" "strengths" "[I", Cond.fieldLink RX2 22 "NineDancers$Ring" "joys" "[I", Cond.fieldLink RX2 25 "NineDancers$Ring" "roundsDanced" "[I", Cond.fieldLink RX2 28 "NineDancers$Ring" "roundsRested" "[I", Cond.fieldLink RX2 31 "NineDancers$Ring" "roundsAlone" "[I", Cond.fieldLink RX2 34 "NineDancers$Ring" "likings" "[I", Cond.fieldLink RX2 37 "NineDancers$Ring" "dances" "[I", Cond.fieldLink RX2 40 "NineDancers$Ring" "lastDances" "[I", Cond.fieldLink RX2 43 "NineDancers$Ring" "timesTold" "[I", Cond.fieldLink RX2 46 "NineDancers$Ring" "rounds" "I", Cond.fieldLink RX2 50 "NineDancers$Ring" "lastNumber" "I", Cond.methodLink RX2 59 yX2_copyRow, Cond.static yX2_copyRow, Cond.code yX2_copyRow cX2_copyRow 2 none, Cond.methodLink RX2 63 Lib.Math.min.name, Cond.static Lib.Math.min.name, Cond.initialized "java/lang/Math", Cond.code Lib.Math.min.name Lib.Math.min.code 2 (some .int), Cond.methodLink RX2 69 arraycopyName, Cond.native arraycopyName, Cond.static arraycopyName]
def wsX3_feed_r3 : List Cond := [Cond.initialized "java/lang/System"]
def wsX3_feed : List Cond := .code yX3_feed cX3_feed 4 (some .int) :: ((wsX3_feed_r1 ++ (wsX3_feed_r2 ++ wsX3_feed_r3)) ++ wsX30 ++ wsX20 ++ wsX00)
def wsX3_villager_r1 : List Cond := [Cond.constant RX3 50 (-1000001), Cond.fieldLink RX3 12 "NineDancers" "ring" "LNineDancers$Ring;", Cond.fieldLink RX3 97 "NineDancers$Ring" "strengths" "[I", Cond.fieldLink RX3 100 "NineDancers$Ring" "joys" "[I", Cond.fieldLink RX3 103 "NineDancers$Ring" "roundsDanced" "[I", Cond.fieldLink RX3 106 "NineDancers$Ring" "roundsRested" "[I", Cond.fieldLink RX3 109 "NineDancers$Ring" "roundsAlone" "[I", Cond.constant RX3 37 (-1000002), Cond.methodLink RX3 46 yX3_isVillager, Cond.static yX3_isVillager, Cond.initialized RX3, Cond.code yX3_isVillager cX3_isVillager 1 (some .boolean), Cond.methodLink RX3 58 yX2_isThere, Cond.instanceMethod yX2_isThere, Cond.selects RX2 yX2_isThere yX2_isThere, Cond.initialized RX2, Cond.code yX2_isThere cX2_isThere 2 (some .boolean), Cond.fieldLink RX2 15 "NineDancers$Ring" "there" "I", Cond.methodLink RX3 112 yX2_dancedWith, Cond.instanceMethod yX2_dancedWith, Cond.selects RX2 yX2_dancedWith yX2_dancedWith, Cond.code yX2_dancedWith cX2_dancedWith 4 (some .int), Cond.fieldLink RX2 37 "NineDancers$Ring" "dances" "[I", Cond.static yX3_pairIndex]
def wsX3_villager_r2 : List Cond := [Cond.code yX3_pairIndex cX3_pairIndex 2 (some .int), Cond.methodLink RX3 115 yX2_mostFrequentPartner, Cond.instanceMethod yX2_mostFrequentPartner, Cond.selects RX2 yX2_mostFrequentPartner yX2_mostFrequentPartner, Cond.code yX2_mostFrequentPartner cX2_mostFrequentPartner 6 (some .int), Cond.constant RX2 49 (-1000006)]
def wsX3_villager : List Cond := .code yX3_villager cX3_villager 3 (some .int) :: ((wsX3_villager_r1 ++ wsX3_villager_r2) ++ wsX30 ++ wsX20)
def wsX3_pair : List Cond := .code yX3_pair cX3_pair 6 (some .int) :: ([.constant RX3 50 (-1000001), .constant RX3 37 (-1000002), .fieldLink RX3 12 "NineDancers" "ring" "LNineDancers$Ring;", .fieldLink RX3 55 "NineDancers$Ring" "likings" "[I", .fieldLink RX3 121 "NineDancers$Ring" "dances" "[I", .fieldLink RX3 124 "NineDancers$Ring" "timesTold" "[I", .fieldLink RX3 127 "NineDancers$Ring" "lastDances" "[I", .methodLink RX3 46 yX3_isVillager, .static yX3_isVillager, .initialized RX3, .code yX3_isVillager cX3_isVillager 1 (some .boolean), .methodLink RX3 51 yX3_pairIndex, .static yX3_pairIndex, .code yX3_pairIndex cX3_pairIndex 2 (some .int), .methodLink RX3 118 yX3_remainderOf, .static yX3_remainderOf, .code yX3_remainderOf cX3_remainderOf 1 (some .int), .methodLink RX3 173 yJ9_floorMod_7cf53, .static yJ9_floorMod_7cf53, .initialized RJ9, .code yJ9_floorMod_7cf53 cJ9_floorMod_7cf53 3 (some .int)] ++ wsX30 ++ wsX20)
def wsX3_partner : List Cond := .code yX3_partner cX3_partner 4 (some .int) :: ([.constant RX3 50 (-1000001), .constant RX3 37 (-1000002), .constant RX3 86 (-1000006), .methodLink RX3 46 yX3_isVillager, .static yX3_isVillager, .initialized RX3, .code yX3_isVillager cX3_isVillager 1 (some .boolean), .methodLink RX3 72 yX3_isNumber, .static yX3_isNumber, .code yX3_isNumber cX3_isNumber 1 (some .boolean), .methodLink RX3 130 yX3_counterpart, .static yX3_counterpart, .code yX3_counterpart cX3_counterpart 2 (some .int), .methodLink RX3 118 yX3_remainderOf, .static yX3_remainderOf, .code yX3_remainderOf cX3_remainderOf 1 (some .int), .methodLink RX3 173 yJ9_floorMod_7cf53, .static yJ9_floorMod_7cf53, .initialized RJ9, .code yJ9_floorMod_7cf53 cJ9_floorMod_7cf53 3 (some .int)])
def wsX3_sumOf : List Cond := .code yX3_sumOf cX3_sumOf 6 (some .int) :: ([])
def wsX3_count_r1 : List Cond := [Cond.fieldLink RX3 12 "NineDancers" "ring" "LNineDancers$Ring;", Cond.fieldLink RX3 42 "NineDancers$Ring" "settings" "[I", Cond.fieldLink RX3 75 "NineDancers$Ring" "rounds" "I", Cond.fieldLink RX3 62 "NineDancers$Ring" "there" "I", Cond.fieldLink RX3 121 "NineDancers$Ring" "dances" "[I", Cond.fieldLink RX3 100 "NineDancers$Ring" "joys" "[I", Cond.fieldLink RX3 109 "NineDancers$Ring" "roundsAlone" "[I", Cond.fieldLink RX3 97 "NineDancers$Ring" "strengths" "[I", Cond.fieldLink RX3 140 "NineDancers$Ring" "lastNumber" "I", Cond.fieldLink RX3 22 "NineDancers" "pad" "LNineDancers$Pad;", Cond.fieldLink RX3 143 "NineDancers$Pad" "length" "I", Cond.fieldLink RX3 29 "NineDancers" "history" "LNineDancers$History;", Cond.fieldLink RX3 146 "NineDancers$History" "length" "I", Cond.constant RX3 37 (-1000002), Cond.methodLink RX3 133 yX3_sumOf, Cond.static yX3_sumOf, Cond.initialized RX3, Cond.code yX3_sumOf cX3_sumOf 6 (some .int), Cond.methodLink RX3 137 yX2_unmetPairs, Cond.instanceMethod yX2_unmetPairs, Cond.selects RX2 yX2_unmetPairs yX2_unmetPairs, Cond.initialized RX2, Cond.code yX2_unmetPairs cX2_unmetPairs 4 (some .int), Cond.methodLink RX2 110 yX2_isUnmet]
def wsX3_count_r2 : List Cond := [Cond.instanceMethod yX2_isUnmet, Cond.selects RX2 yX2_isUnmet yX2_isUnmet, Cond.code yX2_isUnmet cX2_isUnmet 3 (some .boolean), Cond.fieldLink RX2 37 "NineDancers$Ring" "dances" "[I", Cond.methodLink RX2 97 yX2_isThere, Cond.instanceMethod yX2_isThere, Cond.selects RX2 yX2_isThere yX2_isThere, Cond.code yX2_isThere cX2_isThere 2 (some .boolean), Cond.fieldLink RX2 15 "NineDancers$Ring" "there" "I", Cond.static yX3_pairIndex, Cond.code yX3_pairIndex cX3_pairIndex 2 (some .int)]
def wsX3_count : List Cond := .code yX3_count cX3_count 2 (some .int) :: ((wsX3_count_r1 ++ wsX3_count_r2) ++ wsX30 ++ wsX20 ++ wsX10 ++ wsX00)
def wsX3_ifCalled_r1 : List Cond := [Cond.constant RX3 37 (-1000002), Cond.fieldLink RX3 12 "NineDancers" "ring" "LNineDancers$Ring;", Cond.methodLink RX3 72 yX3_isNumber, Cond.static yX3_isNumber, Cond.initialized RX3, Cond.code yX3_isNumber cX3_isNumber 1 (some .boolean), Cond.methodLink RX3 147 yX2_wouldBring, Cond.instanceMethod yX2_wouldBring, Cond.selects RX2 yX2_wouldBring yX2_wouldBring, Cond.initialized RX2, Cond.code yX2_wouldBring cX2_wouldBring 6 (some .int), Cond.static yX3_counterpart, Cond.code yX3_counterpart cX3_counterpart 2 (some .int), Cond.methodLink RX3 118 yX3_remainderOf, Cond.static yX3_remainderOf, Cond.code yX3_remainderOf cX3_remainderOf 1 (some .int), Cond.methodLink RX3 173 yJ9_floorMod_7cf53, Cond.static yJ9_floorMod_7cf53, Cond.initialized RJ9, Cond.code yJ9_floorMod_7cf53 cJ9_floorMod_7cf53 3 (some .int), Cond.methodLink RX2 121 yX2_pairWouldBring, Cond.instanceMethod yX2_pairWouldBring, Cond.selects RX2 yX2_pairWouldBring yX2_pairWouldBring, Cond.code yX2_pairWouldBring cX2_pairWouldBring 5 (some .int)]
def wsX3_ifCalled_r2 : List Cond := [Cond.fieldLink RX2 15 "NineDancers$Ring" "there" "I", Cond.fieldLink RX2 37 "NineDancers$Ring" "dances" "[I", Cond.methodLink RX2 82 yX2_wouldDance, Cond.instanceMethod yX2_wouldDance, Cond.selects RX2 yX2_wouldDance yX2_wouldDance, Cond.code yX2_wouldDance cX2_wouldDance 3 (some .boolean), Cond.fieldLink RX2 19 "NineDancers$Ring" "strengths" "[I", Cond.fieldLink RX2 9 "NineDancers$Ring" "settings" "[I", Cond.methodLink RX2 97 yX2_isThere, Cond.instanceMethod yX2_isThere, Cond.selects RX2 yX2_isThere yX2_isThere, Cond.code yX2_isThere cX2_isThere 2 (some .boolean), Cond.methodLink RX2 116 yJ6_bitCount_0f7a4, Cond.static yJ6_bitCount_0f7a4, Cond.initialized RJ6, Cond.code yJ6_bitCount_0f7a4 cJ6_bitCount_0f7a4 1 (some .int), Cond.constant RJ6 265 (1431655765), Cond.constant RJ6 266 (858993459), Cond.constant RJ6 267 (252645135), Cond.methodLink RX2 101 yX2_joyOfEach, Cond.instanceMethod yX2_joyOfEach, Cond.selects RX2 yX2_joyOfEach yX2_joyOfEach, Cond.code yX2_joyOfEach cX2_joyOfEach 3 (some .int), Cond.fieldLink RX2 34 "NineDancers$Ring" "likings" "[I"]
def wsX3_ifCalled_r3 : List Cond := [Cond.static yX3_pairIndex, Cond.code yX3_pairIndex cX3_pairIndex 2 (some .int)]
def wsX3_ifCalled : List Cond := .code yX3_ifCalled cX3_ifCalled 3 (some .int) :: ((wsX3_ifCalled_r1 ++ (wsX3_ifCalled_r2 ++ wsX3_ifCalled_r3)) ++ wsX30 ++ wsX20)
def wsX3_bestCall_r1 : List Cond := [Cond.constant RX3 37 (-1000002), Cond.fieldLink RX3 12 "NineDancers" "ring" "LNineDancers$Ring;", Cond.methodLink RX3 147 yX2_wouldBring, Cond.instanceMethod yX2_wouldBring, Cond.selects RX2 yX2_wouldBring yX2_wouldBring, Cond.initialized RX2, Cond.code yX2_wouldBring cX2_wouldBring 6 (some .int), Cond.static yX3_counterpart, Cond.initialized RX3, Cond.code yX3_counterpart cX3_counterpart 2 (some .int), Cond.methodLink RX3 118 yX3_remainderOf, Cond.static yX3_remainderOf, Cond.code yX3_remainderOf cX3_remainderOf 1 (some .int), Cond.methodLink RX3 173 yJ9_floorMod_7cf53, Cond.static yJ9_floorMod_7cf53, Cond.initialized RJ9, Cond.code yJ9_floorMod_7cf53 cJ9_floorMod_7cf53 3 (some .int), Cond.methodLink RX2 121 yX2_pairWouldBring, Cond.instanceMethod yX2_pairWouldBring, Cond.selects RX2 yX2_pairWouldBring yX2_pairWouldBring, Cond.code yX2_pairWouldBring cX2_pairWouldBring 5 (some .int), Cond.fieldLink RX2 15 "NineDancers$Ring" "there" "I", Cond.fieldLink RX2 37 "NineDancers$Ring" "dances" "[I", Cond.methodLink RX2 82 yX2_wouldDance]
def wsX3_bestCall_r2 : List Cond := [Cond.instanceMethod yX2_wouldDance, Cond.selects RX2 yX2_wouldDance yX2_wouldDance, Cond.code yX2_wouldDance cX2_wouldDance 3 (some .boolean), Cond.fieldLink RX2 19 "NineDancers$Ring" "strengths" "[I", Cond.fieldLink RX2 9 "NineDancers$Ring" "settings" "[I", Cond.methodLink RX2 97 yX2_isThere, Cond.instanceMethod yX2_isThere, Cond.selects RX2 yX2_isThere yX2_isThere, Cond.code yX2_isThere cX2_isThere 2 (some .boolean), Cond.methodLink RX2 116 yJ6_bitCount_0f7a4, Cond.static yJ6_bitCount_0f7a4, Cond.initialized RJ6, Cond.code yJ6_bitCount_0f7a4 cJ6_bitCount_0f7a4 1 (some .int), Cond.constant RJ6 265 (1431655765), Cond.constant RJ6 266 (858993459), Cond.constant RJ6 267 (252645135), Cond.methodLink RX2 101 yX2_joyOfEach, Cond.instanceMethod yX2_joyOfEach, Cond.selects RX2 yX2_joyOfEach yX2_joyOfEach, Cond.code yX2_joyOfEach cX2_joyOfEach 3 (some .int), Cond.fieldLink RX2 34 "NineDancers$Ring" "likings" "[I", Cond.static yX3_pairIndex, Cond.code yX3_pairIndex cX3_pairIndex 2 (some .int)]
def wsX3_bestCall : List Cond := .code yX3_bestCall cX3_bestCall 6 (some .int) :: ((wsX3_bestCall_r1 ++ wsX3_bestCall_r2) ++ wsX30 ++ wsX20)
def wsX3_fewestRounds_r1 : List Cond := [Cond.fieldLink RX3 12 "NineDancers" "ring" "LNineDancers$Ring;", Cond.constant RX3 37 (-1000002), Cond.methodLink RX3 150 yX2_remaindersWithUnmetPair, Cond.instanceMethod yX2_remaindersWithUnmetPair, Cond.selects RX2 yX2_remaindersWithUnmetPair yX2_remaindersWithUnmetPair, Cond.initialized RX2, Cond.code yX2_remaindersWithUnmetPair cX2_remaindersWithUnmetPair 3 (some .int), Cond.methodLink RX2 113 yX2_hasUnmetPair, Cond.instanceMethod yX2_hasUnmetPair, Cond.selects RX2 yX2_hasUnmetPair yX2_hasUnmetPair, Cond.code yX2_hasUnmetPair cX2_hasUnmetPair 4 (some .boolean), Cond.static yX3_counterpart, Cond.initialized RX3, Cond.code yX3_counterpart cX3_counterpart 2 (some .int), Cond.methodLink RX3 118 yX3_remainderOf, Cond.static yX3_remainderOf, Cond.code yX3_remainderOf cX3_remainderOf 1 (some .int), Cond.methodLink RX3 173 yJ9_floorMod_7cf53, Cond.static yJ9_floorMod_7cf53, Cond.initialized RJ9, Cond.code yJ9_floorMod_7cf53 cJ9_floorMod_7cf53 3 (some .int), Cond.methodLink RX2 110 yX2_isUnmet, Cond.instanceMethod yX2_isUnmet, Cond.selects RX2 yX2_isUnmet yX2_isUnmet]
def wsX3_fewestRounds_r2 : List Cond := [Cond.code yX2_isUnmet cX2_isUnmet 3 (some .boolean), Cond.fieldLink RX2 37 "NineDancers$Ring" "dances" "[I", Cond.methodLink RX2 97 yX2_isThere, Cond.instanceMethod yX2_isThere, Cond.selects RX2 yX2_isThere yX2_isThere, Cond.code yX2_isThere cX2_isThere 2 (some .boolean), Cond.fieldLink RX2 15 "NineDancers$Ring" "there" "I", Cond.static yX3_pairIndex, Cond.code yX3_pairIndex cX3_pairIndex 2 (some .int), Cond.methodLink RX3 153 yX2_roundsByTrying, Cond.instanceMethod yX2_roundsByTrying, Cond.selects RX2 yX2_roundsByTrying yX2_roundsByTrying, Cond.code yX2_roundsByTrying cX2_roundsByTrying 4 (some .int), Cond.methodLink RX2 116 yJ6_bitCount_0f7a4, Cond.static yJ6_bitCount_0f7a4, Cond.initialized RJ6, Cond.code yJ6_bitCount_0f7a4 cJ6_bitCount_0f7a4 1 (some .int), Cond.constant RJ6 265 (1431655765), Cond.constant RJ6 266 (858993459), Cond.constant RJ6 267 (252645135)]
def wsX3_fewestRounds : List Cond := .code yX3_fewestRounds cX3_fewestRounds 2 (some .int) :: ((wsX3_fewestRounds_r1 ++ wsX3_fewestRounds_r2) ++ wsX30 ++ wsX20)
def wsX3_untilAllMet_r1 : List Cond := [Cond.fieldLink RX3 16 "NineDancers" "trial" "LNineDancers$Ring;", Cond.fieldLink RX3 12 "NineDancers" "ring" "LNineDancers$Ring;", Cond.constant RX3 86 (-1000006), Cond.fieldLink RX3 75 "NineDancers$Ring" "rounds" "I", Cond.methodLink RX3 156 yX2_copyFrom, Cond.instanceMethod yX2_copyFrom, Cond.selects RX2 yX2_copyFrom yX2_copyFrom, Cond.initialized RX2, Cond.code yX2_copyFrom cX2_copyFrom 2 none, Cond.fieldLink RX2 9 "NineDancers$Ring" "settings" "[I", Cond.fieldLink RX2 15 "NineDancers$Ring" "there" "I", Cond.fieldLink RX2 19 "NineDancers$Ring" "strengths" "[I", Cond.fieldLink RX2 22 "NineDancers$Ring" "joys" "[I", Cond.fieldLink RX2 25 "NineDancers$Ring" "roundsDanced" "[I", Cond.fieldLink RX2 28 "NineDancers$Ring" "roundsRested" "[I", Cond.fieldLink RX2 31 "NineDancers$Ring" "roundsAlone" "[I", Cond.fieldLink RX2 34 "NineDancers$Ring" "likings" "[I", Cond.fieldLink RX2 37 "NineDancers$Ring" "dances" "[I", Cond.fieldLink RX2 40 "NineDancers$Ring" "lastDances" "[I", Cond.fieldLink RX2 43 "NineDancers$Ring" "timesTold" "[I", Cond.fieldLink RX2 46 "NineDancers$Ring" "rounds" "I", Cond.fieldLink RX2 50 "NineDancers$Ring" "lastNumber" "I", Cond.methodLink RX2 59 yX2_copyRow, Cond.static yX2_copyRow]
def wsX3_untilAllMet_r2 : List Cond := [Cond.code yX2_copyRow cX2_copyRow 2 none, Cond.methodLink RX2 63 Lib.Math.min.name, Cond.static Lib.Math.min.name, Cond.initialized "java/lang/Math", Cond.code Lib.Math.min.name Lib.Math.min.code 2 (some .int), Cond.methodLink RX2 69 arraycopyName, Cond.native arraycopyName, Cond.static arraycopyName, Cond.initialized "java/lang/System", Cond.methodLink RX3 137 yX2_unmetPairs, Cond.instanceMethod yX2_unmetPairs, Cond.selects RX2 yX2_unmetPairs yX2_unmetPairs, Cond.code yX2_unmetPairs cX2_unmetPairs 4 (some .int), Cond.methodLink RX2 110 yX2_isUnmet, Cond.instanceMethod yX2_isUnmet, Cond.selects RX2 yX2_isUnmet yX2_isUnmet, Cond.code yX2_isUnmet cX2_isUnmet 3 (some .boolean), Cond.methodLink RX2 97 yX2_isThere, Cond.instanceMethod yX2_isThere, Cond.selects RX2 yX2_isThere yX2_isThere, Cond.code yX2_isThere cX2_isThere 2 (some .boolean), Cond.static yX3_pairIndex, Cond.initialized RX3, Cond.code yX3_pairIndex cX3_pairIndex 2 (some .int)]
def wsX3_untilAllMet_r3 : List Cond := [Cond.methodLink RX3 118 yX3_remainderOf, Cond.static yX3_remainderOf, Cond.code yX3_remainderOf cX3_remainderOf 1 (some .int), Cond.methodLink RX3 173 yJ9_floorMod_7cf53, Cond.static yJ9_floorMod_7cf53, Cond.initialized RJ9, Cond.code yJ9_floorMod_7cf53 cJ9_floorMod_7cf53 3 (some .int), Cond.methodLink RX3 147 yX2_wouldBring, Cond.instanceMethod yX2_wouldBring, Cond.selects RX2 yX2_wouldBring yX2_wouldBring, Cond.code yX2_wouldBring cX2_wouldBring 6 (some .int), Cond.static yX3_counterpart, Cond.code yX3_counterpart cX3_counterpart 2 (some .int), Cond.methodLink RX2 121 yX2_pairWouldBring, Cond.instanceMethod yX2_pairWouldBring, Cond.selects RX2 yX2_pairWouldBring yX2_pairWouldBring, Cond.code yX2_pairWouldBring cX2_pairWouldBring 5 (some .int), Cond.methodLink RX2 82 yX2_wouldDance, Cond.instanceMethod yX2_wouldDance, Cond.selects RX2 yX2_wouldDance yX2_wouldDance, Cond.code yX2_wouldDance cX2_wouldDance 3 (some .boolean), Cond.methodLink RX2 116 yJ6_bitCount_0f7a4, Cond.static yJ6_bitCount_0f7a4, Cond.initialized RJ6]
def wsX3_untilAllMet_r4 : List Cond := [Cond.code yJ6_bitCount_0f7a4 cJ6_bitCount_0f7a4 1 (some .int), Cond.constant RJ6 265 (1431655765), Cond.constant RJ6 266 (858993459), Cond.constant RJ6 267 (252645135), Cond.methodLink RX2 101 yX2_joyOfEach, Cond.instanceMethod yX2_joyOfEach, Cond.selects RX2 yX2_joyOfEach yX2_joyOfEach, Cond.code yX2_joyOfEach cX2_joyOfEach 3 (some .int), Cond.methodLink RX3 79 yX2_danceRound, Cond.instanceMethod yX2_danceRound, Cond.selects RX2 yX2_danceRound yX2_danceRound, Cond.code yX2_danceRound cX2_danceRound 5 (some .int), Cond.methodLink RX2 78 yX2_rest, Cond.instanceMethod yX2_rest, Cond.selects RX2 yX2_rest yX2_rest, Cond.code yX2_rest cX2_rest 2 none, Cond.methodLink RX2 86 yX2_dance, Cond.instanceMethod yX2_dance, Cond.selects RX2 yX2_dance yX2_dance, Cond.code yX2_dance cX2_dance 5 none, Cond.methodLink RX2 104 yX2_takePart, Cond.instanceMethod yX2_takePart, Cond.selects RX2 yX2_takePart yX2_takePart, Cond.code yX2_takePart cX2_takePart 3 none]
def wsX3_untilAllMet_r5 : List Cond := [Cond.methodLink RX2 90 yX2_leaveAlone, Cond.instanceMethod yX2_leaveAlone, Cond.selects RX2 yX2_leaveAlone yX2_leaveAlone, Cond.code yX2_leaveAlone cX2_leaveAlone 2 none]
def wsX3_untilAllMet : List Cond := .code yX3_untilAllMet cX3_untilAllMet 4 (some .int) :: ((wsX3_untilAllMet_r1 ++ (wsX3_untilAllMet_r2 ++ (wsX3_untilAllMet_r3 ++ (wsX3_untilAllMet_r4 ++ wsX3_untilAllMet_r5)))) ++ wsX30 ++ wsX20)
def wsX3_charactersIn : List Cond := .code yX3_charactersIn cX3_charactersIn 7 (some .int) :: ([.constantLong RX3 178 (255), .constantLong RX3 180 (33), .constantLong RX3 182 (126)])
def wsX3_put : List Cond := .code yX3_put cX3_put 4 (some .int) :: ([.constant RX3 37 (-1000002), .fieldLink RX3 22 "NineDancers" "pad" "LNineDancers$Pad;", .fieldLink RX3 143 "NineDancers$Pad" "length" "I", .constant RX3 78 (-1000004), .methodLink RX3 159 yX3_charactersIn, .static yX3_charactersIn, .initialized RX3, .code yX3_charactersIn cX3_charactersIn 7 (some .int), .constantLong RX3 178 (255), .constantLong RX3 180 (33), .constantLong RX3 182 (126), .methodLink RX3 163 yX1_append, .instanceMethod yX1_append, .selects RX1 yX1_append yX1_append, .initialized RX1, .code yX1_append cX1_append 5 none, .fieldLink RX1 15 "NineDancers$Pad" "length" "I", .fieldLink RX1 9 "NineDancers$Pad" "text" "[C", .constantLong RX1 19 (255)] ++ wsX30 ++ wsX10)
def wsX3_wipe : List Cond := .code yX3_wipe cX3_wipe 1 (some .int) :: ([.fieldLink RX3 22 "NineDancers" "pad" "LNineDancers$Pad;", .methodLink RX3 94 yX1_empty, .instanceMethod yX1_empty, .selects RX1 yX1_empty yX1_empty, .initialized RX1, .code yX1_empty cX1_empty 2 (some .int), .fieldLink RX1 15 "NineDancers$Pad" "length" "I"] ++ wsX30 ++ wsX10)
def wsX3_undo_r1 : List Cond := [Cond.fieldLink RX3 29 "NineDancers" "history" "LNineDancers$History;", Cond.fieldLink RX3 146 "NineDancers$History" "length" "I", Cond.constant RX3 61 (-1000005), Cond.fieldLink RX3 12 "NineDancers" "ring" "LNineDancers$Ring;", Cond.methodLink RX3 167 yX0_takeBackInto, Cond.instanceMethod yX0_takeBackInto, Cond.selects RX0 yX0_takeBackInto yX0_takeBackInto, Cond.initialized RX0, Cond.code yX0_takeBackInto cX0_takeBackInto 2 none, Cond.fieldLink RX0 17 "NineDancers$History" "length" "I", Cond.fieldLink RX0 11 "NineDancers$History" "states" "[LNineDancers$Ring;", Cond.methodLink RX0 25 yX2_copyFrom, Cond.instanceMethod yX2_copyFrom, Cond.selects RX2 yX2_copyFrom yX2_copyFrom, Cond.initialized RX2, Cond.code yX2_copyFrom cX2_copyFrom 2 none, Cond.fieldLink RX2 9 "NineDancers$Ring" "settings" "[I", Cond.fieldLink RX2 15 "NineDancers$Ring" "there" "I", Cond.fieldLink RX2 19 "NineDancers$Ring" "strengths" "[I", Cond.fieldLink RX2 22 "NineDancers$Ring" "joys" "[I", Cond.fieldLink RX2 25 "NineDancers$Ring" "roundsDanced" "[I", Cond.fieldLink RX2 28 "NineDancers$Ring" "roundsRested" "[I", Cond.fieldLink RX2 31 "NineDancers$Ring" "roundsAlone" "[I", Cond.fieldLink RX2 34 "NineDancers$Ring" "likings" "[I"]
def wsX3_undo_r2 : List Cond := [Cond.fieldLink RX2 37 "NineDancers$Ring" "dances" "[I", Cond.fieldLink RX2 40 "NineDancers$Ring" "lastDances" "[I", Cond.fieldLink RX2 43 "NineDancers$Ring" "timesTold" "[I", Cond.fieldLink RX2 46 "NineDancers$Ring" "rounds" "I", Cond.fieldLink RX2 50 "NineDancers$Ring" "lastNumber" "I", Cond.methodLink RX2 59 yX2_copyRow, Cond.static yX2_copyRow, Cond.code yX2_copyRow cX2_copyRow 2 none, Cond.methodLink RX2 63 Lib.Math.min.name, Cond.static Lib.Math.min.name, Cond.initialized "java/lang/Math", Cond.code Lib.Math.min.name Lib.Math.min.code 2 (some .int), Cond.methodLink RX2 69 arraycopyName, Cond.native arraycopyName, Cond.static arraycopyName, Cond.initialized "java/lang/System"]
def wsX3_undo : List Cond := .code yX3_undo cX3_undo 1 (some .int) :: ((wsX3_undo_r1 ++ wsX3_undo_r2) ++ wsX30 ++ wsX00 ++ wsX20)
def wsX3_isSlot : List Cond := .code yX3_isSlot cX3_isSlot 1 (some .boolean) :: ([])
def wsX3_save_r1 : List Cond := [Cond.constant RX3 37 (-1000002), Cond.fieldLink RX3 33 "NineDancers" "slots" "[LNineDancers$Ring;", Cond.classLink RX3 9 RX2, Cond.instantiable RX2 13, Cond.initialized RX2, Cond.fieldLink RX3 12 "NineDancers" "ring" "LNineDancers$Ring;", Cond.fieldLink RX3 75 "NineDancers$Ring" "rounds" "I", Cond.methodLink RX3 170 yX3_isSlot, Cond.static yX3_isSlot, Cond.initialized RX3, Cond.code yX3_isSlot cX3_isSlot 1 (some .boolean), Cond.methodLink RX3 11 yX2_init, Cond.instanceMethod yX2_init, Cond.code yX2_init cX2_init 1 none, Cond.methodLink RX2 3 objectInit, Cond.instanceMethod objectInit, Cond.code objectInit ⟨#[0xb1]⟩ 1 none, Cond.arrayClass .int, Cond.fieldLink RX2 9 "NineDancers$Ring" "settings" "[I", Cond.fieldLink RX2 15 "NineDancers$Ring" "there" "I", Cond.fieldLink RX2 19 "NineDancers$Ring" "strengths" "[I", Cond.fieldLink RX2 22 "NineDancers$Ring" "joys" "[I", Cond.fieldLink RX2 25 "NineDancers$Ring" "roundsDanced" "[I", Cond.fieldLink RX2 28 "NineDancers$Ring" "roundsRested" "[I"]
def wsX3_save_r2 : List Cond := [Cond.fieldLink RX2 31 "NineDancers$Ring" "roundsAlone" "[I", Cond.fieldLink RX2 34 "NineDancers$Ring" "likings" "[I", Cond.fieldLink RX2 37 "NineDancers$Ring" "dances" "[I", Cond.fieldLink RX2 40 "NineDancers$Ring" "lastDances" "[I", Cond.fieldLink RX2 43 "NineDancers$Ring" "timesTold" "[I", Cond.fieldLink RX2 46 "NineDancers$Ring" "rounds" "I", Cond.constant RX2 49 (-1000006), Cond.fieldLink RX2 50 "NineDancers$Ring" "lastNumber" "I", Cond.methodLink RX2 53 yJ7_fill_53178, Cond.static yJ7_fill_53178, Cond.initialized RJ7, Cond.code yJ7_fill_53178 cJ7_fill_53178 4 none, Cond.methodLink RX3 156 yX2_copyFrom, Cond.instanceMethod yX2_copyFrom, Cond.selects RX2 yX2_copyFrom yX2_copyFrom, Cond.code yX2_copyFrom cX2_copyFrom 2 none, Cond.methodLink RX2 59 yX2_copyRow, Cond.static yX2_copyRow, Cond.code yX2_copyRow cX2_copyRow 2 none, Cond.methodLink RX2 63 Lib.Math.min.name, Cond.static Lib.Math.min.name, Cond.initialized "java/lang/Math", Cond.code Lib.Math.min.name Lib.Math.min.code 2 (some .int), Cond.methodLink RX2 69 arraycopyName]
def wsX3_save_r3 : List Cond := [Cond.native arraycopyName, Cond.static arraycopyName, Cond.initialized "java/lang/System"]
def wsX3_save : List Cond := .code yX3_save cX3_save 3 (some .int) :: ((wsX3_save_r1 ++ (wsX3_save_r2 ++ wsX3_save_r3)) ++ wsX30 ++ wsX20)
def wsX3_restore_r1 : List Cond := [Cond.constant RX3 37 (-1000002), Cond.fieldLink RX3 33 "NineDancers" "slots" "[LNineDancers$Ring;", Cond.constant RX3 61 (-1000005), Cond.fieldLink RX3 29 "NineDancers" "history" "LNineDancers$History;", Cond.fieldLink RX3 12 "NineDancers" "ring" "LNineDancers$Ring;", Cond.fieldLink RX3 75 "NineDancers$Ring" "rounds" "I", Cond.methodLink RX3 170 yX3_isSlot, Cond.static yX3_isSlot, Cond.initialized RX3, Cond.code yX3_isSlot cX3_isSlot 1 (some .boolean), Cond.methodLink RX3 38 yX0_remember, Cond.instanceMethod yX0_remember, Cond.selects RX0 yX0_remember yX0_remember, Cond.initialized RX0, Cond.code yX0_remember cX0_remember 2 none, Cond.fieldLink RX0 17 "NineDancers$History" "length" "I", Cond.fieldLink RX0 11 "NineDancers$History" "states" "[LNineDancers$Ring;", Cond.methodLink RX0 22 yX0_dropOldest, Cond.instanceMethod yX0_dropOldest, Cond.selects RX0 yX0_dropOldest yX0_dropOldest, Cond.code yX0_dropOldest cX0_dropOldest 3 none, Cond.methodLink RX0 25 yX2_copyFrom, Cond.instanceMethod yX2_copyFrom, Cond.selects RX2 yX2_copyFrom yX2_copyFrom]
def wsX3_restore_r2 : List Cond := [Cond.initialized RX2, Cond.code yX2_copyFrom cX2_copyFrom 2 none, Cond.fieldLink RX2 9 "NineDancers$Ring" "settings" "[I", Cond.fieldLink RX2 15 "NineDancers$Ring" "there" "I", Cond.fieldLink RX2 19 "NineDancers$Ring" "strengths" "[I", Cond.fieldLink RX2 22 "NineDancers$Ring" "joys" "[I", Cond.fieldLink RX2 25 "NineDancers$Ring" "roundsDanced" "[I", Cond.fieldLink RX2 28 "NineDancers$Ring" "roundsRested" "[I", Cond.fieldLink RX2 31 "NineDancers$Ring" "roundsAlone" "[I", Cond.fieldLink RX2 34 "NineDancers$Ring" "likings" "[I", Cond.fieldLink RX2 37 "NineDancers$Ring" "dances" "[I", Cond.fieldLink RX2 40 "NineDancers$Ring" "lastDances" "[I", Cond.fieldLink RX2 43 "NineDancers$Ring" "timesTold" "[I", Cond.fieldLink RX2 46 "NineDancers$Ring" "rounds" "I", Cond.fieldLink RX2 50 "NineDancers$Ring" "lastNumber" "I", Cond.methodLink RX2 59 yX2_copyRow, Cond.static yX2_copyRow, Cond.code yX2_copyRow cX2_copyRow 2 none, Cond.methodLink RX2 63 Lib.Math.min.name, Cond.static Lib.Math.min.name, Cond.initialized "java/lang/Math", Cond.code Lib.Math.min.name Lib.Math.min.code 2 (some .int), Cond.methodLink RX2 69 arraycopyName, Cond.native arraycopyName]
def wsX3_restore_r3 : List Cond := [Cond.static arraycopyName, Cond.initialized "java/lang/System", Cond.methodLink RX3 156 yX2_copyFrom]
def wsX3_restore : List Cond := .code yX3_restore cX3_restore 3 (some .int) :: ((wsX3_restore_r1 ++ (wsX3_restore_r2 ++ wsX3_restore_r3)) ++ wsX30 ++ wsX20 ++ wsX00)
def wsJ9_min_7cf53 : List Cond := .code yJ9_min_7cf53 cJ9_min_7cf53 2 (some .int) :: ([])
def wsL_cell : List Cond := .code yL_cell cL_cell 2 (some .int) :: ([.constant RL 7 (2143543765)])
def wsL_up : List Cond := .code yL_up cL_up 2 (some .int) :: ([.constant RL 8 (2147483647)])
def wsL_there : List Cond := .code yL_there cL_there 1 (some .int) :: ([])
def wsL_twice : List Cond := .code yL_twice cL_twice 1 (some .int) :: ([])
def wsL_number : List Cond := .code yL_number cL_number 2 (some .boolean) :: ([.methodLink RL 9 yX3_put, .instanceMethod yX3_put, .selects RX3 yX3_put yX3_put, .initialized RX3, .code yX3_put cX3_put 4 (some .int), .constant RX3 37 (-1000002), .fieldLink RX3 22 "NineDancers" "pad" "LNineDancers$Pad;", .fieldLink RX3 143 "NineDancers$Pad" "length" "I", .constant RX3 78 (-1000004), .methodLink RX3 159 yX3_charactersIn, .static yX3_charactersIn, .code yX3_charactersIn cX3_charactersIn 7 (some .int), .constantLong RX3 178 (255), .constantLong RX3 180 (33), .constantLong RX3 182 (126), .methodLink RX3 163 yX1_append, .instanceMethod yX1_append, .selects RX1 yX1_append yX1_append, .initialized RX1, .code yX1_append cX1_append 5 none, .fieldLink RX1 15 "NineDancers$Pad" "length" "I", .fieldLink RX1 9 "NineDancers$Pad" "text" "[C", .constantLong RX1 19 (255)] ++ wsX30 ++ wsX10)
def wsL_bits : List Cond := .code yL_bits cL_bits 3 (some .int) :: ([])
def wsL_isRound_r1 : List Cond := [Cond.arrayClass .int, Cond.methodLink RL 21 yX3_count, Cond.instanceMethod yX3_count, Cond.selects RX3 yX3_count yX3_count, Cond.initialized RX3, Cond.code yX3_count cX3_count 2 (some .int), Cond.fieldLink RX3 12 "NineDancers" "ring" "LNineDancers$Ring;", Cond.fieldLink RX3 42 "NineDancers$Ring" "settings" "[I", Cond.fieldLink RX3 75 "NineDancers$Ring" "rounds" "I", Cond.fieldLink RX3 62 "NineDancers$Ring" "there" "I", Cond.fieldLink RX3 121 "NineDancers$Ring" "dances" "[I", Cond.fieldLink RX3 100 "NineDancers$Ring" "joys" "[I", Cond.fieldLink RX3 109 "NineDancers$Ring" "roundsAlone" "[I", Cond.fieldLink RX3 97 "NineDancers$Ring" "strengths" "[I", Cond.fieldLink RX3 140 "NineDancers$Ring" "lastNumber" "I", Cond.fieldLink RX3 22 "NineDancers" "pad" "LNineDancers$Pad;", Cond.fieldLink RX3 143 "NineDancers$Pad" "length" "I", Cond.fieldLink RX3 29 "NineDancers" "history" "LNineDancers$History;", Cond.fieldLink RX3 146 "NineDancers$History" "length" "I", Cond.constant RX3 37 (-1000002), Cond.methodLink RX3 133 yX3_sumOf, Cond.static yX3_sumOf, Cond.code yX3_sumOf cX3_sumOf 6 (some .int), Cond.methodLink RX3 137 yX2_unmetPairs]
def wsL_isRound_r2 : List Cond := [Cond.instanceMethod yX2_unmetPairs, Cond.selects RX2 yX2_unmetPairs yX2_unmetPairs, Cond.initialized RX2, Cond.code yX2_unmetPairs cX2_unmetPairs 4 (some .int), Cond.methodLink RX2 110 yX2_isUnmet, Cond.instanceMethod yX2_isUnmet, Cond.selects RX2 yX2_isUnmet yX2_isUnmet, Cond.code yX2_isUnmet cX2_isUnmet 3 (some .boolean), Cond.fieldLink RX2 37 "NineDancers$Ring" "dances" "[I", Cond.methodLink RX2 97 yX2_isThere, Cond.instanceMethod yX2_isThere, Cond.selects RX2 yX2_isThere yX2_isThere, Cond.code yX2_isThere cX2_isThere 2 (some .boolean), Cond.fieldLink RX2 15 "NineDancers$Ring" "there" "I", Cond.static yX3_pairIndex, Cond.code yX3_pairIndex cX3_pairIndex 2 (some .int), Cond.methodLink RL 38 yX3_villager, Cond.instanceMethod yX3_villager, Cond.selects RX3 yX3_villager yX3_villager, Cond.code yX3_villager cX3_villager 3 (some .int), Cond.constant RX3 50 (-1000001), Cond.fieldLink RX3 103 "NineDancers$Ring" "roundsDanced" "[I", Cond.fieldLink RX3 106 "NineDancers$Ring" "roundsRested" "[I", Cond.methodLink RX3 46 yX3_isVillager]
def wsL_isRound_r3 : List Cond := [Cond.static yX3_isVillager, Cond.code yX3_isVillager cX3_isVillager 1 (some .boolean), Cond.methodLink RX3 58 yX2_isThere, Cond.methodLink RX3 112 yX2_dancedWith, Cond.instanceMethod yX2_dancedWith, Cond.selects RX2 yX2_dancedWith yX2_dancedWith, Cond.code yX2_dancedWith cX2_dancedWith 4 (some .int), Cond.methodLink RX3 115 yX2_mostFrequentPartner, Cond.instanceMethod yX2_mostFrequentPartner, Cond.selects RX2 yX2_mostFrequentPartner yX2_mostFrequentPartner, Cond.code yX2_mostFrequentPartner cX2_mostFrequentPartner 6 (some .int), Cond.constant RX2 49 (-1000006), Cond.methodLink RL 78 yX3_call, Cond.instanceMethod yX3_call, Cond.selects RX3 yX3_call yX3_call, Cond.code yX3_call cX3_call 2 (some .int), Cond.constant RX3 78 (-1000004), Cond.methodLink RX3 72 yX3_isNumber, Cond.static yX3_isNumber, Cond.code yX3_isNumber cX3_isNumber 1 (some .boolean), Cond.methodLink RX3 38 yX0_remember, Cond.instanceMethod yX0_remember, Cond.selects RX0 yX0_remember yX0_remember, Cond.initialized RX0]
def wsL_isRound_r4 : List Cond := [Cond.code yX0_remember cX0_remember 2 none, Cond.fieldLink RX0 17 "NineDancers$History" "length" "I", Cond.fieldLink RX0 11 "NineDancers$History" "states" "[LNineDancers$Ring;", Cond.methodLink RX0 22 yX0_dropOldest, Cond.instanceMethod yX0_dropOldest, Cond.selects RX0 yX0_dropOldest yX0_dropOldest, Cond.code yX0_dropOldest cX0_dropOldest 3 none, Cond.methodLink RX0 25 yX2_copyFrom, Cond.instanceMethod yX2_copyFrom, Cond.selects RX2 yX2_copyFrom yX2_copyFrom, Cond.code yX2_copyFrom cX2_copyFrom 2 none, Cond.fieldLink RX2 9 "NineDancers$Ring" "settings" "[I", Cond.fieldLink RX2 19 "NineDancers$Ring" "strengths" "[I", Cond.fieldLink RX2 22 "NineDancers$Ring" "joys" "[I", Cond.fieldLink RX2 25 "NineDancers$Ring" "roundsDanced" "[I", Cond.fieldLink RX2 28 "NineDancers$Ring" "roundsRested" "[I", Cond.fieldLink RX2 31 "NineDancers$Ring" "roundsAlone" "[I", Cond.fieldLink RX2 34 "NineDancers$Ring" "likings" "[I", Cond.fieldLink RX2 40 "NineDancers$Ring" "lastDances" "[I", Cond.fieldLink RX2 43 "NineDancers$Ring" "timesTold" "[I", Cond.fieldLink RX2 46 "NineDancers$Ring" "rounds" "I", Cond.fieldLink RX2 50 "NineDancers$Ring" "lastNumber" "I", Cond.methodLink RX2 59 yX2_copyRow, Cond.static yX2_copyRow]
def wsL_isRound_r5 : List Cond := [Cond.code yX2_copyRow cX2_copyRow 2 none, Cond.methodLink RX2 63 Lib.Math.min.name, Cond.static Lib.Math.min.name, Cond.initialized "java/lang/Math", Cond.code Lib.Math.min.name Lib.Math.min.code 2 (some .int), Cond.methodLink RX2 69 arraycopyName, Cond.native arraycopyName, Cond.static arraycopyName, Cond.initialized "java/lang/System", Cond.methodLink RX3 79 yX2_danceRound, Cond.instanceMethod yX2_danceRound, Cond.selects RX2 yX2_danceRound yX2_danceRound, Cond.code yX2_danceRound cX2_danceRound 5 (some .int), Cond.static yX3_counterpart, Cond.code yX3_counterpart cX3_counterpart 2 (some .int), Cond.methodLink RX3 118 yX3_remainderOf, Cond.static yX3_remainderOf, Cond.code yX3_remainderOf cX3_remainderOf 1 (some .int), Cond.methodLink RX3 173 yJ9_floorMod_7cf53, Cond.static yJ9_floorMod_7cf53, Cond.initialized RJ9, Cond.code yJ9_floorMod_7cf53 cJ9_floorMod_7cf53 3 (some .int), Cond.methodLink RX2 78 yX2_rest, Cond.instanceMethod yX2_rest]
def wsL_isRound_r6 : List Cond := [Cond.selects RX2 yX2_rest yX2_rest, Cond.code yX2_rest cX2_rest 2 none, Cond.methodLink RX2 82 yX2_wouldDance, Cond.instanceMethod yX2_wouldDance, Cond.selects RX2 yX2_wouldDance yX2_wouldDance, Cond.code yX2_wouldDance cX2_wouldDance 3 (some .boolean), Cond.methodLink RX2 86 yX2_dance, Cond.instanceMethod yX2_dance, Cond.selects RX2 yX2_dance yX2_dance, Cond.code yX2_dance cX2_dance 5 none, Cond.methodLink RX2 101 yX2_joyOfEach, Cond.instanceMethod yX2_joyOfEach, Cond.selects RX2 yX2_joyOfEach yX2_joyOfEach, Cond.code yX2_joyOfEach cX2_joyOfEach 3 (some .int), Cond.methodLink RX2 104 yX2_takePart, Cond.instanceMethod yX2_takePart, Cond.selects RX2 yX2_takePart yX2_takePart, Cond.code yX2_takePart cX2_takePart 3 none, Cond.methodLink RX2 90 yX2_leaveAlone, Cond.instanceMethod yX2_leaveAlone, Cond.selects RX2 yX2_leaveAlone yX2_leaveAlone, Cond.code yX2_leaveAlone cX2_leaveAlone 2 none, Cond.methodLink RL 81 yX3_partner, Cond.instanceMethod yX3_partner]
def wsL_isRound_r7 : List Cond := [Cond.selects RX3 yX3_partner yX3_partner, Cond.code yX3_partner cX3_partner 4 (some .int), Cond.constant RX3 86 (-1000006), Cond.methodLink RX3 130 yX3_counterpart, Cond.methodLink RL 28 yX3_pair, Cond.instanceMethod yX3_pair, Cond.selects RX3 yX3_pair yX3_pair, Cond.code yX3_pair cX3_pair 6 (some .int), Cond.fieldLink RX3 55 "NineDancers$Ring" "likings" "[I", Cond.fieldLink RX3 124 "NineDancers$Ring" "timesTold" "[I", Cond.fieldLink RX3 127 "NineDancers$Ring" "lastDances" "[I", Cond.methodLink RX3 51 yX3_pairIndex]
def wsL_isRound : List Cond := .code yL_isRound cL_isRound 16 (some .boolean) :: ((wsL_isRound_r1 ++ (wsL_isRound_r2 ++ (wsL_isRound_r3 ++ (wsL_isRound_r4 ++ (wsL_isRound_r5 ++ (wsL_isRound_r6 ++ wsL_isRound_r7)))))) ++ wsX30 ++ wsX20 ++ wsX10 ++ wsX00)
def wsL_isStep_r1 : List Cond := [Cond.constant RL 45 (-1000005), Cond.methodLink RL 15 yL_up, Cond.static yL_up, Cond.initialized RL, Cond.code yL_up cL_up 2 (some .int), Cond.constant RL 8 (2147483647), Cond.methodLink RL 21 yX3_count, Cond.instanceMethod yX3_count, Cond.selects RX3 yX3_count yX3_count, Cond.initialized RX3, Cond.code yX3_count cX3_count 2 (some .int), Cond.fieldLink RX3 12 "NineDancers" "ring" "LNineDancers$Ring;", Cond.fieldLink RX3 42 "NineDancers$Ring" "settings" "[I", Cond.fieldLink RX3 75 "NineDancers$Ring" "rounds" "I", Cond.fieldLink RX3 62 "NineDancers$Ring" "there" "I", Cond.fieldLink RX3 121 "NineDancers$Ring" "dances" "[I", Cond.fieldLink RX3 100 "NineDancers$Ring" "joys" "[I", Cond.fieldLink RX3 109 "NineDancers$Ring" "roundsAlone" "[I", Cond.fieldLink RX3 97 "NineDancers$Ring" "strengths" "[I", Cond.fieldLink RX3 140 "NineDancers$Ring" "lastNumber" "I", Cond.fieldLink RX3 22 "NineDancers" "pad" "LNineDancers$Pad;", Cond.fieldLink RX3 143 "NineDancers$Pad" "length" "I", Cond.fieldLink RX3 29 "NineDancers" "history" "LNineDancers$History;", Cond.fieldLink RX3 146 "NineDancers$History" "length" "I"]
def wsL_isStep_r2 : List Cond := [Cond.constant RX3 37 (-1000002), Cond.methodLink RX3 133 yX3_sumOf, Cond.static yX3_sumOf, Cond.code yX3_sumOf cX3_sumOf 6 (some .int), Cond.methodLink RX3 137 yX2_unmetPairs, Cond.instanceMethod yX2_unmetPairs, Cond.selects RX2 yX2_unmetPairs yX2_unmetPairs, Cond.initialized RX2, Cond.code yX2_unmetPairs cX2_unmetPairs 4 (some .int), Cond.methodLink RX2 110 yX2_isUnmet, Cond.instanceMethod yX2_isUnmet, Cond.selects RX2 yX2_isUnmet yX2_isUnmet, Cond.code yX2_isUnmet cX2_isUnmet 3 (some .boolean), Cond.fieldLink RX2 37 "NineDancers$Ring" "dances" "[I", Cond.methodLink RX2 97 yX2_isThere, Cond.instanceMethod yX2_isThere, Cond.selects RX2 yX2_isThere yX2_isThere, Cond.code yX2_isThere cX2_isThere 2 (some .boolean), Cond.fieldLink RX2 15 "NineDancers$Ring" "there" "I", Cond.static yX3_pairIndex, Cond.code yX3_pairIndex cX3_pairIndex 2 (some .int), Cond.methodLink RL 25 yX3_set, Cond.instanceMethod yX3_set, Cond.selects RX3 yX3_set yX3_set]
def wsL_isStep_r3 : List Cond := [Cond.code yX3_set cX3_set 5 (some .int), Cond.methodLink RX3 38 yX0_remember, Cond.instanceMethod yX0_remember, Cond.selects RX0 yX0_remember yX0_remember, Cond.initialized RX0, Cond.code yX0_remember cX0_remember 2 none, Cond.fieldLink RX0 17 "NineDancers$History" "length" "I", Cond.fieldLink RX0 11 "NineDancers$History" "states" "[LNineDancers$Ring;", Cond.methodLink RX0 22 yX0_dropOldest, Cond.instanceMethod yX0_dropOldest, Cond.selects RX0 yX0_dropOldest yX0_dropOldest, Cond.code yX0_dropOldest cX0_dropOldest 3 none, Cond.methodLink RX0 25 yX2_copyFrom, Cond.instanceMethod yX2_copyFrom, Cond.selects RX2 yX2_copyFrom yX2_copyFrom, Cond.code yX2_copyFrom cX2_copyFrom 2 none, Cond.fieldLink RX2 9 "NineDancers$Ring" "settings" "[I", Cond.fieldLink RX2 19 "NineDancers$Ring" "strengths" "[I", Cond.fieldLink RX2 22 "NineDancers$Ring" "joys" "[I", Cond.fieldLink RX2 25 "NineDancers$Ring" "roundsDanced" "[I", Cond.fieldLink RX2 28 "NineDancers$Ring" "roundsRested" "[I", Cond.fieldLink RX2 31 "NineDancers$Ring" "roundsAlone" "[I", Cond.fieldLink RX2 34 "NineDancers$Ring" "likings" "[I", Cond.fieldLink RX2 40 "NineDancers$Ring" "lastDances" "[I"]
def wsL_isStep_r4 : List Cond := [Cond.fieldLink RX2 43 "NineDancers$Ring" "timesTold" "[I", Cond.fieldLink RX2 46 "NineDancers$Ring" "rounds" "I", Cond.fieldLink RX2 50 "NineDancers$Ring" "lastNumber" "I", Cond.methodLink RX2 59 yX2_copyRow, Cond.static yX2_copyRow, Cond.code yX2_copyRow cX2_copyRow 2 none, Cond.methodLink RX2 63 Lib.Math.min.name, Cond.static Lib.Math.min.name, Cond.initialized "java/lang/Math", Cond.code Lib.Math.min.name Lib.Math.min.code 2 (some .int), Cond.methodLink RX2 69 arraycopyName, Cond.native arraycopyName, Cond.static arraycopyName, Cond.initialized "java/lang/System", Cond.methodLink RL 28 yX3_pair, Cond.instanceMethod yX3_pair, Cond.selects RX3 yX3_pair yX3_pair, Cond.code yX3_pair cX3_pair 6 (some .int), Cond.constant RX3 50 (-1000001), Cond.fieldLink RX3 55 "NineDancers$Ring" "likings" "[I", Cond.fieldLink RX3 124 "NineDancers$Ring" "timesTold" "[I", Cond.fieldLink RX3 127 "NineDancers$Ring" "lastDances" "[I", Cond.methodLink RX3 46 yX3_isVillager, Cond.static yX3_isVillager]
def wsL_isStep_r5 : List Cond := [Cond.code yX3_isVillager cX3_isVillager 1 (some .boolean), Cond.methodLink RX3 51 yX3_pairIndex, Cond.methodLink RX3 118 yX3_remainderOf, Cond.static yX3_remainderOf, Cond.code yX3_remainderOf cX3_remainderOf 1 (some .int), Cond.methodLink RX3 173 yJ9_floorMod_7cf53, Cond.static yJ9_floorMod_7cf53, Cond.initialized RJ9, Cond.code yJ9_floorMod_7cf53 cJ9_floorMod_7cf53 3 (some .int), Cond.methodLink RL 32 yX3_like, Cond.instanceMethod yX3_like, Cond.selects RX3 yX3_like yX3_like, Cond.code yX3_like cX3_like 6 (some .int), Cond.methodLink RL 35 yL_there, Cond.static yL_there, Cond.code yL_there cL_there 1 (some .int), Cond.methodLink RL 38 yX3_villager, Cond.instanceMethod yX3_villager, Cond.selects RX3 yX3_villager yX3_villager, Cond.code yX3_villager cX3_villager 3 (some .int), Cond.fieldLink RX3 103 "NineDancers$Ring" "roundsDanced" "[I", Cond.fieldLink RX3 106 "NineDancers$Ring" "roundsRested" "[I", Cond.methodLink RX3 58 yX2_isThere, Cond.methodLink RX3 112 yX2_dancedWith]
def wsL_isStep_r6 : List Cond := [Cond.instanceMethod yX2_dancedWith, Cond.selects RX2 yX2_dancedWith yX2_dancedWith, Cond.code yX2_dancedWith cX2_dancedWith 4 (some .int), Cond.methodLink RX3 115 yX2_mostFrequentPartner, Cond.instanceMethod yX2_mostFrequentPartner, Cond.selects RX2 yX2_mostFrequentPartner yX2_mostFrequentPartner, Cond.code yX2_mostFrequentPartner cX2_mostFrequentPartner 6 (some .int), Cond.constant RX2 49 (-1000006), Cond.methodLink RL 41 yX3_away, Cond.instanceMethod yX3_away, Cond.selects RX3 yX3_away yX3_away, Cond.code yX3_away cX3_away 3 (some .int), Cond.constant RX3 61 (-1000005), Cond.methodLink RX3 66 yJ6_bitCount_0f7a4, Cond.static yJ6_bitCount_0f7a4, Cond.initialized RJ6, Cond.code yJ6_bitCount_0f7a4 cJ6_bitCount_0f7a4 1 (some .int), Cond.constant RJ6 265 (1431655765), Cond.constant RJ6 266 (858993459), Cond.constant RJ6 267 (252645135), Cond.methodLink RL 46 yL_bits, Cond.static yL_bits, Cond.code yL_bits cL_bits 3 (some .int), Cond.methodLink RL 49 yX3_feed]
def wsL_isStep_r7 : List Cond := [Cond.instanceMethod yX3_feed, Cond.selects RX3 yX3_feed yX3_feed, Cond.code yX3_feed cX3_feed 4 (some .int), Cond.methodLink RL 52 yX3_undo, Cond.instanceMethod yX3_undo, Cond.selects RX3 yX3_undo yX3_undo, Cond.code yX3_undo cX3_undo 1 (some .int), Cond.methodLink RX3 167 yX0_takeBackInto, Cond.instanceMethod yX0_takeBackInto, Cond.selects RX0 yX0_takeBackInto yX0_takeBackInto, Cond.code yX0_takeBackInto cX0_takeBackInto 2 none, Cond.methodLink RL 56 yX3_save, Cond.instanceMethod yX3_save, Cond.selects RX3 yX3_save yX3_save, Cond.code yX3_save cX3_save 3 (some .int), Cond.fieldLink RX3 33 "NineDancers" "slots" "[LNineDancers$Ring;", Cond.classLink RX3 9 RX2, Cond.instantiable RX2 13, Cond.methodLink RX3 170 yX3_isSlot, Cond.static yX3_isSlot, Cond.code yX3_isSlot cX3_isSlot 1 (some .boolean), Cond.methodLink RX3 11 yX2_init, Cond.instanceMethod yX2_init, Cond.code yX2_init cX2_init 1 none]
def wsL_isStep_r8 : List Cond := [Cond.methodLink RX2 3 objectInit, Cond.instanceMethod objectInit, Cond.code objectInit ⟨#[0xb1]⟩ 1 none, Cond.arrayClass .int, Cond.methodLink RX2 53 yJ7_fill_53178, Cond.static yJ7_fill_53178, Cond.initialized RJ7, Cond.code yJ7_fill_53178 cJ7_fill_53178 4 none, Cond.methodLink RX3 156 yX2_copyFrom, Cond.methodLink RL 59 yX3_restore, Cond.instanceMethod yX3_restore, Cond.selects RX3 yX3_restore yX3_restore, Cond.code yX3_restore cX3_restore 3 (some .int), Cond.methodLink RL 62 yL_isRound, Cond.static yL_isRound, Cond.code yL_isRound cL_isRound 16 (some .boolean), Cond.methodLink RL 78 yX3_call, Cond.instanceMethod yX3_call, Cond.selects RX3 yX3_call yX3_call, Cond.code yX3_call cX3_call 2 (some .int), Cond.constant RX3 78 (-1000004), Cond.methodLink RX3 72 yX3_isNumber, Cond.static yX3_isNumber, Cond.code yX3_isNumber cX3_isNumber 1 (some .boolean)]
def wsL_isStep_r9 : List Cond := [Cond.methodLink RX3 79 yX2_danceRound, Cond.instanceMethod yX2_danceRound, Cond.selects RX2 yX2_danceRound yX2_danceRound, Cond.code yX2_danceRound cX2_danceRound 5 (some .int), Cond.static yX3_counterpart, Cond.code yX3_counterpart cX3_counterpart 2 (some .int), Cond.methodLink RX2 78 yX2_rest, Cond.instanceMethod yX2_rest, Cond.selects RX2 yX2_rest yX2_rest, Cond.code yX2_rest cX2_rest 2 none, Cond.methodLink RX2 82 yX2_wouldDance, Cond.instanceMethod yX2_wouldDance, Cond.selects RX2 yX2_wouldDance yX2_wouldDance, Cond.code yX2_wouldDance cX2_wouldDance 3 (some .boolean), Cond.methodLink RX2 86 yX2_dance, Cond.instanceMethod yX2_dance, Cond.selects RX2 yX2_dance yX2_dance, Cond.code yX2_dance cX2_dance 5 none, Cond.methodLink RX2 101 yX2_joyOfEach, Cond.instanceMethod yX2_joyOfEach, Cond.selects RX2 yX2_joyOfEach yX2_joyOfEach, Cond.code yX2_joyOfEach cX2_joyOfEach 3 (some .int), Cond.methodLink RX2 104 yX2_takePart, Cond.instanceMethod yX2_takePart]
def wsL_isStep_r10 : List Cond := [Cond.selects RX2 yX2_takePart yX2_takePart, Cond.code yX2_takePart cX2_takePart 3 none, Cond.methodLink RX2 90 yX2_leaveAlone, Cond.instanceMethod yX2_leaveAlone, Cond.selects RX2 yX2_leaveAlone yX2_leaveAlone, Cond.code yX2_leaveAlone cX2_leaveAlone 2 none, Cond.methodLink RL 81 yX3_partner, Cond.instanceMethod yX3_partner, Cond.selects RX3 yX3_partner yX3_partner, Cond.code yX3_partner cX3_partner 4 (some .int), Cond.constant RX3 86 (-1000006), Cond.methodLink RX3 130 yX3_counterpart, Cond.methodLink RL 66 yX3_wipe, Cond.instanceMethod yX3_wipe, Cond.selects RX3 yX3_wipe yX3_wipe, Cond.code yX3_wipe cX3_wipe 1 (some .int), Cond.methodLink RX3 94 yX1_empty, Cond.instanceMethod yX1_empty, Cond.selects RX1 yX1_empty yX1_empty, Cond.initialized RX1, Cond.code yX1_empty cX1_empty 2 (some .int), Cond.fieldLink RX1 15 "NineDancers$Pad" "length" "I", Cond.methodLink RL 69 yL_twice, Cond.static yL_twice]
def wsL_isStep_r11 : List Cond := [Cond.code yL_twice cL_twice 1 (some .int), Cond.methodLink RL 72 yL_number, Cond.static yL_number, Cond.code yL_number cL_number 2 (some .boolean), Cond.methodLink RL 9 yX3_put, Cond.instanceMethod yX3_put, Cond.selects RX3 yX3_put yX3_put, Cond.code yX3_put cX3_put 4 (some .int), Cond.methodLink RX3 159 yX3_charactersIn, Cond.static yX3_charactersIn, Cond.code yX3_charactersIn cX3_charactersIn 7 (some .int), Cond.constantLong RX3 178 (255), Cond.constantLong RX3 180 (33), Cond.constantLong RX3 182 (126), Cond.methodLink RX3 163 yX1_append, Cond.instanceMethod yX1_append, Cond.selects RX1 yX1_append yX1_append, Cond.code yX1_append cX1_append 5 none, Cond.fieldLink RX1 9 "NineDancers$Pad" "text" "[C", Cond.constantLong RX1 19 (255), Cond.methodLink RL 75 yX3_read, Cond.instanceMethod yX3_read, Cond.selects RX3 yX3_read yX3_read, Cond.code yX3_read cX3_read 2 (some .int)]
def wsL_isStep_r12 : List Cond := [Cond.constant RX3 87 (-1000003), Cond.methodLink RX3 82 yX1_firstFault, Cond.instanceMethod yX1_firstFault, Cond.selects RX1 yX1_firstFault yX1_firstFault, Cond.code yX1_firstFault cX1_firstFault 6 (some .int), Cond.constant RX1 29 (-1000006), Cond.methodLink RX1 21 yX1_isDigit, Cond.static yX1_isDigit, Cond.code yX1_isDigit cX1_isDigit 1 (some .boolean), Cond.methodLink RX1 25 yX1_canTakeDigit, Cond.static yX1_canTakeDigit, Cond.code yX1_canTakeDigit cX1_canTakeDigit 2 (some .boolean), Cond.methodLink RX3 88 yX1_roundsInAll, Cond.instanceMethod yX1_roundsInAll, Cond.selects RX1 yX1_roundsInAll yX1_roundsInAll, Cond.code yX1_roundsInAll cX1_roundsInAll 3 (some .int), Cond.methodLink RX1 30 yX1_startsCall, Cond.instanceMethod yX1_startsCall, Cond.selects RX1 yX1_startsCall yX1_startsCall, Cond.code yX1_startsCall cX1_startsCall 2 (some .boolean), Cond.methodLink RX1 34 yX1_timesAt, Cond.instanceMethod yX1_timesAt, Cond.selects RX1 yX1_timesAt yX1_timesAt, Cond.code yX1_timesAt cX1_timesAt 2 (some .int)]
def wsL_isStep_r13 : List Cond := [Cond.methodLink RX1 38 yX1_hasTimes, Cond.instanceMethod yX1_hasTimes, Cond.selects RX1 yX1_hasTimes yX1_hasTimes, Cond.code yX1_hasTimes cX1_hasTimes 2 (some .boolean), Cond.methodLink RX3 91 yX3_tellNumbersOfPad, Cond.instanceMethod yX3_tellNumbersOfPad, Cond.selects RX3 yX3_tellNumbersOfPad yX3_tellNumbersOfPad, Cond.code yX3_tellNumbersOfPad cX3_tellNumbersOfPad 3 (some .int), Cond.methodLink RX3 184 yX1_startsCall, Cond.methodLink RX3 187 yX1_numberAt, Cond.instanceMethod yX1_numberAt, Cond.selects RX1 yX1_numberAt yX1_numberAt, Cond.code yX1_numberAt cX1_numberAt 5 (some .int), Cond.methodLink RX3 190 yX1_timesAt, Cond.methodLink RX3 193 yX3_tell, Cond.instanceMethod yX3_tell, Cond.selects RX3 yX3_tell yX3_tell, Cond.code yX3_tell cX3_tell 5 (some .int)]
def wsL_isStep : List Cond := .code yL_isStep cL_isStep 9 (some .boolean) :: ((wsL_isStep_r1 ++ (wsL_isStep_r2 ++ (wsL_isStep_r3 ++ (wsL_isStep_r4 ++ (wsL_isStep_r5 ++ (wsL_isStep_r6 ++ (wsL_isStep_r7 ++ (wsL_isStep_r8 ++ (wsL_isStep_r9 ++ (wsL_isStep_r10 ++ (wsL_isStep_r11 ++ (wsL_isStep_r12 ++ wsL_isStep_r13)))))))))))) ++ wsX30 ++ wsX20 ++ wsX10 ++ wsX00)
def wsL_areAlike_r1 : List Cond := [Cond.methodLink RL 15 yL_up, Cond.static yL_up, Cond.initialized RL, Cond.code yL_up cL_up 2 (some .int), Cond.constant RL 8 (2147483647), Cond.methodLink RL 84 yX3_bestCall, Cond.instanceMethod yX3_bestCall, Cond.selects RX3 yX3_bestCall yX3_bestCall, Cond.initialized RX3, Cond.code yX3_bestCall cX3_bestCall 6 (some .int), Cond.constant RX3 37 (-1000002), Cond.fieldLink RX3 12 "NineDancers" "ring" "LNineDancers$Ring;", Cond.methodLink RX3 147 yX2_wouldBring, Cond.instanceMethod yX2_wouldBring, Cond.selects RX2 yX2_wouldBring yX2_wouldBring, Cond.initialized RX2, Cond.code yX2_wouldBring cX2_wouldBring 6 (some .int), Cond.static yX3_counterpart, Cond.code yX3_counterpart cX3_counterpart 2 (some .int), Cond.methodLink RX3 118 yX3_remainderOf, Cond.static yX3_remainderOf, Cond.code yX3_remainderOf cX3_remainderOf 1 (some .int), Cond.methodLink RX3 173 yJ9_floorMod_7cf53, Cond.static yJ9_floorMod_7cf53]
def wsL_areAlike_r2 : List Cond := [Cond.initialized RJ9, Cond.code yJ9_floorMod_7cf53 cJ9_floorMod_7cf53 3 (some .int), Cond.methodLink RX2 121 yX2_pairWouldBring, Cond.instanceMethod yX2_pairWouldBring, Cond.selects RX2 yX2_pairWouldBring yX2_pairWouldBring, Cond.code yX2_pairWouldBring cX2_pairWouldBring 5 (some .int), Cond.fieldLink RX2 15 "NineDancers$Ring" "there" "I", Cond.fieldLink RX2 37 "NineDancers$Ring" "dances" "[I", Cond.methodLink RX2 82 yX2_wouldDance, Cond.instanceMethod yX2_wouldDance, Cond.selects RX2 yX2_wouldDance yX2_wouldDance, Cond.code yX2_wouldDance cX2_wouldDance 3 (some .boolean), Cond.fieldLink RX2 19 "NineDancers$Ring" "strengths" "[I", Cond.fieldLink RX2 9 "NineDancers$Ring" "settings" "[I", Cond.methodLink RX2 97 yX2_isThere, Cond.instanceMethod yX2_isThere, Cond.selects RX2 yX2_isThere yX2_isThere, Cond.code yX2_isThere cX2_isThere 2 (some .boolean), Cond.methodLink RX2 116 yJ6_bitCount_0f7a4, Cond.static yJ6_bitCount_0f7a4, Cond.initialized RJ6, Cond.code yJ6_bitCount_0f7a4 cJ6_bitCount_0f7a4 1 (some .int), Cond.constant RJ6 265 (1431655765), Cond.constant RJ6 266 (858993459)]
def wsL_areAlike_r3 : List Cond := [Cond.constant RJ6 267 (252645135), Cond.methodLink RX2 101 yX2_joyOfEach, Cond.instanceMethod yX2_joyOfEach, Cond.selects RX2 yX2_joyOfEach yX2_joyOfEach, Cond.code yX2_joyOfEach cX2_joyOfEach 3 (some .int), Cond.fieldLink RX2 34 "NineDancers$Ring" "likings" "[I", Cond.static yX3_pairIndex, Cond.code yX3_pairIndex cX3_pairIndex 2 (some .int), Cond.methodLink RL 87 yX3_fewestRounds, Cond.instanceMethod yX3_fewestRounds, Cond.selects RX3 yX3_fewestRounds yX3_fewestRounds, Cond.code yX3_fewestRounds cX3_fewestRounds 2 (some .int), Cond.methodLink RX3 150 yX2_remaindersWithUnmetPair, Cond.instanceMethod yX2_remaindersWithUnmetPair, Cond.selects RX2 yX2_remaindersWithUnmetPair yX2_remaindersWithUnmetPair, Cond.code yX2_remaindersWithUnmetPair cX2_remaindersWithUnmetPair 3 (some .int), Cond.methodLink RX2 113 yX2_hasUnmetPair, Cond.instanceMethod yX2_hasUnmetPair, Cond.selects RX2 yX2_hasUnmetPair yX2_hasUnmetPair, Cond.code yX2_hasUnmetPair cX2_hasUnmetPair 4 (some .boolean), Cond.methodLink RX2 110 yX2_isUnmet, Cond.instanceMethod yX2_isUnmet, Cond.selects RX2 yX2_isUnmet yX2_isUnmet, Cond.code yX2_isUnmet cX2_isUnmet 3 (some .boolean)]
def wsL_areAlike_r4 : List Cond := [Cond.methodLink RX3 153 yX2_roundsByTrying, Cond.instanceMethod yX2_roundsByTrying, Cond.selects RX2 yX2_roundsByTrying yX2_roundsByTrying, Cond.code yX2_roundsByTrying cX2_roundsByTrying 4 (some .int), Cond.methodLink RL 21 yX3_count, Cond.instanceMethod yX3_count, Cond.selects RX3 yX3_count yX3_count, Cond.code yX3_count cX3_count 2 (some .int), Cond.fieldLink RX3 42 "NineDancers$Ring" "settings" "[I", Cond.fieldLink RX3 75 "NineDancers$Ring" "rounds" "I", Cond.fieldLink RX3 62 "NineDancers$Ring" "there" "I", Cond.fieldLink RX3 121 "NineDancers$Ring" "dances" "[I", Cond.fieldLink RX3 100 "NineDancers$Ring" "joys" "[I", Cond.fieldLink RX3 109 "NineDancers$Ring" "roundsAlone" "[I", Cond.fieldLink RX3 97 "NineDancers$Ring" "strengths" "[I", Cond.fieldLink RX3 140 "NineDancers$Ring" "lastNumber" "I", Cond.fieldLink RX3 22 "NineDancers" "pad" "LNineDancers$Pad;", Cond.fieldLink RX3 143 "NineDancers$Pad" "length" "I", Cond.fieldLink RX3 29 "NineDancers" "history" "LNineDancers$History;", Cond.fieldLink RX3 146 "NineDancers$History" "length" "I", Cond.methodLink RX3 133 yX3_sumOf, Cond.static yX3_sumOf, Cond.code yX3_sumOf cX3_sumOf 6 (some .int), Cond.methodLink RX3 137 yX2_unmetPairs]
def wsL_areAlike_r5 : List Cond := [Cond.instanceMethod yX2_unmetPairs, Cond.selects RX2 yX2_unmetPairs yX2_unmetPairs, Cond.code yX2_unmetPairs cX2_unmetPairs 4 (some .int), Cond.methodLink RL 46 yL_bits, Cond.static yL_bits, Cond.code yL_bits cL_bits 3 (some .int), Cond.methodLink RL 90 yX3_ifCalled, Cond.instanceMethod yX3_ifCalled, Cond.selects RX3 yX3_ifCalled yX3_ifCalled, Cond.code yX3_ifCalled cX3_ifCalled 3 (some .int), Cond.methodLink RX3 72 yX3_isNumber, Cond.static yX3_isNumber, Cond.code yX3_isNumber cX3_isNumber 1 (some .boolean), Cond.methodLink RL 69 yL_twice, Cond.static yL_twice, Cond.code yL_twice cL_twice 1 (some .int), Cond.methodLink RL 81 yX3_partner, Cond.instanceMethod yX3_partner, Cond.selects RX3 yX3_partner yX3_partner, Cond.code yX3_partner cX3_partner 4 (some .int), Cond.constant RX3 50 (-1000001), Cond.constant RX3 86 (-1000006), Cond.methodLink RX3 46 yX3_isVillager, Cond.static yX3_isVillager]
def wsL_areAlike_r6 : List Cond := [Cond.code yX3_isVillager cX3_isVillager 1 (some .boolean), Cond.methodLink RX3 130 yX3_counterpart, Cond.methodLink RL 35 yL_there, Cond.static yL_there, Cond.code yL_there cL_there 1 (some .int), Cond.methodLink RL 38 yX3_villager, Cond.instanceMethod yX3_villager, Cond.selects RX3 yX3_villager yX3_villager, Cond.code yX3_villager cX3_villager 3 (some .int), Cond.fieldLink RX3 103 "NineDancers$Ring" "roundsDanced" "[I", Cond.fieldLink RX3 106 "NineDancers$Ring" "roundsRested" "[I", Cond.methodLink RX3 58 yX2_isThere, Cond.methodLink RX3 112 yX2_dancedWith, Cond.instanceMethod yX2_dancedWith, Cond.selects RX2 yX2_dancedWith yX2_dancedWith, Cond.code yX2_dancedWith cX2_dancedWith 4 (some .int), Cond.methodLink RX3 115 yX2_mostFrequentPartner, Cond.instanceMethod yX2_mostFrequentPartner, Cond.selects RX2 yX2_mostFrequentPartner yX2_mostFrequentPartner, Cond.code yX2_mostFrequentPartner cX2_mostFrequentPartner 6 (some .int), Cond.constant RX2 49 (-1000006), Cond.methodLink RL 28 yX3_pair, Cond.instanceMethod yX3_pair, Cond.selects RX3 yX3_pair yX3_pair]
def wsL_areAlike_r7 : List Cond := [Cond.code yX3_pair cX3_pair 6 (some .int), Cond.fieldLink RX3 55 "NineDancers$Ring" "likings" "[I", Cond.fieldLink RX3 124 "NineDancers$Ring" "timesTold" "[I", Cond.fieldLink RX3 127 "NineDancers$Ring" "lastDances" "[I", Cond.methodLink RX3 51 yX3_pairIndex]
def wsL_areAlike : List Cond := .code yL_areAlike cL_areAlike 8 (some .boolean) :: ((wsL_areAlike_r1 ++ (wsL_areAlike_r2 ++ (wsL_areAlike_r3 ++ (wsL_areAlike_r4 ++ (wsL_areAlike_r5 ++ (wsL_areAlike_r6 ++ wsL_areAlike_r7)))))) ++ wsX30 ++ wsX20 ++ wsX10 ++ wsX00)
def wsL_isWell_r1 : List Cond := [Cond.constant RL 93 (-1000006), Cond.methodLink RL 87 yX3_fewestRounds, Cond.instanceMethod yX3_fewestRounds, Cond.selects RX3 yX3_fewestRounds yX3_fewestRounds, Cond.initialized RX3, Cond.code yX3_fewestRounds cX3_fewestRounds 2 (some .int), Cond.fieldLink RX3 12 "NineDancers" "ring" "LNineDancers$Ring;", Cond.constant RX3 37 (-1000002), Cond.methodLink RX3 150 yX2_remaindersWithUnmetPair, Cond.instanceMethod yX2_remaindersWithUnmetPair, Cond.selects RX2 yX2_remaindersWithUnmetPair yX2_remaindersWithUnmetPair, Cond.initialized RX2, Cond.code yX2_remaindersWithUnmetPair cX2_remaindersWithUnmetPair 3 (some .int), Cond.methodLink RX2 113 yX2_hasUnmetPair, Cond.instanceMethod yX2_hasUnmetPair, Cond.selects RX2 yX2_hasUnmetPair yX2_hasUnmetPair, Cond.code yX2_hasUnmetPair cX2_hasUnmetPair 4 (some .boolean), Cond.static yX3_counterpart, Cond.code yX3_counterpart cX3_counterpart 2 (some .int), Cond.methodLink RX3 118 yX3_remainderOf, Cond.static yX3_remainderOf, Cond.code yX3_remainderOf cX3_remainderOf 1 (some .int), Cond.methodLink RX3 173 yJ9_floorMod_7cf53, Cond.static yJ9_floorMod_7cf53]
def wsL_isWell_r2 : List Cond := [Cond.initialized RJ9, Cond.code yJ9_floorMod_7cf53 cJ9_floorMod_7cf53 3 (some .int), Cond.methodLink RX2 110 yX2_isUnmet, Cond.instanceMethod yX2_isUnmet, Cond.selects RX2 yX2_isUnmet yX2_isUnmet, Cond.code yX2_isUnmet cX2_isUnmet 3 (some .boolean), Cond.fieldLink RX2 37 "NineDancers$Ring" "dances" "[I", Cond.methodLink RX2 97 yX2_isThere, Cond.instanceMethod yX2_isThere, Cond.selects RX2 yX2_isThere yX2_isThere, Cond.code yX2_isThere cX2_isThere 2 (some .boolean), Cond.fieldLink RX2 15 "NineDancers$Ring" "there" "I", Cond.static yX3_pairIndex, Cond.code yX3_pairIndex cX3_pairIndex 2 (some .int), Cond.methodLink RX3 153 yX2_roundsByTrying, Cond.instanceMethod yX2_roundsByTrying, Cond.selects RX2 yX2_roundsByTrying yX2_roundsByTrying, Cond.code yX2_roundsByTrying cX2_roundsByTrying 4 (some .int), Cond.methodLink RX2 116 yJ6_bitCount_0f7a4, Cond.static yJ6_bitCount_0f7a4, Cond.initialized RJ6, Cond.code yJ6_bitCount_0f7a4 cJ6_bitCount_0f7a4 1 (some .int), Cond.constant RJ6 265 (1431655765), Cond.constant RJ6 266 (858993459)]
def wsL_isWell_r3 : List Cond := [Cond.constant RJ6 267 (252645135), Cond.methodLink RL 38 yX3_villager, Cond.instanceMethod yX3_villager, Cond.selects RX3 yX3_villager yX3_villager, Cond.code yX3_villager cX3_villager 3 (some .int), Cond.constant RX3 50 (-1000001), Cond.fieldLink RX3 97 "NineDancers$Ring" "strengths" "[I", Cond.fieldLink RX3 100 "NineDancers$Ring" "joys" "[I", Cond.fieldLink RX3 103 "NineDancers$Ring" "roundsDanced" "[I", Cond.fieldLink RX3 106 "NineDancers$Ring" "roundsRested" "[I", Cond.fieldLink RX3 109 "NineDancers$Ring" "roundsAlone" "[I", Cond.methodLink RX3 46 yX3_isVillager, Cond.static yX3_isVillager, Cond.code yX3_isVillager cX3_isVillager 1 (some .boolean), Cond.methodLink RX3 58 yX2_isThere, Cond.methodLink RX3 112 yX2_dancedWith, Cond.instanceMethod yX2_dancedWith, Cond.selects RX2 yX2_dancedWith yX2_dancedWith, Cond.code yX2_dancedWith cX2_dancedWith 4 (some .int), Cond.methodLink RX3 115 yX2_mostFrequentPartner, Cond.instanceMethod yX2_mostFrequentPartner, Cond.selects RX2 yX2_mostFrequentPartner yX2_mostFrequentPartner, Cond.code yX2_mostFrequentPartner cX2_mostFrequentPartner 6 (some .int), Cond.constant RX2 49 (-1000006)]
def wsL_isWell_r4 : List Cond := [Cond.methodLink RL 28 yX3_pair, Cond.instanceMethod yX3_pair, Cond.selects RX3 yX3_pair yX3_pair, Cond.code yX3_pair cX3_pair 6 (some .int), Cond.fieldLink RX3 55 "NineDancers$Ring" "likings" "[I", Cond.fieldLink RX3 121 "NineDancers$Ring" "dances" "[I", Cond.fieldLink RX3 124 "NineDancers$Ring" "timesTold" "[I", Cond.fieldLink RX3 127 "NineDancers$Ring" "lastDances" "[I", Cond.methodLink RX3 51 yX3_pairIndex, Cond.methodLink RL 21 yX3_count, Cond.instanceMethod yX3_count, Cond.selects RX3 yX3_count yX3_count, Cond.code yX3_count cX3_count 2 (some .int), Cond.fieldLink RX3 42 "NineDancers$Ring" "settings" "[I", Cond.fieldLink RX3 75 "NineDancers$Ring" "rounds" "I", Cond.fieldLink RX3 62 "NineDancers$Ring" "there" "I", Cond.fieldLink RX3 140 "NineDancers$Ring" "lastNumber" "I", Cond.fieldLink RX3 22 "NineDancers" "pad" "LNineDancers$Pad;", Cond.fieldLink RX3 143 "NineDancers$Pad" "length" "I", Cond.fieldLink RX3 29 "NineDancers" "history" "LNineDancers$History;", Cond.fieldLink RX3 146 "NineDancers$History" "length" "I", Cond.methodLink RX3 133 yX3_sumOf, Cond.static yX3_sumOf, Cond.code yX3_sumOf cX3_sumOf 6 (some .int)]
def wsL_isWell_r5 : List Cond := [Cond.methodLink RX3 137 yX2_unmetPairs, Cond.instanceMethod yX2_unmetPairs, Cond.selects RX2 yX2_unmetPairs yX2_unmetPairs, Cond.code yX2_unmetPairs cX2_unmetPairs 4 (some .int), Cond.methodLink RL 94 yX3_untilAllMet, Cond.instanceMethod yX3_untilAllMet, Cond.selects RX3 yX3_untilAllMet yX3_untilAllMet, Cond.code yX3_untilAllMet cX3_untilAllMet 4 (some .int), Cond.fieldLink RX3 16 "NineDancers" "trial" "LNineDancers$Ring;", Cond.constant RX3 86 (-1000006), Cond.methodLink RX3 156 yX2_copyFrom, Cond.instanceMethod yX2_copyFrom, Cond.selects RX2 yX2_copyFrom yX2_copyFrom, Cond.code yX2_copyFrom cX2_copyFrom 2 none, Cond.fieldLink RX2 9 "NineDancers$Ring" "settings" "[I", Cond.fieldLink RX2 19 "NineDancers$Ring" "strengths" "[I", Cond.fieldLink RX2 22 "NineDancers$Ring" "joys" "[I", Cond.fieldLink RX2 25 "NineDancers$Ring" "roundsDanced" "[I", Cond.fieldLink RX2 28 "NineDancers$Ring" "roundsRested" "[I", Cond.fieldLink RX2 31 "NineDancers$Ring" "roundsAlone" "[I", Cond.fieldLink RX2 34 "NineDancers$Ring" "likings" "[I", Cond.fieldLink RX2 40 "NineDancers$Ring" "lastDances" "[I", Cond.fieldLink RX2 43 "NineDancers$Ring" "timesTold" "[I", Cond.fieldLink RX2 46 "NineDancers$Ring" "rounds" "I"]
def wsL_isWell_r6 : List Cond := [Cond.fieldLink RX2 50 "NineDancers$Ring" "lastNumber" "I", Cond.methodLink RX2 59 yX2_copyRow, Cond.static yX2_copyRow, Cond.code yX2_copyRow cX2_copyRow 2 none, Cond.methodLink RX2 63 Lib.Math.min.name, Cond.static Lib.Math.min.name, Cond.initialized "java/lang/Math", Cond.code Lib.Math.min.name Lib.Math.min.code 2 (some .int), Cond.methodLink RX2 69 arraycopyName, Cond.native arraycopyName, Cond.static arraycopyName, Cond.initialized "java/lang/System", Cond.methodLink RX3 147 yX2_wouldBring, Cond.instanceMethod yX2_wouldBring, Cond.selects RX2 yX2_wouldBring yX2_wouldBring, Cond.code yX2_wouldBring cX2_wouldBring 6 (some .int), Cond.methodLink RX2 121 yX2_pairWouldBring, Cond.instanceMethod yX2_pairWouldBring, Cond.selects RX2 yX2_pairWouldBring yX2_pairWouldBring, Cond.code yX2_pairWouldBring cX2_pairWouldBring 5 (some .int), Cond.methodLink RX2 82 yX2_wouldDance, Cond.instanceMethod yX2_wouldDance, Cond.selects RX2 yX2_wouldDance yX2_wouldDance, Cond.code yX2_wouldDance cX2_wouldDance 3 (some .boolean)]
def wsL_isWell_r7 : List Cond := [Cond.methodLink RX2 101 yX2_joyOfEach, Cond.instanceMethod yX2_joyOfEach, Cond.selects RX2 yX2_joyOfEach yX2_joyOfEach, Cond.code yX2_joyOfEach cX2_joyOfEach 3 (some .int), Cond.methodLink RX3 79 yX2_danceRound, Cond.instanceMethod yX2_danceRound, Cond.selects RX2 yX2_danceRound yX2_danceRound, Cond.code yX2_danceRound cX2_danceRound 5 (some .int), Cond.methodLink RX2 78 yX2_rest, Cond.instanceMethod yX2_rest, Cond.selects RX2 yX2_rest yX2_rest, Cond.code yX2_rest cX2_rest 2 none, Cond.methodLink RX2 86 yX2_dance, Cond.instanceMethod yX2_dance, Cond.selects RX2 yX2_dance yX2_dance, Cond.code yX2_dance cX2_dance 5 none, Cond.methodLink RX2 104 yX2_takePart, Cond.instanceMethod yX2_takePart, Cond.selects RX2 yX2_takePart yX2_takePart, Cond.code yX2_takePart cX2_takePart 3 none, Cond.methodLink RX2 90 yX2_leaveAlone, Cond.instanceMethod yX2_leaveAlone, Cond.selects RX2 yX2_leaveAlone yX2_leaveAlone, Cond.code yX2_leaveAlone cX2_leaveAlone 2 none]
def wsL_isWell : List Cond := .code yL_isWell cL_isWell 12 (some .boolean) :: ((wsL_isWell_r1 ++ (wsL_isWell_r2 ++ (wsL_isWell_r3 ++ (wsL_isWell_r4 ++ (wsL_isWell_r5 ++ (wsL_isWell_r6 ++ wsL_isWell_r7)))))) ++ wsX30 ++ wsX20 ++ wsX10 ++ wsX00)
def wsL_law_r1 : List Cond := [Cond.classLink RL 10 RX3, Cond.instantiable RX3 5, Cond.initialized RX3, Cond.methodLink RL 97 yX3_init, Cond.instanceMethod yX3_init, Cond.code yX3_init cX3_init 1 none, Cond.methodLink RX3 3 objectInit, Cond.instanceMethod objectInit, Cond.code objectInit ⟨#[0xb1]⟩ 1 none, Cond.classLink RX3 9 RX2, Cond.instantiable RX2 13, Cond.initialized RX2, Cond.fieldLink RX3 12 "NineDancers" "ring" "LNineDancers$Ring;", Cond.fieldLink RX3 16 "NineDancers" "trial" "LNineDancers$Ring;", Cond.classLink RX3 19 RX1, Cond.instantiable RX1 2, Cond.initialized RX1, Cond.fieldLink RX3 22 "NineDancers" "pad" "LNineDancers$Pad;", Cond.classLink RX3 26 RX0, Cond.instantiable RX0 2, Cond.initialized RX0, Cond.fieldLink RX3 29 "NineDancers" "history" "LNineDancers$History;", Cond.fieldLink RX3 33 "NineDancers" "slots" "[LNineDancers$Ring;", Cond.methodLink RX3 11 yX2_init]
def wsL_law_r2 : List Cond := [Cond.instanceMethod yX2_init, Cond.code yX2_init cX2_init 1 none, Cond.methodLink RX2 3 objectInit, Cond.arrayClass .int, Cond.fieldLink RX2 9 "NineDancers$Ring" "settings" "[I", Cond.fieldLink RX2 15 "NineDancers$Ring" "there" "I", Cond.fieldLink RX2 19 "NineDancers$Ring" "strengths" "[I", Cond.fieldLink RX2 22 "NineDancers$Ring" "joys" "[I", Cond.fieldLink RX2 25 "NineDancers$Ring" "roundsDanced" "[I", Cond.fieldLink RX2 28 "NineDancers$Ring" "roundsRested" "[I", Cond.fieldLink RX2 31 "NineDancers$Ring" "roundsAlone" "[I", Cond.fieldLink RX2 34 "NineDancers$Ring" "likings" "[I", Cond.fieldLink RX2 37 "NineDancers$Ring" "dances" "[I", Cond.fieldLink RX2 40 "NineDancers$Ring" "lastDances" "[I", Cond.fieldLink RX2 43 "NineDancers$Ring" "timesTold" "[I", Cond.fieldLink RX2 46 "NineDancers$Ring" "rounds" "I", Cond.constant RX2 49 (-1000006), Cond.fieldLink RX2 50 "NineDancers$Ring" "lastNumber" "I", Cond.methodLink RX2 53 yJ7_fill_53178, Cond.static yJ7_fill_53178, Cond.initialized RJ7, Cond.code yJ7_fill_53178 cJ7_fill_53178 4 none, Cond.instanceMethod yX1_init, Cond.code yX1_init cX1_init 1 none]
def wsL_law_r3 : List Cond := [Cond.methodLink RX1 3 objectInit, Cond.arrayClass .char, Cond.fieldLink RX1 9 "NineDancers$Pad" "text" "[C", Cond.fieldLink RX1 15 "NineDancers$Pad" "length" "I", Cond.methodLink RX3 28 yX0_init, Cond.instanceMethod yX0_init, Cond.code yX0_init cX0_init 2 none, Cond.methodLink RX0 3 objectInit, Cond.classLink RX0 9 RX2, Cond.fieldLink RX0 11 "NineDancers$History" "states" "[LNineDancers$Ring;", Cond.fieldLink RX0 17 "NineDancers$History" "length" "I", Cond.methodLink RX0 21 yX2_init, Cond.methodLink RL 98 yL_cell, Cond.static yL_cell, Cond.initialized RL, Cond.code yL_cell cL_cell 2 (some .int), Cond.constant RL 7 (2143543765), Cond.methodLink RL 102 yL_isStep, Cond.static yL_isStep, Cond.code yL_isStep cL_isStep 9 (some .boolean), Cond.constant RL 45 (-1000005), Cond.methodLink RL 15 yL_up, Cond.static yL_up, Cond.code yL_up cL_up 2 (some .int)]
def wsL_law_r4 : List Cond := [Cond.constant RL 8 (2147483647), Cond.methodLink RL 21 yX3_count, Cond.instanceMethod yX3_count, Cond.selects RX3 yX3_count yX3_count, Cond.code yX3_count cX3_count 2 (some .int), Cond.fieldLink RX3 42 "NineDancers$Ring" "settings" "[I", Cond.fieldLink RX3 75 "NineDancers$Ring" "rounds" "I", Cond.fieldLink RX3 62 "NineDancers$Ring" "there" "I", Cond.fieldLink RX3 121 "NineDancers$Ring" "dances" "[I", Cond.fieldLink RX3 100 "NineDancers$Ring" "joys" "[I", Cond.fieldLink RX3 109 "NineDancers$Ring" "roundsAlone" "[I", Cond.fieldLink RX3 97 "NineDancers$Ring" "strengths" "[I", Cond.fieldLink RX3 140 "NineDancers$Ring" "lastNumber" "I", Cond.fieldLink RX3 143 "NineDancers$Pad" "length" "I", Cond.fieldLink RX3 146 "NineDancers$History" "length" "I", Cond.constant RX3 37 (-1000002), Cond.methodLink RX3 133 yX3_sumOf, Cond.static yX3_sumOf, Cond.code yX3_sumOf cX3_sumOf 6 (some .int), Cond.methodLink RX3 137 yX2_unmetPairs, Cond.instanceMethod yX2_unmetPairs, Cond.selects RX2 yX2_unmetPairs yX2_unmetPairs, Cond.code yX2_unmetPairs cX2_unmetPairs 4 (some .int), Cond.methodLink RX2 110 yX2_isUnmet]
def wsL_law_r5 : List Cond := [Cond.instanceMethod yX2_isUnmet, Cond.selects RX2 yX2_isUnmet yX2_isUnmet, Cond.code yX2_isUnmet cX2_isUnmet 3 (some .boolean), Cond.methodLink RX2 97 yX2_isThere, Cond.instanceMethod yX2_isThere, Cond.selects RX2 yX2_isThere yX2_isThere, Cond.code yX2_isThere cX2_isThere 2 (some .boolean), Cond.static yX3_pairIndex, Cond.code yX3_pairIndex cX3_pairIndex 2 (some .int), Cond.methodLink RL 25 yX3_set, Cond.instanceMethod yX3_set, Cond.selects RX3 yX3_set yX3_set, Cond.code yX3_set cX3_set 5 (some .int), Cond.methodLink RX3 38 yX0_remember, Cond.instanceMethod yX0_remember, Cond.selects RX0 yX0_remember yX0_remember, Cond.code yX0_remember cX0_remember 2 none, Cond.methodLink RX0 22 yX0_dropOldest, Cond.instanceMethod yX0_dropOldest, Cond.selects RX0 yX0_dropOldest yX0_dropOldest, Cond.code yX0_dropOldest cX0_dropOldest 3 none, Cond.methodLink RX0 25 yX2_copyFrom, Cond.instanceMethod yX2_copyFrom, Cond.selects RX2 yX2_copyFrom yX2_copyFrom]
def wsL_law_r6 : List Cond := [Cond.code yX2_copyFrom cX2_copyFrom 2 none, Cond.methodLink RX2 59 yX2_copyRow, Cond.static yX2_copyRow, Cond.code yX2_copyRow cX2_copyRow 2 none, Cond.methodLink RX2 63 Lib.Math.min.name, Cond.static Lib.Math.min.name, Cond.initialized "java/lang/Math", Cond.code Lib.Math.min.name Lib.Math.min.code 2 (some .int), Cond.methodLink RX2 69 arraycopyName, Cond.native arraycopyName, Cond.static arraycopyName, Cond.initialized "java/lang/System", Cond.methodLink RL 28 yX3_pair, Cond.instanceMethod yX3_pair, Cond.selects RX3 yX3_pair yX3_pair, Cond.code yX3_pair cX3_pair 6 (some .int), Cond.constant RX3 50 (-1000001), Cond.fieldLink RX3 55 "NineDancers$Ring" "likings" "[I", Cond.fieldLink RX3 124 "NineDancers$Ring" "timesTold" "[I", Cond.fieldLink RX3 127 "NineDancers$Ring" "lastDances" "[I", Cond.methodLink RX3 46 yX3_isVillager, Cond.static yX3_isVillager, Cond.code yX3_isVillager cX3_isVillager 1 (some .boolean), Cond.methodLink RX3 51 yX3_pairIndex]
def wsL_law_r7 : List Cond := [Cond.methodLink RX3 118 yX3_remainderOf, Cond.static yX3_remainderOf, Cond.code yX3_remainderOf cX3_remainderOf 1 (some .int), Cond.methodLink RX3 173 yJ9_floorMod_7cf53, Cond.static yJ9_floorMod_7cf53, Cond.initialized RJ9, Cond.code yJ9_floorMod_7cf53 cJ9_floorMod_7cf53 3 (some .int), Cond.methodLink RL 32 yX3_like, Cond.instanceMethod yX3_like, Cond.selects RX3 yX3_like yX3_like, Cond.code yX3_like cX3_like 6 (some .int), Cond.methodLink RL 35 yL_there, Cond.static yL_there, Cond.code yL_there cL_there 1 (some .int), Cond.methodLink RL 38 yX3_villager, Cond.instanceMethod yX3_villager, Cond.selects RX3 yX3_villager yX3_villager, Cond.code yX3_villager cX3_villager 3 (some .int), Cond.fieldLink RX3 103 "NineDancers$Ring" "roundsDanced" "[I", Cond.fieldLink RX3 106 "NineDancers$Ring" "roundsRested" "[I", Cond.methodLink RX3 58 yX2_isThere, Cond.methodLink RX3 112 yX2_dancedWith, Cond.instanceMethod yX2_dancedWith, Cond.selects RX2 yX2_dancedWith yX2_dancedWith]
def wsL_law_r8 : List Cond := [Cond.code yX2_dancedWith cX2_dancedWith 4 (some .int), Cond.methodLink RX3 115 yX2_mostFrequentPartner, Cond.instanceMethod yX2_mostFrequentPartner, Cond.selects RX2 yX2_mostFrequentPartner yX2_mostFrequentPartner, Cond.code yX2_mostFrequentPartner cX2_mostFrequentPartner 6 (some .int), Cond.methodLink RL 41 yX3_away, Cond.instanceMethod yX3_away, Cond.selects RX3 yX3_away yX3_away, Cond.code yX3_away cX3_away 3 (some .int), Cond.constant RX3 61 (-1000005), Cond.methodLink RX3 66 yJ6_bitCount_0f7a4, Cond.static yJ6_bitCount_0f7a4, Cond.initialized RJ6, Cond.code yJ6_bitCount_0f7a4 cJ6_bitCount_0f7a4 1 (some .int), Cond.constant RJ6 265 (1431655765), Cond.constant RJ6 266 (858993459), Cond.constant RJ6 267 (252645135), Cond.methodLink RL 46 yL_bits, Cond.static yL_bits, Cond.code yL_bits cL_bits 3 (some .int), Cond.methodLink RL 49 yX3_feed, Cond.instanceMethod yX3_feed, Cond.selects RX3 yX3_feed yX3_feed, Cond.code yX3_feed cX3_feed 4 (some .int)]
def wsL_law_r9 : List Cond := [Cond.methodLink RL 52 yX3_undo, Cond.instanceMethod yX3_undo, Cond.selects RX3 yX3_undo yX3_undo, Cond.code yX3_undo cX3_undo 1 (some .int), Cond.methodLink RX3 167 yX0_takeBackInto, Cond.instanceMethod yX0_takeBackInto, Cond.selects RX0 yX0_takeBackInto yX0_takeBackInto, Cond.code yX0_takeBackInto cX0_takeBackInto 2 none, Cond.methodLink RL 56 yX3_save, Cond.instanceMethod yX3_save, Cond.selects RX3 yX3_save yX3_save, Cond.code yX3_save cX3_save 3 (some .int), Cond.methodLink RX3 170 yX3_isSlot, Cond.static yX3_isSlot, Cond.code yX3_isSlot cX3_isSlot 1 (some .boolean), Cond.methodLink RX3 156 yX2_copyFrom, Cond.methodLink RL 59 yX3_restore, Cond.instanceMethod yX3_restore, Cond.selects RX3 yX3_restore yX3_restore, Cond.code yX3_restore cX3_restore 3 (some .int), Cond.methodLink RL 62 yL_isRound, Cond.static yL_isRound, Cond.code yL_isRound cL_isRound 16 (some .boolean), Cond.methodLink RL 78 yX3_call]
def wsL_law_r10 : List Cond := [Cond.instanceMethod yX3_call, Cond.selects RX3 yX3_call yX3_call, Cond.code yX3_call cX3_call 2 (some .int), Cond.constant RX3 78 (-1000004), Cond.methodLink RX3 72 yX3_isNumber, Cond.static yX3_isNumber, Cond.code yX3_isNumber cX3_isNumber 1 (some .boolean), Cond.methodLink RX3 79 yX2_danceRound, Cond.instanceMethod yX2_danceRound, Cond.selects RX2 yX2_danceRound yX2_danceRound, Cond.code yX2_danceRound cX2_danceRound 5 (some .int), Cond.static yX3_counterpart, Cond.code yX3_counterpart cX3_counterpart 2 (some .int), Cond.methodLink RX2 78 yX2_rest, Cond.instanceMethod yX2_rest, Cond.selects RX2 yX2_rest yX2_rest, Cond.code yX2_rest cX2_rest 2 none, Cond.methodLink RX2 82 yX2_wouldDance, Cond.instanceMethod yX2_wouldDance, Cond.selects RX2 yX2_wouldDance yX2_wouldDance, Cond.code yX2_wouldDance cX2_wouldDance 3 (some .boolean), Cond.methodLink RX2 86 yX2_dance, Cond.instanceMethod yX2_dance, Cond.selects RX2 yX2_dance yX2_dance]
def wsL_law_r11 : List Cond := [Cond.code yX2_dance cX2_dance 5 none, Cond.methodLink RX2 101 yX2_joyOfEach, Cond.instanceMethod yX2_joyOfEach, Cond.selects RX2 yX2_joyOfEach yX2_joyOfEach, Cond.code yX2_joyOfEach cX2_joyOfEach 3 (some .int), Cond.methodLink RX2 104 yX2_takePart, Cond.instanceMethod yX2_takePart, Cond.selects RX2 yX2_takePart yX2_takePart, Cond.code yX2_takePart cX2_takePart 3 none, Cond.methodLink RX2 90 yX2_leaveAlone, Cond.instanceMethod yX2_leaveAlone, Cond.selects RX2 yX2_leaveAlone yX2_leaveAlone, Cond.code yX2_leaveAlone cX2_leaveAlone 2 none, Cond.methodLink RL 81 yX3_partner, Cond.instanceMethod yX3_partner, Cond.selects RX3 yX3_partner yX3_partner, Cond.code yX3_partner cX3_partner 4 (some .int), Cond.constant RX3 86 (-1000006), Cond.methodLink RX3 130 yX3_counterpart, Cond.methodLink RL 66 yX3_wipe, Cond.instanceMethod yX3_wipe, Cond.selects RX3 yX3_wipe yX3_wipe, Cond.code yX3_wipe cX3_wipe 1 (some .int), Cond.methodLink RX3 94 yX1_empty]
def wsL_law_r12 : List Cond := [Cond.instanceMethod yX1_empty, Cond.selects RX1 yX1_empty yX1_empty, Cond.code yX1_empty cX1_empty 2 (some .int), Cond.methodLink RL 69 yL_twice, Cond.static yL_twice, Cond.code yL_twice cL_twice 1 (some .int), Cond.methodLink RL 72 yL_number, Cond.static yL_number, Cond.code yL_number cL_number 2 (some .boolean), Cond.methodLink RL 9 yX3_put, Cond.instanceMethod yX3_put, Cond.selects RX3 yX3_put yX3_put, Cond.code yX3_put cX3_put 4 (some .int), Cond.methodLink RX3 159 yX3_charactersIn, Cond.static yX3_charactersIn, Cond.code yX3_charactersIn cX3_charactersIn 7 (some .int), Cond.constantLong RX3 178 (255), Cond.constantLong RX3 180 (33), Cond.constantLong RX3 182 (126), Cond.methodLink RX3 163 yX1_append, Cond.instanceMethod yX1_append, Cond.selects RX1 yX1_append yX1_append, Cond.code yX1_append cX1_append 5 none, Cond.constantLong RX1 19 (255)]
def wsL_law_r13 : List Cond := [Cond.methodLink RL 75 yX3_read, Cond.instanceMethod yX3_read, Cond.selects RX3 yX3_read yX3_read, Cond.code yX3_read cX3_read 2 (some .int), Cond.constant RX3 87 (-1000003), Cond.methodLink RX3 82 yX1_firstFault, Cond.instanceMethod yX1_firstFault, Cond.selects RX1 yX1_firstFault yX1_firstFault, Cond.code yX1_firstFault cX1_firstFault 6 (some .int), Cond.constant RX1 29 (-1000006), Cond.methodLink RX1 21 yX1_isDigit, Cond.static yX1_isDigit, Cond.code yX1_isDigit cX1_isDigit 1 (some .boolean), Cond.methodLink RX1 25 yX1_canTakeDigit, Cond.static yX1_canTakeDigit, Cond.code yX1_canTakeDigit cX1_canTakeDigit 2 (some .boolean), Cond.methodLink RX3 88 yX1_roundsInAll, Cond.instanceMethod yX1_roundsInAll, Cond.selects RX1 yX1_roundsInAll yX1_roundsInAll, Cond.code yX1_roundsInAll cX1_roundsInAll 3 (some .int), Cond.methodLink RX1 30 yX1_startsCall, Cond.instanceMethod yX1_startsCall, Cond.selects RX1 yX1_startsCall yX1_startsCall, Cond.code yX1_startsCall cX1_startsCall 2 (some .boolean)]
def wsL_law_r14 : List Cond := [Cond.methodLink RX1 34 yX1_timesAt, Cond.instanceMethod yX1_timesAt, Cond.selects RX1 yX1_timesAt yX1_timesAt, Cond.code yX1_timesAt cX1_timesAt 2 (some .int), Cond.methodLink RX1 38 yX1_hasTimes, Cond.instanceMethod yX1_hasTimes, Cond.selects RX1 yX1_hasTimes yX1_hasTimes, Cond.code yX1_hasTimes cX1_hasTimes 2 (some .boolean), Cond.methodLink RX3 91 yX3_tellNumbersOfPad, Cond.instanceMethod yX3_tellNumbersOfPad, Cond.selects RX3 yX3_tellNumbersOfPad yX3_tellNumbersOfPad, Cond.code yX3_tellNumbersOfPad cX3_tellNumbersOfPad 3 (some .int), Cond.methodLink RX3 184 yX1_startsCall, Cond.methodLink RX3 187 yX1_numberAt, Cond.instanceMethod yX1_numberAt, Cond.selects RX1 yX1_numberAt yX1_numberAt, Cond.code yX1_numberAt cX1_numberAt 5 (some .int), Cond.methodLink RX3 190 yX1_timesAt, Cond.methodLink RX3 193 yX3_tell, Cond.instanceMethod yX3_tell, Cond.selects RX3 yX3_tell yX3_tell, Cond.code yX3_tell cX3_tell 5 (some .int), Cond.methodLink RL 106 yL_isWell, Cond.static yL_isWell]
def wsL_law_r15 : List Cond := [Cond.code yL_isWell cL_isWell 12 (some .boolean), Cond.constant RL 93 (-1000006), Cond.methodLink RL 87 yX3_fewestRounds, Cond.instanceMethod yX3_fewestRounds, Cond.selects RX3 yX3_fewestRounds yX3_fewestRounds, Cond.code yX3_fewestRounds cX3_fewestRounds 2 (some .int), Cond.methodLink RX3 150 yX2_remaindersWithUnmetPair, Cond.instanceMethod yX2_remaindersWithUnmetPair, Cond.selects RX2 yX2_remaindersWithUnmetPair yX2_remaindersWithUnmetPair, Cond.code yX2_remaindersWithUnmetPair cX2_remaindersWithUnmetPair 3 (some .int), Cond.methodLink RX2 113 yX2_hasUnmetPair, Cond.instanceMethod yX2_hasUnmetPair, Cond.selects RX2 yX2_hasUnmetPair yX2_hasUnmetPair, Cond.code yX2_hasUnmetPair cX2_hasUnmetPair 4 (some .boolean), Cond.methodLink RX3 153 yX2_roundsByTrying, Cond.instanceMethod yX2_roundsByTrying, Cond.selects RX2 yX2_roundsByTrying yX2_roundsByTrying, Cond.code yX2_roundsByTrying cX2_roundsByTrying 4 (some .int), Cond.methodLink RX2 116 yJ6_bitCount_0f7a4, Cond.methodLink RL 94 yX3_untilAllMet, Cond.instanceMethod yX3_untilAllMet, Cond.selects RX3 yX3_untilAllMet yX3_untilAllMet, Cond.code yX3_untilAllMet cX3_untilAllMet 4 (some .int), Cond.methodLink RX3 147 yX2_wouldBring]
def wsL_law_r16 : List Cond := [Cond.instanceMethod yX2_wouldBring, Cond.selects RX2 yX2_wouldBring yX2_wouldBring, Cond.code yX2_wouldBring cX2_wouldBring 6 (some .int), Cond.methodLink RX2 121 yX2_pairWouldBring, Cond.instanceMethod yX2_pairWouldBring, Cond.selects RX2 yX2_pairWouldBring yX2_pairWouldBring, Cond.code yX2_pairWouldBring cX2_pairWouldBring 5 (some .int), Cond.methodLink RL 110 yL_areAlike, Cond.static yL_areAlike, Cond.code yL_areAlike cL_areAlike 8 (some .boolean), Cond.methodLink RL 84 yX3_bestCall, Cond.instanceMethod yX3_bestCall, Cond.selects RX3 yX3_bestCall yX3_bestCall, Cond.code yX3_bestCall cX3_bestCall 6 (some .int), Cond.methodLink RL 90 yX3_ifCalled, Cond.instanceMethod yX3_ifCalled, Cond.selects RX3 yX3_ifCalled yX3_ifCalled, Cond.code yX3_ifCalled cX3_ifCalled 3 (some .int)]
def wsL_law : List Cond := (wsL_law_r1 ++ (wsL_law_r2 ++ (wsL_law_r3 ++ (wsL_law_r4 ++ (wsL_law_r5 ++ (wsL_law_r6 ++ (wsL_law_r7 ++ (wsL_law_r8 ++ (wsL_law_r9 ++ (wsL_law_r10 ++ (wsL_law_r11 ++ (wsL_law_r12 ++ (wsL_law_r13 ++ (wsL_law_r14 ++ (wsL_law_r15 ++ wsL_law_r16))))))))))))))) ++ wsX30 ++ wsX20 ++ wsX10 ++ wsX00 ++ ([] : List Cond)
theorem inlX0 : ∀ w ∈ wsX00, w ∈ wsL_law := fun _ h => List.mem_append_left _ (List.mem_append_right _ h)
theorem inlX1 : ∀ w ∈ wsX10, w ∈ wsL_law := fun _ h => List.mem_append_left _ (List.mem_append_left _ (List.mem_append_right _ h))
theorem inlX2 : ∀ w ∈ wsX20, w ∈ wsL_law := fun _ h => List.mem_append_left _ (List.mem_append_left _ (List.mem_append_left _ (List.mem_append_right _ h)))
theorem inlX3 : ∀ w ∈ wsX30, w ∈ wsL_law := fun _ h => List.mem_append_left _ (List.mem_append_left _ (List.mem_append_left _ (List.mem_append_left _ (List.mem_append_right _ h))))
theorem inJ6 : ∀ w ∈ wsJ60, w ∈ lw_tbl := by decide +kernel
theorem inJ9 : ∀ w ∈ wsJ90, w ∈ lw_tbl := by decide +kernel
theorem inJ10 : ∀ w ∈ wsJ100, w ∈ lw_tbl := by decide +kernel
theorem inJ7 : ∀ w ∈ wsJ70, w ∈ lw_tbl := by decide +kernel
set_option maxRecDepth 20000 in
theorem ggX0_init_X2_init : GoodIn wsX0_init wsX2_init := goodIn_r _ [11, 12, 2, 3, 13, 14, 15, 16, 17, 18, 19, 20, 21, 22, 23, 24, 25, 26, 27, 28, 29, 30, 31, 34, 35, 36, 37, 38, 39, 40, 41, 42, 43, 44, 45, 46] (by decide +kernel) (by decide +kernel)
set_option maxRecDepth 20000 in
theorem gX0_init_X2_init : GoodIn wsX0_init (wsX2_init) := ggX0_init_X2_init
theorem dX0_init_0 : decode cX0_init 0 = .ok (.aload_n 0, 1) := by decide +kernel
theorem dX0_init_1 : decode cX0_init 1 = .ok (.invokespecial 3, 3) := by decide +kernel
theorem dX0_init_4 : decode cX0_init 4 = .ok (.aload_n 0, 1) := by decide +kernel
theorem dX0_init_5 : decode cX0_init 5 = .ok (.bipush 6, 2) := by decide +kernel
theorem dX0_init_7 : decode cX0_init 7 = .ok (.anewarray 9, 3) := by decide +kernel
theorem dX0_init_10 : decode cX0_init 10 = .ok (.putfield 11, 3) := by decide +kernel
theorem dX0_init_13 : decode cX0_init 13 = .ok (.aload_n 0, 1) := by decide +kernel
theorem dX0_init_14 : decode cX0_init 14 = .ok (.iconst 0, 1) := by decide +kernel
theorem dX0_init_15 : decode cX0_init 15 = .ok (.putfield 17, 3) := by decide +kernel
theorem dX0_init_18 : decode cX0_init 18 = .ok (.iconst 0, 1) := by decide +kernel
theorem dX0_init_19 : decode cX0_init 19 = .ok (.istore_n 1, 1) := by decide +kernel
theorem dX0_init_20 : decode cX0_init 20 = .ok (.iload_n 1, 1) := by decide +kernel
theorem dX0_init_21 : decode cX0_init 21 = .ok (.bipush 6, 2) := by decide +kernel
theorem dX0_init_23 : decode cX0_init 23 = .ok (.if_icmp .ge 22, 3) := by decide +kernel
theorem dX0_init_26 : decode cX0_init 26 = .ok (.aload_n 0, 1) := by decide +kernel
theorem dX0_init_27 : decode cX0_init 27 = .ok (.getfield 11, 3) := by decide +kernel
theorem dX0_init_30 : decode cX0_init 30 = .ok (.iload_n 1, 1) := by decide +kernel
theorem dX0_init_31 : decode cX0_init 31 = .ok (.new 9, 3) := by decide +kernel
theorem dX0_init_34 : decode cX0_init 34 = .ok (.dup, 1) := by decide +kernel
theorem dX0_init_35 : decode cX0_init 35 = .ok (.invokespecial 21, 3) := by decide +kernel
theorem dX0_init_38 : decode cX0_init 38 = .ok (.aastore, 1) := by decide +kernel
theorem dX0_init_39 : decode cX0_init 39 = .ok (.iinc 1 1, 3) := by decide +kernel
theorem dX0_init_42 : decode cX0_init 42 = .ok (.goto (-22), 3) := by decide +kernel
theorem dX0_init_45 : decode cX0_init 45 = .ok (.return_, 1) := by decide +kernel
set_option maxRecDepth 20000 in
theorem ggX0_remember_X0_dropOldest : GoodIn wsX0_remember wsX0_dropOldest := goodIn_r _ [7, 2, 1, 37, 38] (by decide +kernel) (by decide +kernel)
set_option maxRecDepth 20000 in
theorem gX0_remember_X0_dropOldest : GoodIn wsX0_remember (wsV RX0 22 RX0 yX0_dropOldest wsX0_dropOldest) := goodIn_app (goodIn_of _ (by decide +kernel)) ggX0_remember_X0_dropOldest
set_option maxRecDepth 20000 in
theorem ggX0_remember_X2_copyFrom : GoodIn wsX0_remember wsX2_copyFrom := goodIn_r _ [12, 13, 14, 15, 16, 17, 18, 19, 20, 21, 22, 23, 24, 25, 26, 27, 11, 28, 29, 30, 31, 32, 33, 34, 35, 36, 39, 40, 41, 42, 43, 44, 45, 46, 47, 48, 49, 50, 51] (by decide +kernel) (by decide +kernel)
set_option maxRecDepth 20000 in
theorem gX0_remember_X2_copyFrom : GoodIn wsX0_remember (wsV RX0 25 RX2 yX2_copyFrom wsX2_copyFrom) := goodIn_app (goodIn_of _ (by decide +kernel)) ggX0_remember_X2_copyFrom
theorem dX0_remember_0 : decode cX0_remember 0 = .ok (.aload_n 0, 1) := by decide +kernel
theorem dX0_remember_1 : decode cX0_remember 1 = .ok (.getfield 17, 3) := by decide +kernel
theorem dX0_remember_4 : decode cX0_remember 4 = .ok (.bipush 6, 2) := by decide +kernel
theorem dX0_remember_6 : decode cX0_remember 6 = .ok (.if_icmp .ne 7, 3) := by decide +kernel
theorem dX0_remember_9 : decode cX0_remember 9 = .ok (.aload_n 0, 1) := by decide +kernel
theorem dX0_remember_10 : decode cX0_remember 10 = .ok (.invokevirtual 22, 3) := by decide +kernel
theorem dX0_remember_13 : decode cX0_remember 13 = .ok (.aload_n 0, 1) := by decide +kernel
theorem dX0_remember_14 : decode cX0_remember 14 = .ok (.getfield 11, 3) := by decide +kernel
theorem dX0_remember_17 : decode cX0_remember 17 = .ok (.aload_n 0, 1) := by decide +kernel
theorem dX0_remember_18 : decode cX0_remember 18 = .ok (.getfield 17, 3) := by decide +kernel
theorem dX0_remember_21 : decode cX0_remember 21 = .ok (.aaload, 1) := by decide +kernel
theorem dX0_remember_22 : decode cX0_remember 22 = .ok (.aload_n 1, 1) := by decide +kernel
theorem dX0_remember_23 : decode cX0_remember 23 = .ok (.invokevirtual 25, 3) := by decide +kernel
theorem dX0_remember_26 : decode cX0_remember 26 = .ok (.aload_n 0, 1) := by decide +kernel
theorem dX0_remember_27 : decode cX0_remember 27 = .ok (.dup, 1) := by decide +kernel
theorem dX0_remember_28 : decode cX0_remember 28 = .ok (.getfield 17, 3) := by decide +kernel
theorem dX0_remember_31 : decode cX0_remember 31 = .ok (.iconst 1, 1) := by decide +kernel
theorem dX0_remember_32 : decode cX0_remember 32 = .ok (.iadd, 1) := by decide +kernel
theorem dX0_remember_33 : decode cX0_remember 33 = .ok (.putfield 17, 3) := by decide +kernel
theorem dX0_remember_36 : decode cX0_remember 36 = .ok (.return_, 1) := by decide +kernel
theorem dX0_dropOldest_0 : decode cX0_dropOldest 0 = .ok (.aload_n 0, 1) := by decide +kernel
theorem dX0_dropOldest_1 : decode cX0_dropOldest 1 = .ok (.getfield 11, 3) := by decide +kernel
theorem dX0_dropOldest_4 : decode cX0_dropOldest 4 = .ok (.iconst 0, 1) := by decide +kernel
theorem dX0_dropOldest_5 : decode cX0_dropOldest 5 = .ok (.aaload, 1) := by decide +kernel
theorem dX0_dropOldest_6 : decode cX0_dropOldest 6 = .ok (.astore_n 1, 1) := by decide +kernel
theorem dX0_dropOldest_7 : decode cX0_dropOldest 7 = .ok (.iconst 1, 1) := by decide +kernel
theorem dX0_dropOldest_8 : decode cX0_dropOldest 8 = .ok (.istore_n 2, 1) := by decide +kernel
theorem dX0_dropOldest_9 : decode cX0_dropOldest 9 = .ok (.iload_n 2, 1) := by decide +kernel
theorem dX0_dropOldest_10 : decode cX0_dropOldest 10 = .ok (.bipush 6, 2) := by decide +kernel
theorem dX0_dropOldest_12 : decode cX0_dropOldest 12 = .ok (.if_icmp .ge 23, 3) := by decide +kernel
theorem dX0_dropOldest_15 : decode cX0_dropOldest 15 = .ok (.aload_n 0, 1) := by decide +kernel
theorem dX0_dropOldest_16 : decode cX0_dropOldest 16 = .ok (.getfield 11, 3) := by decide +kernel
theorem dX0_dropOldest_19 : decode cX0_dropOldest 19 = .ok (.iload_n 2, 1) := by decide +kernel
theorem dX0_dropOldest_20 : decode cX0_dropOldest 20 = .ok (.iconst 1, 1) := by decide +kernel
theorem dX0_dropOldest_21 : decode cX0_dropOldest 21 = .ok (.isub, 1) := by decide +kernel
theorem dX0_dropOldest_22 : decode cX0_dropOldest 22 = .ok (.aload_n 0, 1) := by decide +kernel
theorem dX0_dropOldest_23 : decode cX0_dropOldest 23 = .ok (.getfield 11, 3) := by decide +kernel
theorem dX0_dropOldest_26 : decode cX0_dropOldest 26 = .ok (.iload_n 2, 1) := by decide +kernel
theorem dX0_dropOldest_27 : decode cX0_dropOldest 27 = .ok (.aaload, 1) := by decide +kernel
theorem dX0_dropOldest_28 : decode cX0_dropOldest 28 = .ok (.aastore, 1) := by decide +kernel
theorem dX0_dropOldest_29 : decode cX0_dropOldest 29 = .ok (.iinc 2 1, 3) := by decide +kernel
theorem dX0_dropOldest_32 : decode cX0_dropOldest 32 = .ok (.goto (-23), 3) := by decide +kernel
theorem dX0_dropOldest_35 : decode cX0_dropOldest 35 = .ok (.aload_n 0, 1) := by decide +kernel
theorem dX0_dropOldest_36 : decode cX0_dropOldest 36 = .ok (.getfield 11, 3) := by decide +kernel
theorem dX0_dropOldest_39 : decode cX0_dropOldest 39 = .ok (.iconst 5, 1) := by decide +kernel
theorem dX0_dropOldest_40 : decode cX0_dropOldest 40 = .ok (.aload_n 1, 1) := by decide +kernel
theorem dX0_dropOldest_41 : decode cX0_dropOldest 41 = .ok (.aastore, 1) := by decide +kernel
theorem dX0_dropOldest_42 : decode cX0_dropOldest 42 = .ok (.aload_n 0, 1) := by decide +kernel
theorem dX0_dropOldest_43 : decode cX0_dropOldest 43 = .ok (.dup, 1) := by decide +kernel
theorem dX0_dropOldest_44 : decode cX0_dropOldest 44 = .ok (.getfield 17, 3) := by decide +kernel
theorem dX0_dropOldest_47 : decode cX0_dropOldest 47 = .ok (.iconst 1, 1) := by decide +kernel
theorem dX0_dropOldest_48 : decode cX0_dropOldest 48 = .ok (.isub, 1) := by decide +kernel
theorem dX0_dropOldest_49 : decode cX0_dropOldest 49 = .ok (.putfield 17, 3) := by decide +kernel
theorem dX0_dropOldest_52 : decode cX0_dropOldest 52 = .ok (.return_, 1) := by decide +kernel
set_option maxRecDepth 20000 in
theorem ggX0_takeBackInto_X2_copyFrom : GoodIn wsX0_takeBackInto wsX2_copyFrom := goodIn_r _ [7, 8, 9, 10, 11, 12, 13, 14, 15, 16, 17, 18, 19, 20, 21, 22, 6, 23, 24, 25, 26, 27, 28, 29, 30, 31, 34, 35, 36, 37, 38, 39, 40, 41, 42, 43, 44, 45, 46] (by decide +kernel) (by decide +kernel)
set_option maxRecDepth 20000 in
theorem gX0_takeBackInto_X2_copyFrom : GoodIn wsX0_takeBackInto (wsV RX0 25 RX2 yX2_copyFrom wsX2_copyFrom) := goodIn_app (goodIn_of _ (by decide +kernel)) ggX0_takeBackInto_X2_copyFrom
theorem dX0_takeBackInto_0 : decode cX0_takeBackInto 0 = .ok (.aload_n 0, 1) := by decide +kernel
theorem dX0_takeBackInto_1 : decode cX0_takeBackInto 1 = .ok (.getfield 17, 3) := by decide +kernel
theorem dX0_takeBackInto_4 : decode cX0_takeBackInto 4 = .ok (.ifCond .le 26, 3) := by decide +kernel
theorem dX0_takeBackInto_7 : decode cX0_takeBackInto 7 = .ok (.aload_n 0, 1) := by decide +kernel
theorem dX0_takeBackInto_8 : decode cX0_takeBackInto 8 = .ok (.dup, 1) := by decide +kernel
theorem dX0_takeBackInto_9 : decode cX0_takeBackInto 9 = .ok (.getfield 17, 3) := by decide +kernel
theorem dX0_takeBackInto_12 : decode cX0_takeBackInto 12 = .ok (.iconst 1, 1) := by decide +kernel
theorem dX0_takeBackInto_13 : decode cX0_takeBackInto 13 = .ok (.isub, 1) := by decide +kernel
theorem dX0_takeBackInto_14 : decode cX0_takeBackInto 14 = .ok (.putfield 17, 3) := by decide +kernel
theorem dX0_takeBackInto_17 : decode cX0_takeBackInto 17 = .ok (.aload_n 1, 1) := by decide +kernel
theorem dX0_takeBackInto_18 : decode cX0_takeBackInto 18 = .ok (.aload_n 0, 1) := by decide +kernel
theorem dX0_takeBackInto_19 : decode cX0_takeBackInto 19 = .ok (.getfield 11, 3) := by decide +kernel
theorem dX0_takeBackInto_22 : decode cX0_takeBackInto 22 = .ok (.aload_n 0, 1) := by decide +kernel
theorem dX0_takeBackInto_23 : decode cX0_takeBackInto 23 = .ok (.getfield 17, 3) := by decide +kernel
theorem dX0_takeBackInto_26 : decode cX0_takeBackInto 26 = .ok (.aaload, 1) := by decide +kernel
theorem dX0_takeBackInto_27 : decode cX0_takeBackInto 27 = .ok (.invokevirtual 25, 3) := by decide +kernel
theorem dX0_takeBackInto_30 : decode cX0_takeBackInto 30 = .ok (.return_, 1) := by decide +kernel
theorem dX1_init_0 : decode cX1_init 0 = .ok (.aload_n 0, 1) := by decide +kernel
theorem dX1_init_1 : decode cX1_init 1 = .ok (.invokespecial 3, 3) := by decide +kernel
theorem dX1_init_4 : decode cX1_init 4 = .ok (.aload_n 0, 1) := by decide +kernel
theorem dX1_init_5 : decode cX1_init 5 = .ok (.bipush 60, 2) := by decide +kernel
theorem dX1_init_7 : decode cX1_init 7 = .ok (.newarray .char, 2) := by decide +kernel
theorem dX1_init_9 : decode cX1_init 9 = .ok (.putfield 9, 3) := by decide +kernel
theorem dX1_init_12 : decode cX1_init 12 = .ok (.aload_n 0, 1) := by decide +kernel
theorem dX1_init_13 : decode cX1_init 13 = .ok (.iconst 0, 1) := by decide +kernel
theorem dX1_init_14 : decode cX1_init 14 = .ok (.putfield 15, 3) := by decide +kernel
theorem dX1_init_17 : decode cX1_init 17 = .ok (.return_, 1) := by decide +kernel
theorem dX1_append_0 : decode cX1_append 0 = .ok (.aload_n 0, 1) := by decide +kernel
theorem dX1_append_1 : decode cX1_append 1 = .ok (.getfield 15, 3) := by decide +kernel
theorem dX1_append_4 : decode cX1_append 4 = .ok (.iload_n 3, 1) := by decide +kernel
theorem dX1_append_5 : decode cX1_append 5 = .ok (.iadd, 1) := by decide +kernel
theorem dX1_append_6 : decode cX1_append 6 = .ok (.iconst 1, 1) := by decide +kernel
theorem dX1_append_7 : decode cX1_append 7 = .ok (.isub, 1) := by decide +kernel
theorem dX1_append_8 : decode cX1_append 8 = .ok (.istore 4, 2) := by decide +kernel
theorem dX1_append_10 : decode cX1_append 10 = .ok (.iload 4, 2) := by decide +kernel
theorem dX1_append_12 : decode cX1_append 12 = .ok (.aload_n 0, 1) := by decide +kernel
theorem dX1_append_13 : decode cX1_append 13 = .ok (.getfield 15, 3) := by decide +kernel
theorem dX1_append_16 : decode cX1_append 16 = .ok (.if_icmp .lt 38, 3) := by decide +kernel
theorem dX1_append_19 : decode cX1_append 19 = .ok (.aload_n 0, 1) := by decide +kernel
theorem dX1_append_20 : decode cX1_append 20 = .ok (.getfield 9, 3) := by decide +kernel
theorem dX1_append_23 : decode cX1_append 23 = .ok (.iload 4, 2) := by decide +kernel
theorem dX1_append_25 : decode cX1_append 25 = .ok (.lload_n 1, 1) := by decide +kernel
theorem dX1_append_26 : decode cX1_append 26 = .ok (.bipush 8, 2) := by decide +kernel
theorem dX1_append_28 : decode cX1_append 28 = .ok (.aload_n 0, 1) := by decide +kernel
theorem dX1_append_29 : decode cX1_append 29 = .ok (.getfield 15, 3) := by decide +kernel
theorem dX1_append_32 : decode cX1_append 32 = .ok (.iload_n 3, 1) := by decide +kernel
theorem dX1_append_33 : decode cX1_append 33 = .ok (.iadd, 1) := by decide +kernel
theorem dX1_append_34 : decode cX1_append 34 = .ok (.iconst 1, 1) := by decide +kernel
theorem dX1_append_35 : decode cX1_append 35 = .ok (.isub, 1) := by decide +kernel
theorem dX1_append_36 : decode cX1_append 36 = .ok (.iload 4, 2) := by decide +kernel
theorem dX1_append_38 : decode cX1_append 38 = .ok (.isub, 1) := by decide +kernel
theorem dX1_append_39 : decode cX1_append 39 = .ok (.imul, 1) := by decide +kernel
theorem dX1_append_40 : decode cX1_append 40 = .ok (.lushr, 1) := by decide +kernel
theorem dX1_append_41 : decode cX1_append 41 = .ok (.ldc2_w 19, 3) := by decide +kernel
theorem dX1_append_44 : decode cX1_append 44 = .ok (.land, 1) := by decide +kernel
theorem dX1_append_45 : decode cX1_append 45 = .ok (.l2i, 1) := by decide +kernel
theorem dX1_append_46 : decode cX1_append 46 = .ok (.i2c, 1) := by decide +kernel
theorem dX1_append_47 : decode cX1_append 47 = .ok (.castore, 1) := by decide +kernel
theorem dX1_append_48 : decode cX1_append 48 = .ok (.iinc 4 (-1), 3) := by decide +kernel
theorem dX1_append_51 : decode cX1_append 51 = .ok (.goto (-41), 3) := by decide +kernel
theorem dX1_append_54 : decode cX1_append 54 = .ok (.aload_n 0, 1) := by decide +kernel
theorem dX1_append_55 : decode cX1_append 55 = .ok (.dup, 1) := by decide +kernel
theorem dX1_append_56 : decode cX1_append 56 = .ok (.getfield 15, 3) := by decide +kernel
theorem dX1_append_59 : decode cX1_append 59 = .ok (.iload_n 3, 1) := by decide +kernel
theorem dX1_append_60 : decode cX1_append 60 = .ok (.iadd, 1) := by decide +kernel
theorem dX1_append_61 : decode cX1_append 61 = .ok (.putfield 15, 3) := by decide +kernel
theorem dX1_append_64 : decode cX1_append 64 = .ok (.return_, 1) := by decide +kernel
theorem dX1_empty_0 : decode cX1_empty 0 = .ok (.aload_n 0, 1) := by decide +kernel
theorem dX1_empty_1 : decode cX1_empty 1 = .ok (.getfield 15, 3) := by decide +kernel
theorem dX1_empty_4 : decode cX1_empty 4 = .ok (.istore_n 1, 1) := by decide +kernel
theorem dX1_empty_5 : decode cX1_empty 5 = .ok (.aload_n 0, 1) := by decide +kernel
theorem dX1_empty_6 : decode cX1_empty 6 = .ok (.iconst 0, 1) := by decide +kernel
theorem dX1_empty_7 : decode cX1_empty 7 = .ok (.putfield 15, 3) := by decide +kernel
theorem dX1_empty_10 : decode cX1_empty 10 = .ok (.iload_n 1, 1) := by decide +kernel
theorem dX1_empty_11 : decode cX1_empty 11 = .ok (.ireturn, 1) := by decide +kernel
set_option maxRecDepth 20000 in
theorem ggX1_firstFault_X1_isDigit : GoodIn wsX1_firstFault wsX1_isDigit := goodIn_r _ [7] (by decide +kernel) (by decide +kernel)
set_option maxRecDepth 20000 in
theorem gX1_firstFault_X1_isDigit : GoodIn wsX1_firstFault (va_wsS RX1 21 yX1_isDigit wsX1_isDigit) := goodIn_app (goodIn_of _ (by decide +kernel)) ggX1_firstFault_X1_isDigit
set_option maxRecDepth 20000 in
theorem ggX1_firstFault_X1_canTakeDigit : GoodIn wsX1_firstFault wsX1_canTakeDigit := goodIn_r _ [10] (by decide +kernel) (by decide +kernel)
set_option maxRecDepth 20000 in
theorem gX1_firstFault_X1_canTakeDigit : GoodIn wsX1_firstFault (va_wsS RX1 25 yX1_canTakeDigit wsX1_canTakeDigit) := goodIn_app (goodIn_of _ (by decide +kernel)) ggX1_firstFault_X1_canTakeDigit
theorem dX1_firstFault_0 : decode cX1_firstFault 0 = .ok (.iconst 0, 1) := by decide +kernel
theorem dX1_firstFault_1 : decode cX1_firstFault 1 = .ok (.istore_n 1, 1) := by decide +kernel
theorem dX1_firstFault_2 : decode cX1_firstFault 2 = .ok (.iconst 0, 1) := by decide +kernel
theorem dX1_firstFault_3 : decode cX1_firstFault 3 = .ok (.istore_n 2, 1) := by decide +kernel
theorem dX1_firstFault_4 : decode cX1_firstFault 4 = .ok (.iconst 0, 1) := by decide +kernel
theorem dX1_firstFault_5 : decode cX1_firstFault 5 = .ok (.istore_n 3, 1) := by decide +kernel
theorem dX1_firstFault_6 : decode cX1_firstFault 6 = .ok (.iconst 0, 1) := by decide +kernel
theorem dX1_firstFault_7 : decode cX1_firstFault 7 = .ok (.istore 4, 2) := by decide +kernel
theorem dX1_firstFault_9 : decode cX1_firstFault 9 = .ok (.iload 4, 2) := by decide +kernel
theorem dX1_firstFault_11 : decode cX1_firstFault 11 = .ok (.aload_n 0, 1) := by decide +kernel
theorem dX1_firstFault_12 : decode cX1_firstFault 12 = .ok (.getfield 15, 3) := by decide +kernel
theorem dX1_firstFault_15 : decode cX1_firstFault 15 = .ok (.if_icmp .ge 104, 3) := by decide +kernel
theorem dX1_firstFault_18 : decode cX1_firstFault 18 = .ok (.aload_n 0, 1) := by decide +kernel
theorem dX1_firstFault_19 : decode cX1_firstFault 19 = .ok (.getfield 9, 3) := by decide +kernel
theorem dX1_firstFault_22 : decode cX1_firstFault 22 = .ok (.iload 4, 2) := by decide +kernel
theorem dX1_firstFault_24 : decode cX1_firstFault 24 = .ok (.caload, 1) := by decide +kernel
theorem dX1_firstFault_25 : decode cX1_firstFault 25 = .ok (.istore 5, 2) := by decide +kernel
theorem dX1_firstFault_27 : decode cX1_firstFault 27 = .ok (.iload 5, 2) := by decide +kernel
theorem dX1_firstFault_29 : decode cX1_firstFault 29 = .ok (.invokestatic 21, 3) := by decide +kernel
theorem dX1_firstFault_32 : decode cX1_firstFault 32 = .ok (.ifCond .eq 28, 3) := by decide +kernel
theorem dX1_firstFault_35 : decode cX1_firstFault 35 = .ok (.iload_n 1, 1) := by decide +kernel
theorem dX1_firstFault_36 : decode cX1_firstFault 36 = .ok (.iload_n 2, 1) := by decide +kernel
theorem dX1_firstFault_37 : decode cX1_firstFault 37 = .ok (.invokestatic 25, 3) := by decide +kernel
theorem dX1_firstFault_40 : decode cX1_firstFault 40 = .ok (.ifCond .eq 20, 3) := by decide +kernel
theorem dX1_firstFault_43 : decode cX1_firstFault 43 = .ok (.bipush 10, 2) := by decide +kernel
theorem dX1_firstFault_45 : decode cX1_firstFault 45 = .ok (.iload_n 1, 1) := by decide +kernel
theorem dX1_firstFault_46 : decode cX1_firstFault 46 = .ok (.imul, 1) := by decide +kernel
theorem dX1_firstFault_47 : decode cX1_firstFault 47 = .ok (.iload 5, 2) := by decide +kernel
theorem dX1_firstFault_49 : decode cX1_firstFault 49 = .ok (.bipush 48, 2) := by decide +kernel
theorem dX1_firstFault_51 : decode cX1_firstFault 51 = .ok (.isub, 1) := by decide +kernel
theorem dX1_firstFault_52 : decode cX1_firstFault 52 = .ok (.iadd, 1) := by decide +kernel
theorem dX1_firstFault_53 : decode cX1_firstFault 53 = .ok (.istore_n 1, 1) := by decide +kernel
theorem dX1_firstFault_54 : decode cX1_firstFault 54 = .ok (.iinc 2 1, 3) := by decide +kernel
theorem dX1_firstFault_57 : decode cX1_firstFault 57 = .ok (.goto 56, 3) := by decide +kernel
theorem dX1_firstFault_60 : decode cX1_firstFault 60 = .ok (.iload 5, 2) := by decide +kernel
theorem dX1_firstFault_62 : decode cX1_firstFault 62 = .ok (.bipush 42, 2) := by decide +kernel
theorem dX1_firstFault_64 : decode cX1_firstFault 64 = .ok (.if_icmp .ne 26, 3) := by decide +kernel
theorem dX1_firstFault_67 : decode cX1_firstFault 67 = .ok (.iload_n 3, 1) := by decide +kernel
theorem dX1_firstFault_68 : decode cX1_firstFault 68 = .ok (.ifCond .ne 22, 3) := by decide +kernel
theorem dX1_firstFault_71 : decode cX1_firstFault 71 = .ok (.iload_n 2, 1) := by decide +kernel
theorem dX1_firstFault_72 : decode cX1_firstFault 72 = .ok (.iconst 1, 1) := by decide +kernel
theorem dX1_firstFault_73 : decode cX1_firstFault 73 = .ok (.if_icmp .ne 17, 3) := by decide +kernel
theorem dX1_firstFault_76 : decode cX1_firstFault 76 = .ok (.iload_n 1, 1) := by decide +kernel
theorem dX1_firstFault_77 : decode cX1_firstFault 77 = .ok (.iconst 2, 1) := by decide +kernel
theorem dX1_firstFault_78 : decode cX1_firstFault 78 = .ok (.if_icmp .lt 12, 3) := by decide +kernel
theorem dX1_firstFault_81 : decode cX1_firstFault 81 = .ok (.iconst 0, 1) := by decide +kernel
theorem dX1_firstFault_82 : decode cX1_firstFault 82 = .ok (.istore_n 1, 1) := by decide +kernel
theorem dX1_firstFault_83 : decode cX1_firstFault 83 = .ok (.iconst 0, 1) := by decide +kernel
theorem dX1_firstFault_84 : decode cX1_firstFault 84 = .ok (.istore_n 2, 1) := by decide +kernel
theorem dX1_firstFault_85 : decode cX1_firstFault 85 = .ok (.iconst 1, 1) := by decide +kernel
theorem dX1_firstFault_86 : decode cX1_firstFault 86 = .ok (.istore_n 3, 1) := by decide +kernel
theorem dX1_firstFault_87 : decode cX1_firstFault 87 = .ok (.goto 26, 3) := by decide +kernel
theorem dX1_firstFault_90 : decode cX1_firstFault 90 = .ok (.iload 5, 2) := by decide +kernel
theorem dX1_firstFault_92 : decode cX1_firstFault 92 = .ok (.bipush 44, 2) := by decide +kernel
theorem dX1_firstFault_94 : decode cX1_firstFault 94 = .ok (.if_icmp .ne 16, 3) := by decide +kernel
theorem dX1_firstFault_97 : decode cX1_firstFault 97 = .ok (.iload_n 2, 1) := by decide +kernel
theorem dX1_firstFault_98 : decode cX1_firstFault 98 = .ok (.ifCond .le 12, 3) := by decide +kernel
theorem dX1_firstFault_101 : decode cX1_firstFault 101 = .ok (.iconst 0, 1) := by decide +kernel
theorem dX1_firstFault_102 : decode cX1_firstFault 102 = .ok (.istore_n 1, 1) := by decide +kernel
theorem dX1_firstFault_103 : decode cX1_firstFault 103 = .ok (.iconst 0, 1) := by decide +kernel
theorem dX1_firstFault_104 : decode cX1_firstFault 104 = .ok (.istore_n 2, 1) := by decide +kernel
theorem dX1_firstFault_105 : decode cX1_firstFault 105 = .ok (.iconst 0, 1) := by decide +kernel
theorem dX1_firstFault_106 : decode cX1_firstFault 106 = .ok (.istore_n 3, 1) := by decide +kernel
theorem dX1_firstFault_107 : decode cX1_firstFault 107 = .ok (.goto 6, 3) := by decide +kernel
theorem dX1_firstFault_110 : decode cX1_firstFault 110 = .ok (.iload 4, 2) := by decide +kernel
theorem dX1_firstFault_112 : decode cX1_firstFault 112 = .ok (.ireturn, 1) := by decide +kernel
theorem dX1_firstFault_113 : decode cX1_firstFault 113 = .ok (.iinc 4 1, 3) := by decide +kernel
theorem dX1_firstFault_116 : decode cX1_firstFault 116 = .ok (.goto (-107), 3) := by decide +kernel
theorem dX1_firstFault_119 : decode cX1_firstFault 119 = .ok (.iload_n 2, 1) := by decide +kernel
theorem dX1_firstFault_120 : decode cX1_firstFault 120 = .ok (.ifCond .le 8, 3) := by decide +kernel
theorem dX1_firstFault_123 : decode cX1_firstFault 123 = .ok (.ldc 29, 2) := by decide +kernel
theorem dX1_firstFault_125 : decode cX1_firstFault 125 = .ok (.goto 7, 3) := by decide +kernel
theorem dX1_firstFault_128 : decode cX1_firstFault 128 = .ok (.aload_n 0, 1) := by decide +kernel
theorem dX1_firstFault_129 : decode cX1_firstFault 129 = .ok (.getfield 15, 3) := by decide +kernel
theorem dX1_firstFault_132 : decode cX1_firstFault 132 = .ok (.ireturn, 1) := by decide +kernel
theorem dX1_isDigit_0 : decode cX1_isDigit 0 = .ok (.iload_n 0, 1) := by decide +kernel
theorem dX1_isDigit_1 : decode cX1_isDigit 1 = .ok (.bipush 48, 2) := by decide +kernel
theorem dX1_isDigit_3 : decode cX1_isDigit 3 = .ok (.if_icmp .lt 13, 3) := by decide +kernel
theorem dX1_isDigit_6 : decode cX1_isDigit 6 = .ok (.iload_n 0, 1) := by decide +kernel
theorem dX1_isDigit_7 : decode cX1_isDigit 7 = .ok (.bipush 57, 2) := by decide +kernel
theorem dX1_isDigit_9 : decode cX1_isDigit 9 = .ok (.if_icmp .gt 7, 3) := by decide +kernel
theorem dX1_isDigit_12 : decode cX1_isDigit 12 = .ok (.iconst 1, 1) := by decide +kernel
theorem dX1_isDigit_13 : decode cX1_isDigit 13 = .ok (.goto 4, 3) := by decide +kernel
theorem dX1_isDigit_16 : decode cX1_isDigit 16 = .ok (.iconst 0, 1) := by decide +kernel
theorem dX1_isDigit_17 : decode cX1_isDigit 17 = .ok (.ireturn, 1) := by decide +kernel
theorem dX1_canTakeDigit_0 : decode cX1_canTakeDigit 0 = .ok (.iload_n 1, 1) := by decide +kernel
theorem dX1_canTakeDigit_1 : decode cX1_canTakeDigit 1 = .ok (.ifCond .eq 12, 3) := by decide +kernel
theorem dX1_canTakeDigit_4 : decode cX1_canTakeDigit 4 = .ok (.iload_n 0, 1) := by decide +kernel
theorem dX1_canTakeDigit_5 : decode cX1_canTakeDigit 5 = .ok (.ifCond .le 12, 3) := by decide +kernel
theorem dX1_canTakeDigit_8 : decode cX1_canTakeDigit 8 = .ok (.iload_n 1, 1) := by decide +kernel
theorem dX1_canTakeDigit_9 : decode cX1_canTakeDigit 9 = .ok (.iconst 3, 1) := by decide +kernel
theorem dX1_canTakeDigit_10 : decode cX1_canTakeDigit 10 = .ok (.if_icmp .ge 7, 3) := by decide +kernel
theorem dX1_canTakeDigit_13 : decode cX1_canTakeDigit 13 = .ok (.iconst 1, 1) := by decide +kernel
theorem dX1_canTakeDigit_14 : decode cX1_canTakeDigit 14 = .ok (.goto 4, 3) := by decide +kernel
theorem dX1_canTakeDigit_17 : decode cX1_canTakeDigit 17 = .ok (.iconst 0, 1) := by decide +kernel
theorem dX1_canTakeDigit_18 : decode cX1_canTakeDigit 18 = .ok (.ireturn, 1) := by decide +kernel
set_option maxRecDepth 20000 in
theorem ggX1_roundsInAll_X1_startsCall : GoodIn wsX1_roundsInAll wsX1_startsCall := goodIn_r _ [6, 7, 16, 17] (by decide +kernel) (by decide +kernel)
set_option maxRecDepth 20000 in
theorem gX1_roundsInAll_X1_startsCall : GoodIn wsX1_roundsInAll (wsV RX1 30 RX1 yX1_startsCall wsX1_startsCall) := goodIn_app (goodIn_of _ (by decide +kernel)) ggX1_roundsInAll_X1_startsCall
set_option maxRecDepth 20000 in
theorem ggX1_roundsInAll_X1_timesAt : GoodIn wsX1_roundsInAll wsX1_timesAt := goodIn_r _ [11, 7, 12, 13, 14, 5, 15, 1, 16, 17] (by decide +kernel) (by decide +kernel)
set_option maxRecDepth 20000 in
theorem gX1_roundsInAll_X1_timesAt : GoodIn wsX1_roundsInAll (wsV RX1 34 RX1 yX1_timesAt wsX1_timesAt) := goodIn_app (goodIn_of _ (by decide +kernel)) ggX1_roundsInAll_X1_timesAt
theorem dX1_roundsInAll_0 : decode cX1_roundsInAll 0 = .ok (.iconst 0, 1) := by decide +kernel
theorem dX1_roundsInAll_1 : decode cX1_roundsInAll 1 = .ok (.istore_n 1, 1) := by decide +kernel
theorem dX1_roundsInAll_2 : decode cX1_roundsInAll 2 = .ok (.iconst 0, 1) := by decide +kernel
theorem dX1_roundsInAll_3 : decode cX1_roundsInAll 3 = .ok (.istore_n 2, 1) := by decide +kernel
theorem dX1_roundsInAll_4 : decode cX1_roundsInAll 4 = .ok (.iload_n 2, 1) := by decide +kernel
theorem dX1_roundsInAll_5 : decode cX1_roundsInAll 5 = .ok (.aload_n 0, 1) := by decide +kernel
theorem dX1_roundsInAll_6 : decode cX1_roundsInAll 6 = .ok (.getfield 15, 3) := by decide +kernel
theorem dX1_roundsInAll_9 : decode cX1_roundsInAll 9 = .ok (.if_icmp .ge 25, 3) := by decide +kernel
theorem dX1_roundsInAll_12 : decode cX1_roundsInAll 12 = .ok (.aload_n 0, 1) := by decide +kernel
theorem dX1_roundsInAll_13 : decode cX1_roundsInAll 13 = .ok (.iload_n 2, 1) := by decide +kernel
theorem dX1_roundsInAll_14 : decode cX1_roundsInAll 14 = .ok (.invokevirtual 30, 3) := by decide +kernel
theorem dX1_roundsInAll_17 : decode cX1_roundsInAll 17 = .ok (.ifCond .eq 11, 3) := by decide +kernel
theorem dX1_roundsInAll_20 : decode cX1_roundsInAll 20 = .ok (.iload_n 1, 1) := by decide +kernel
theorem dX1_roundsInAll_21 : decode cX1_roundsInAll 21 = .ok (.aload_n 0, 1) := by decide +kernel
theorem dX1_roundsInAll_22 : decode cX1_roundsInAll 22 = .ok (.iload_n 2, 1) := by decide +kernel
theorem dX1_roundsInAll_23 : decode cX1_roundsInAll 23 = .ok (.invokevirtual 34, 3) := by decide +kernel
theorem dX1_roundsInAll_26 : decode cX1_roundsInAll 26 = .ok (.iadd, 1) := by decide +kernel
theorem dX1_roundsInAll_27 : decode cX1_roundsInAll 27 = .ok (.istore_n 1, 1) := by decide +kernel
theorem dX1_roundsInAll_28 : decode cX1_roundsInAll 28 = .ok (.iinc 2 1, 3) := by decide +kernel
theorem dX1_roundsInAll_31 : decode cX1_roundsInAll 31 = .ok (.goto (-27), 3) := by decide +kernel
theorem dX1_roundsInAll_34 : decode cX1_roundsInAll 34 = .ok (.iload_n 1, 1) := by decide +kernel
theorem dX1_roundsInAll_35 : decode cX1_roundsInAll 35 = .ok (.ireturn, 1) := by decide +kernel
theorem dX1_startsCall_0 : decode cX1_startsCall 0 = .ok (.iload_n 1, 1) := by decide +kernel
theorem dX1_startsCall_1 : decode cX1_startsCall 1 = .ok (.ifCond .eq 16, 3) := by decide +kernel
theorem dX1_startsCall_4 : decode cX1_startsCall 4 = .ok (.aload_n 0, 1) := by decide +kernel
theorem dX1_startsCall_5 : decode cX1_startsCall 5 = .ok (.getfield 9, 3) := by decide +kernel
theorem dX1_startsCall_8 : decode cX1_startsCall 8 = .ok (.iload_n 1, 1) := by decide +kernel
theorem dX1_startsCall_9 : decode cX1_startsCall 9 = .ok (.iconst 1, 1) := by decide +kernel
theorem dX1_startsCall_10 : decode cX1_startsCall 10 = .ok (.isub, 1) := by decide +kernel
theorem dX1_startsCall_11 : decode cX1_startsCall 11 = .ok (.caload, 1) := by decide +kernel
theorem dX1_startsCall_12 : decode cX1_startsCall 12 = .ok (.bipush 44, 2) := by decide +kernel
theorem dX1_startsCall_14 : decode cX1_startsCall 14 = .ok (.if_icmp .ne 7, 3) := by decide +kernel
theorem dX1_startsCall_17 : decode cX1_startsCall 17 = .ok (.iconst 1, 1) := by decide +kernel
theorem dX1_startsCall_18 : decode cX1_startsCall 18 = .ok (.goto 4, 3) := by decide +kernel
theorem dX1_startsCall_21 : decode cX1_startsCall 21 = .ok (.iconst 0, 1) := by decide +kernel
theorem dX1_startsCall_22 : decode cX1_startsCall 22 = .ok (.ireturn, 1) := by decide +kernel
theorem dX1_hasTimes_0 : decode cX1_hasTimes 0 = .ok (.iload_n 1, 1) := by decide +kernel
theorem dX1_hasTimes_1 : decode cX1_hasTimes 1 = .ok (.iconst 1, 1) := by decide +kernel
theorem dX1_hasTimes_2 : decode cX1_hasTimes 2 = .ok (.iadd, 1) := by decide +kernel
theorem dX1_hasTimes_3 : decode cX1_hasTimes 3 = .ok (.aload_n 0, 1) := by decide +kernel
theorem dX1_hasTimes_4 : decode cX1_hasTimes 4 = .ok (.getfield 15, 3) := by decide +kernel
theorem dX1_hasTimes_7 : decode cX1_hasTimes 7 = .ok (.if_icmp .ge 20, 3) := by decide +kernel
theorem dX1_hasTimes_10 : decode cX1_hasTimes 10 = .ok (.aload_n 0, 1) := by decide +kernel
theorem dX1_hasTimes_11 : decode cX1_hasTimes 11 = .ok (.getfield 9, 3) := by decide +kernel
theorem dX1_hasTimes_14 : decode cX1_hasTimes 14 = .ok (.iload_n 1, 1) := by decide +kernel
theorem dX1_hasTimes_15 : decode cX1_hasTimes 15 = .ok (.iconst 1, 1) := by decide +kernel
theorem dX1_hasTimes_16 : decode cX1_hasTimes 16 = .ok (.iadd, 1) := by decide +kernel
theorem dX1_hasTimes_17 : decode cX1_hasTimes 17 = .ok (.caload, 1) := by decide +kernel
theorem dX1_hasTimes_18 : decode cX1_hasTimes 18 = .ok (.bipush 42, 2) := by decide +kernel
theorem dX1_hasTimes_20 : decode cX1_hasTimes 20 = .ok (.if_icmp .ne 7, 3) := by decide +kernel
theorem dX1_hasTimes_23 : decode cX1_hasTimes 23 = .ok (.iconst 1, 1) := by decide +kernel
theorem dX1_hasTimes_24 : decode cX1_hasTimes 24 = .ok (.goto 4, 3) := by decide +kernel
theorem dX1_hasTimes_27 : decode cX1_hasTimes 27 = .ok (.iconst 0, 1) := by decide +kernel
theorem dX1_hasTimes_28 : decode cX1_hasTimes 28 = .ok (.ireturn, 1) := by decide +kernel
set_option maxRecDepth 20000 in
theorem ggX1_timesAt_X1_hasTimes : GoodIn wsX1_timesAt wsX1_hasTimes := goodIn_r _ [6, 7, 1, 8, 9] (by decide +kernel) (by decide +kernel)
set_option maxRecDepth 20000 in
theorem gX1_timesAt_X1_hasTimes : GoodIn wsX1_timesAt (wsV RX1 38 RX1 yX1_hasTimes wsX1_hasTimes) := goodIn_app (goodIn_of _ (by decide +kernel)) ggX1_timesAt_X1_hasTimes
theorem dX1_timesAt_0 : decode cX1_timesAt 0 = .ok (.aload_n 0, 1) := by decide +kernel
theorem dX1_timesAt_1 : decode cX1_timesAt 1 = .ok (.iload_n 1, 1) := by decide +kernel
theorem dX1_timesAt_2 : decode cX1_timesAt 2 = .ok (.invokevirtual 38, 3) := by decide +kernel
theorem dX1_timesAt_5 : decode cX1_timesAt 5 = .ok (.ifCond .eq 15, 3) := by decide +kernel
theorem dX1_timesAt_8 : decode cX1_timesAt 8 = .ok (.aload_n 0, 1) := by decide +kernel
theorem dX1_timesAt_9 : decode cX1_timesAt 9 = .ok (.getfield 9, 3) := by decide +kernel
theorem dX1_timesAt_12 : decode cX1_timesAt 12 = .ok (.iload_n 1, 1) := by decide +kernel
theorem dX1_timesAt_13 : decode cX1_timesAt 13 = .ok (.caload, 1) := by decide +kernel
theorem dX1_timesAt_14 : decode cX1_timesAt 14 = .ok (.bipush 48, 2) := by decide +kernel
theorem dX1_timesAt_16 : decode cX1_timesAt 16 = .ok (.isub, 1) := by decide +kernel
theorem dX1_timesAt_17 : decode cX1_timesAt 17 = .ok (.goto 4, 3) := by decide +kernel
theorem dX1_timesAt_20 : decode cX1_timesAt 20 = .ok (.iconst 1, 1) := by decide +kernel
theorem dX1_timesAt_21 : decode cX1_timesAt 21 = .ok (.ireturn, 1) := by decide +kernel
set_option maxRecDepth 20000 in
theorem ggX1_numberAt_X1_hasTimes : GoodIn wsX1_numberAt wsX1_hasTimes := goodIn_r _ [7, 1, 2, 11, 12] (by decide +kernel) (by decide +kernel)
set_option maxRecDepth 20000 in
theorem gX1_numberAt_X1_hasTimes : GoodIn wsX1_numberAt (wsV RX1 38 RX1 yX1_hasTimes wsX1_hasTimes) := goodIn_app (goodIn_of _ (by decide +kernel)) ggX1_numberAt_X1_hasTimes
set_option maxRecDepth 20000 in
theorem ggX1_numberAt_X1_isDigit : GoodIn wsX1_numberAt wsX1_isDigit := goodIn_r _ [10] (by decide +kernel) (by decide +kernel)
set_option maxRecDepth 20000 in
theorem gX1_numberAt_X1_isDigit : GoodIn wsX1_numberAt (va_wsS RX1 21 yX1_isDigit wsX1_isDigit) := goodIn_app (goodIn_of _ (by decide +kernel)) ggX1_numberAt_X1_isDigit
theorem dX1_numberAt_0 : decode cX1_numberAt 0 = .ok (.iconst 0, 1) := by decide +kernel
theorem dX1_numberAt_1 : decode cX1_numberAt 1 = .ok (.istore_n 2, 1) := by decide +kernel
theorem dX1_numberAt_2 : decode cX1_numberAt 2 = .ok (.aload_n 0, 1) := by decide +kernel
theorem dX1_numberAt_3 : decode cX1_numberAt 3 = .ok (.iload_n 1, 1) := by decide +kernel
theorem dX1_numberAt_4 : decode cX1_numberAt 4 = .ok (.invokevirtual 38, 3) := by decide +kernel
theorem dX1_numberAt_7 : decode cX1_numberAt 7 = .ok (.ifCond .eq 9, 3) := by decide +kernel
theorem dX1_numberAt_10 : decode cX1_numberAt 10 = .ok (.iload_n 1, 1) := by decide +kernel
theorem dX1_numberAt_11 : decode cX1_numberAt 11 = .ok (.iconst 2, 1) := by decide +kernel
theorem dX1_numberAt_12 : decode cX1_numberAt 12 = .ok (.iadd, 1) := by decide +kernel
theorem dX1_numberAt_13 : decode cX1_numberAt 13 = .ok (.goto 4, 3) := by decide +kernel
theorem dX1_numberAt_16 : decode cX1_numberAt 16 = .ok (.iload_n 1, 1) := by decide +kernel
theorem dX1_numberAt_17 : decode cX1_numberAt 17 = .ok (.istore_n 3, 1) := by decide +kernel
theorem dX1_numberAt_18 : decode cX1_numberAt 18 = .ok (.iload_n 3, 1) := by decide +kernel
theorem dX1_numberAt_19 : decode cX1_numberAt 19 = .ok (.istore 4, 2) := by decide +kernel
theorem dX1_numberAt_21 : decode cX1_numberAt 21 = .ok (.iload 4, 2) := by decide +kernel
theorem dX1_numberAt_23 : decode cX1_numberAt 23 = .ok (.aload_n 0, 1) := by decide +kernel
theorem dX1_numberAt_24 : decode cX1_numberAt 24 = .ok (.getfield 15, 3) := by decide +kernel
theorem dX1_numberAt_27 : decode cX1_numberAt 27 = .ok (.if_icmp .ge 38, 3) := by decide +kernel
theorem dX1_numberAt_30 : decode cX1_numberAt 30 = .ok (.aload_n 0, 1) := by decide +kernel
theorem dX1_numberAt_31 : decode cX1_numberAt 31 = .ok (.getfield 9, 3) := by decide +kernel
theorem dX1_numberAt_34 : decode cX1_numberAt 34 = .ok (.iload 4, 2) := by decide +kernel
theorem dX1_numberAt_36 : decode cX1_numberAt 36 = .ok (.caload, 1) := by decide +kernel
theorem dX1_numberAt_37 : decode cX1_numberAt 37 = .ok (.invokestatic 21, 3) := by decide +kernel
theorem dX1_numberAt_40 : decode cX1_numberAt 40 = .ok (.ifCond .eq 25, 3) := by decide +kernel
theorem dX1_numberAt_43 : decode cX1_numberAt 43 = .ok (.bipush 10, 2) := by decide +kernel
theorem dX1_numberAt_45 : decode cX1_numberAt 45 = .ok (.iload_n 2, 1) := by decide +kernel
theorem dX1_numberAt_46 : decode cX1_numberAt 46 = .ok (.imul, 1) := by decide +kernel
theorem dX1_numberAt_47 : decode cX1_numberAt 47 = .ok (.aload_n 0, 1) := by decide +kernel
theorem dX1_numberAt_48 : decode cX1_numberAt 48 = .ok (.getfield 9, 3) := by decide +kernel
theorem dX1_numberAt_51 : decode cX1_numberAt 51 = .ok (.iload 4, 2) := by decide +kernel
theorem dX1_numberAt_53 : decode cX1_numberAt 53 = .ok (.caload, 1) := by decide +kernel
theorem dX1_numberAt_54 : decode cX1_numberAt 54 = .ok (.bipush 48, 2) := by decide +kernel
theorem dX1_numberAt_56 : decode cX1_numberAt 56 = .ok (.isub, 1) := by decide +kernel
theorem dX1_numberAt_57 : decode cX1_numberAt 57 = .ok (.iadd, 1) := by decide +kernel
theorem dX1_numberAt_58 : decode cX1_numberAt 58 = .ok (.istore_n 2, 1) := by decide +kernel
theorem dX1_numberAt_59 : decode cX1_numberAt 59 = .ok (.iinc 4 1, 3) := by decide +kernel
theorem dX1_numberAt_62 : decode cX1_numberAt 62 = .ok (.goto (-41), 3) := by decide +kernel
theorem dX1_numberAt_65 : decode cX1_numberAt 65 = .ok (.iload_n 2, 1) := by decide +kernel
theorem dX1_numberAt_66 : decode cX1_numberAt 66 = .ok (.ireturn, 1) := by decide +kernel
set_option maxRecDepth 20000 in
theorem ggX2_init_J7_fill_53178 : GoodIn wsX2_init wsJ7_fill_53178 := goodIn_r _ [22] (by decide +kernel) (by decide +kernel)
set_option maxRecDepth 20000 in
theorem gX2_init_J7_fill_53178 : GoodIn wsX2_init (va_wsS RX2 53 yJ7_fill_53178 wsJ7_fill_53178) := goodIn_app (goodIn_of _ (by decide +kernel)) ggX2_init_J7_fill_53178
theorem dX2_init_0 : decode cX2_init 0 = .ok (.aload_n 0, 1) := by decide +kernel
theorem dX2_init_1 : decode cX2_init 1 = .ok (.invokespecial 3, 3) := by decide +kernel
theorem dX2_init_4 : decode cX2_init 4 = .ok (.aload_n 0, 1) := by decide +kernel
theorem dX2_init_5 : decode cX2_init 5 = .ok (.iconst 3, 1) := by decide +kernel
theorem dX2_init_6 : decode cX2_init 6 = .ok (.newarray .int, 2) := by decide +kernel
theorem dX2_init_8 : decode cX2_init 8 = .ok (.putfield 9, 3) := by decide +kernel
theorem dX2_init_11 : decode cX2_init 11 = .ok (.aload_n 0, 1) := by decide +kernel
theorem dX2_init_12 : decode cX2_init 12 = .ok (.sipush 511, 3) := by decide +kernel
theorem dX2_init_15 : decode cX2_init 15 = .ok (.putfield 15, 3) := by decide +kernel
theorem dX2_init_18 : decode cX2_init 18 = .ok (.aload_n 0, 1) := by decide +kernel
theorem dX2_init_19 : decode cX2_init 19 = .ok (.bipush 9, 2) := by decide +kernel
theorem dX2_init_21 : decode cX2_init 21 = .ok (.newarray .int, 2) := by decide +kernel
theorem dX2_init_23 : decode cX2_init 23 = .ok (.putfield 19, 3) := by decide +kernel
theorem dX2_init_26 : decode cX2_init 26 = .ok (.aload_n 0, 1) := by decide +kernel
theorem dX2_init_27 : decode cX2_init 27 = .ok (.bipush 9, 2) := by decide +kernel
theorem dX2_init_29 : decode cX2_init 29 = .ok (.newarray .int, 2) := by decide +kernel
theorem dX2_init_31 : decode cX2_init 31 = .ok (.putfield 22, 3) := by decide +kernel
theorem dX2_init_34 : decode cX2_init 34 = .ok (.aload_n 0, 1) := by decide +kernel
theorem dX2_init_35 : decode cX2_init 35 = .ok (.bipush 9, 2) := by decide +kernel
theorem dX2_init_37 : decode cX2_init 37 = .ok (.newarray .int, 2) := by decide +kernel
theorem dX2_init_39 : decode cX2_init 39 = .ok (.putfield 25, 3) := by decide +kernel
theorem dX2_init_42 : decode cX2_init 42 = .ok (.aload_n 0, 1) := by decide +kernel
theorem dX2_init_43 : decode cX2_init 43 = .ok (.bipush 9, 2) := by decide +kernel
theorem dX2_init_45 : decode cX2_init 45 = .ok (.newarray .int, 2) := by decide +kernel
theorem dX2_init_47 : decode cX2_init 47 = .ok (.putfield 28, 3) := by decide +kernel
theorem dX2_init_50 : decode cX2_init 50 = .ok (.aload_n 0, 1) := by decide +kernel
theorem dX2_init_51 : decode cX2_init 51 = .ok (.bipush 9, 2) := by decide +kernel
theorem dX2_init_53 : decode cX2_init 53 = .ok (.newarray .int, 2) := by decide +kernel
theorem dX2_init_55 : decode cX2_init 55 = .ok (.putfield 31, 3) := by decide +kernel
theorem dX2_init_58 : decode cX2_init 58 = .ok (.aload_n 0, 1) := by decide +kernel
theorem dX2_init_59 : decode cX2_init 59 = .ok (.bipush 81, 2) := by decide +kernel
theorem dX2_init_61 : decode cX2_init 61 = .ok (.newarray .int, 2) := by decide +kernel
theorem dX2_init_63 : decode cX2_init 63 = .ok (.putfield 34, 3) := by decide +kernel
theorem dX2_init_66 : decode cX2_init 66 = .ok (.aload_n 0, 1) := by decide +kernel
theorem dX2_init_67 : decode cX2_init 67 = .ok (.bipush 81, 2) := by decide +kernel
theorem dX2_init_69 : decode cX2_init 69 = .ok (.newarray .int, 2) := by decide +kernel
theorem dX2_init_71 : decode cX2_init 71 = .ok (.putfield 37, 3) := by decide +kernel
theorem dX2_init_74 : decode cX2_init 74 = .ok (.aload_n 0, 1) := by decide +kernel
theorem dX2_init_75 : decode cX2_init 75 = .ok (.bipush 81, 2) := by decide +kernel
theorem dX2_init_77 : decode cX2_init 77 = .ok (.newarray .int, 2) := by decide +kernel
theorem dX2_init_79 : decode cX2_init 79 = .ok (.putfield 40, 3) := by decide +kernel
theorem dX2_init_82 : decode cX2_init 82 = .ok (.aload_n 0, 1) := by decide +kernel
theorem dX2_init_83 : decode cX2_init 83 = .ok (.bipush 9, 2) := by decide +kernel
theorem dX2_init_85 : decode cX2_init 85 = .ok (.newarray .int, 2) := by decide +kernel
theorem dX2_init_87 : decode cX2_init 87 = .ok (.putfield 43, 3) := by decide +kernel
theorem dX2_init_90 : decode cX2_init 90 = .ok (.aload_n 0, 1) := by decide +kernel
theorem dX2_init_91 : decode cX2_init 91 = .ok (.iconst 0, 1) := by decide +kernel
theorem dX2_init_92 : decode cX2_init 92 = .ok (.putfield 46, 3) := by decide +kernel
theorem dX2_init_95 : decode cX2_init 95 = .ok (.aload_n 0, 1) := by decide +kernel
theorem dX2_init_96 : decode cX2_init 96 = .ok (.ldc 49, 2) := by decide +kernel
theorem dX2_init_98 : decode cX2_init 98 = .ok (.putfield 50, 3) := by decide +kernel
theorem dX2_init_101 : decode cX2_init 101 = .ok (.aload_n 0, 1) := by decide +kernel
theorem dX2_init_102 : decode cX2_init 102 = .ok (.getfield 9, 3) := by decide +kernel
theorem dX2_init_105 : decode cX2_init 105 = .ok (.iconst 0, 1) := by decide +kernel
theorem dX2_init_106 : decode cX2_init 106 = .ok (.iconst 2, 1) := by decide +kernel
theorem dX2_init_107 : decode cX2_init 107 = .ok (.iastore, 1) := by decide +kernel
theorem dX2_init_108 : decode cX2_init 108 = .ok (.aload_n 0, 1) := by decide +kernel
theorem dX2_init_109 : decode cX2_init 109 = .ok (.getfield 9, 3) := by decide +kernel
theorem dX2_init_112 : decode cX2_init 112 = .ok (.iconst 1, 1) := by decide +kernel
theorem dX2_init_113 : decode cX2_init 113 = .ok (.iconst 3, 1) := by decide +kernel
theorem dX2_init_114 : decode cX2_init 114 = .ok (.iastore, 1) := by decide +kernel
theorem dX2_init_115 : decode cX2_init 115 = .ok (.aload_n 0, 1) := by decide +kernel
theorem dX2_init_116 : decode cX2_init 116 = .ok (.getfield 9, 3) := by decide +kernel
theorem dX2_init_119 : decode cX2_init 119 = .ok (.iconst 2, 1) := by decide +kernel
theorem dX2_init_120 : decode cX2_init 120 = .ok (.iconst 2, 1) := by decide +kernel
theorem dX2_init_121 : decode cX2_init 121 = .ok (.iastore, 1) := by decide +kernel
theorem dX2_init_122 : decode cX2_init 122 = .ok (.aload_n 0, 1) := by decide +kernel
theorem dX2_init_123 : decode cX2_init 123 = .ok (.getfield 19, 3) := by decide +kernel
theorem dX2_init_126 : decode cX2_init 126 = .ok (.bipush 10, 2) := by decide +kernel
theorem dX2_init_128 : decode cX2_init 128 = .ok (.invokestatic 53, 3) := by decide +kernel
theorem dX2_init_131 : decode cX2_init 131 = .ok (.aload_n 0, 1) := by decide +kernel
theorem dX2_init_132 : decode cX2_init 132 = .ok (.getfield 40, 3) := by decide +kernel
theorem dX2_init_135 : decode cX2_init 135 = .ok (.ldc 49, 2) := by decide +kernel
theorem dX2_init_137 : decode cX2_init 137 = .ok (.invokestatic 53, 3) := by decide +kernel
theorem dX2_init_140 : decode cX2_init 140 = .ok (.return_, 1) := by decide +kernel
set_option maxRecDepth 20000 in
theorem ggX2_copyFrom_X2_copyRow : GoodIn wsX2_copyFrom wsX2_copyRow := goodIn_r _ [17, 18, 19, 20, 21, 22, 23, 24, 25] (by decide +kernel) (by decide +kernel)
set_option maxRecDepth 20000 in
theorem gX2_copyFrom_X2_copyRow : GoodIn wsX2_copyFrom (va_wsS RX2 59 yX2_copyRow wsX2_copyRow) := goodIn_app (goodIn_of _ (by decide +kernel)) ggX2_copyFrom_X2_copyRow
theorem dX2_copyFrom_0 : decode cX2_copyFrom 0 = .ok (.aload_n 1, 1) := by decide +kernel
theorem dX2_copyFrom_1 : decode cX2_copyFrom 1 = .ok (.getfield 9, 3) := by decide +kernel
theorem dX2_copyFrom_4 : decode cX2_copyFrom 4 = .ok (.aload_n 0, 1) := by decide +kernel
theorem dX2_copyFrom_5 : decode cX2_copyFrom 5 = .ok (.getfield 9, 3) := by decide +kernel
theorem dX2_copyFrom_8 : decode cX2_copyFrom 8 = .ok (.invokestatic 59, 3) := by decide +kernel
theorem dX2_copyFrom_11 : decode cX2_copyFrom 11 = .ok (.aload_n 0, 1) := by decide +kernel
theorem dX2_copyFrom_12 : decode cX2_copyFrom 12 = .ok (.aload_n 1, 1) := by decide +kernel
theorem dX2_copyFrom_13 : decode cX2_copyFrom 13 = .ok (.getfield 15, 3) := by decide +kernel
theorem dX2_copyFrom_16 : decode cX2_copyFrom 16 = .ok (.putfield 15, 3) := by decide +kernel
theorem dX2_copyFrom_19 : decode cX2_copyFrom 19 = .ok (.aload_n 1, 1) := by decide +kernel
theorem dX2_copyFrom_20 : decode cX2_copyFrom 20 = .ok (.getfield 19, 3) := by decide +kernel
theorem dX2_copyFrom_23 : decode cX2_copyFrom 23 = .ok (.aload_n 0, 1) := by decide +kernel
theorem dX2_copyFrom_24 : decode cX2_copyFrom 24 = .ok (.getfield 19, 3) := by decide +kernel
theorem dX2_copyFrom_27 : decode cX2_copyFrom 27 = .ok (.invokestatic 59, 3) := by decide +kernel
theorem dX2_copyFrom_30 : decode cX2_copyFrom 30 = .ok (.aload_n 1, 1) := by decide +kernel
theorem dX2_copyFrom_31 : decode cX2_copyFrom 31 = .ok (.getfield 22, 3) := by decide +kernel
theorem dX2_copyFrom_34 : decode cX2_copyFrom 34 = .ok (.aload_n 0, 1) := by decide +kernel
theorem dX2_copyFrom_35 : decode cX2_copyFrom 35 = .ok (.getfield 22, 3) := by decide +kernel
theorem dX2_copyFrom_38 : decode cX2_copyFrom 38 = .ok (.invokestatic 59, 3) := by decide +kernel
theorem dX2_copyFrom_41 : decode cX2_copyFrom 41 = .ok (.aload_n 1, 1) := by decide +kernel
theorem dX2_copyFrom_42 : decode cX2_copyFrom 42 = .ok (.getfield 25, 3) := by decide +kernel
theorem dX2_copyFrom_45 : decode cX2_copyFrom 45 = .ok (.aload_n 0, 1) := by decide +kernel
theorem dX2_copyFrom_46 : decode cX2_copyFrom 46 = .ok (.getfield 25, 3) := by decide +kernel
theorem dX2_copyFrom_49 : decode cX2_copyFrom 49 = .ok (.invokestatic 59, 3) := by decide +kernel
theorem dX2_copyFrom_52 : decode cX2_copyFrom 52 = .ok (.aload_n 1, 1) := by decide +kernel
theorem dX2_copyFrom_53 : decode cX2_copyFrom 53 = .ok (.getfield 28, 3) := by decide +kernel
theorem dX2_copyFrom_56 : decode cX2_copyFrom 56 = .ok (.aload_n 0, 1) := by decide +kernel
theorem dX2_copyFrom_57 : decode cX2_copyFrom 57 = .ok (.getfield 28, 3) := by decide +kernel
theorem dX2_copyFrom_60 : decode cX2_copyFrom 60 = .ok (.invokestatic 59, 3) := by decide +kernel
theorem dX2_copyFrom_63 : decode cX2_copyFrom 63 = .ok (.aload_n 1, 1) := by decide +kernel
theorem dX2_copyFrom_64 : decode cX2_copyFrom 64 = .ok (.getfield 31, 3) := by decide +kernel
theorem dX2_copyFrom_67 : decode cX2_copyFrom 67 = .ok (.aload_n 0, 1) := by decide +kernel
theorem dX2_copyFrom_68 : decode cX2_copyFrom 68 = .ok (.getfield 31, 3) := by decide +kernel
theorem dX2_copyFrom_71 : decode cX2_copyFrom 71 = .ok (.invokestatic 59, 3) := by decide +kernel
theorem dX2_copyFrom_74 : decode cX2_copyFrom 74 = .ok (.aload_n 1, 1) := by decide +kernel
theorem dX2_copyFrom_75 : decode cX2_copyFrom 75 = .ok (.getfield 34, 3) := by decide +kernel
theorem dX2_copyFrom_78 : decode cX2_copyFrom 78 = .ok (.aload_n 0, 1) := by decide +kernel
theorem dX2_copyFrom_79 : decode cX2_copyFrom 79 = .ok (.getfield 34, 3) := by decide +kernel
theorem dX2_copyFrom_82 : decode cX2_copyFrom 82 = .ok (.invokestatic 59, 3) := by decide +kernel
theorem dX2_copyFrom_85 : decode cX2_copyFrom 85 = .ok (.aload_n 1, 1) := by decide +kernel
theorem dX2_copyFrom_86 : decode cX2_copyFrom 86 = .ok (.getfield 37, 3) := by decide +kernel
theorem dX2_copyFrom_89 : decode cX2_copyFrom 89 = .ok (.aload_n 0, 1) := by decide +kernel
theorem dX2_copyFrom_90 : decode cX2_copyFrom 90 = .ok (.getfield 37, 3) := by decide +kernel
theorem dX2_copyFrom_93 : decode cX2_copyFrom 93 = .ok (.invokestatic 59, 3) := by decide +kernel
theorem dX2_copyFrom_96 : decode cX2_copyFrom 96 = .ok (.aload_n 1, 1) := by decide +kernel
theorem dX2_copyFrom_97 : decode cX2_copyFrom 97 = .ok (.getfield 40, 3) := by decide +kernel
theorem dX2_copyFrom_100 : decode cX2_copyFrom 100 = .ok (.aload_n 0, 1) := by decide +kernel
theorem dX2_copyFrom_101 : decode cX2_copyFrom 101 = .ok (.getfield 40, 3) := by decide +kernel
theorem dX2_copyFrom_104 : decode cX2_copyFrom 104 = .ok (.invokestatic 59, 3) := by decide +kernel
theorem dX2_copyFrom_107 : decode cX2_copyFrom 107 = .ok (.aload_n 1, 1) := by decide +kernel
theorem dX2_copyFrom_108 : decode cX2_copyFrom 108 = .ok (.getfield 43, 3) := by decide +kernel
theorem dX2_copyFrom_111 : decode cX2_copyFrom 111 = .ok (.aload_n 0, 1) := by decide +kernel
theorem dX2_copyFrom_112 : decode cX2_copyFrom 112 = .ok (.getfield 43, 3) := by decide +kernel
theorem dX2_copyFrom_115 : decode cX2_copyFrom 115 = .ok (.invokestatic 59, 3) := by decide +kernel
theorem dX2_copyFrom_118 : decode cX2_copyFrom 118 = .ok (.aload_n 0, 1) := by decide +kernel
theorem dX2_copyFrom_119 : decode cX2_copyFrom 119 = .ok (.aload_n 1, 1) := by decide +kernel
theorem dX2_copyFrom_120 : decode cX2_copyFrom 120 = .ok (.getfield 46, 3) := by decide +kernel
theorem dX2_copyFrom_123 : decode cX2_copyFrom 123 = .ok (.putfield 46, 3) := by decide +kernel
theorem dX2_copyFrom_126 : decode cX2_copyFrom 126 = .ok (.aload_n 0, 1) := by decide +kernel
theorem dX2_copyFrom_127 : decode cX2_copyFrom 127 = .ok (.aload_n 1, 1) := by decide +kernel
theorem dX2_copyFrom_128 : decode cX2_copyFrom 128 = .ok (.getfield 50, 3) := by decide +kernel
theorem dX2_copyFrom_131 : decode cX2_copyFrom 131 = .ok (.putfield 50, 3) := by decide +kernel
theorem dX2_copyFrom_134 : decode cX2_copyFrom 134 = .ok (.return_, 1) := by decide +kernel
theorem dX2_copyRow_0 : decode cX2_copyRow 0 = .ok (.aload_n 0, 1) := by decide +kernel
theorem dX2_copyRow_1 : decode cX2_copyRow 1 = .ok (.iconst 0, 1) := by decide +kernel
theorem dX2_copyRow_2 : decode cX2_copyRow 2 = .ok (.aload_n 1, 1) := by decide +kernel
theorem dX2_copyRow_3 : decode cX2_copyRow 3 = .ok (.iconst 0, 1) := by decide +kernel
theorem dX2_copyRow_4 : decode cX2_copyRow 4 = .ok (.aload_n 0, 1) := by decide +kernel
theorem dX2_copyRow_5 : decode cX2_copyRow 5 = .ok (.arraylength, 1) := by decide +kernel
theorem dX2_copyRow_6 : decode cX2_copyRow 6 = .ok (.aload_n 1, 1) := by decide +kernel
theorem dX2_copyRow_7 : decode cX2_copyRow 7 = .ok (.arraylength, 1) := by decide +kernel
theorem dX2_copyRow_8 : decode cX2_copyRow 8 = .ok (.invokestatic 63, 3) := by decide +kernel
theorem dX2_copyRow_11 : decode cX2_copyRow 11 = .ok (.invokestatic 69, 3) := by decide +kernel
theorem dX2_copyRow_14 : decode cX2_copyRow 14 = .ok (.return_, 1) := by decide +kernel
theorem dX2_isThere_0 : decode cX2_isThere 0 = .ok (.aload_n 0, 1) := by decide +kernel
theorem dX2_isThere_1 : decode cX2_isThere 1 = .ok (.getfield 15, 3) := by decide +kernel
theorem dX2_isThere_4 : decode cX2_isThere 4 = .ok (.iconst 1, 1) := by decide +kernel
theorem dX2_isThere_5 : decode cX2_isThere 5 = .ok (.iload_n 1, 1) := by decide +kernel
theorem dX2_isThere_6 : decode cX2_isThere 6 = .ok (.ishl, 1) := by decide +kernel
theorem dX2_isThere_7 : decode cX2_isThere 7 = .ok (.iand, 1) := by decide +kernel
theorem dX2_isThere_8 : decode cX2_isThere 8 = .ok (.ifCond .eq 7, 3) := by decide +kernel
theorem dX2_isThere_11 : decode cX2_isThere 11 = .ok (.iconst 1, 1) := by decide +kernel
theorem dX2_isThere_12 : decode cX2_isThere 12 = .ok (.goto 4, 3) := by decide +kernel
theorem dX2_isThere_15 : decode cX2_isThere 15 = .ok (.iconst 0, 1) := by decide +kernel
theorem dX2_isThere_16 : decode cX2_isThere 16 = .ok (.ireturn, 1) := by decide +kernel
set_option maxRecDepth 20000 in
theorem ggX2_danceRound_X3_counterpart : GoodIn wsX2_danceRound wsX3_counterpart := goodIn_r _ [6, 7, 8, 5, 9, 10, 11, 12, 13] (by decide +kernel) (by decide +kernel)
set_option maxRecDepth 20000 in
theorem gX2_danceRound_X3_counterpart_n75 : GoodIn wsX2_danceRound (wsX3_counterpart) := ggX2_danceRound_X3_counterpart
set_option maxRecDepth 20000 in
theorem ggX2_danceRound_X2_rest : GoodIn wsX2_danceRound wsX2_rest := goodIn_r _ [18, 19, 20, 21, 22, 23, 24, 25, 26, 27, 28, 17, 29, 30, 59, 60, 61, 62, 63, 64, 65, 66, 67, 68, 69, 70, 71] (by decide +kernel) (by decide +kernel)
set_option maxRecDepth 20000 in
theorem gX2_danceRound_X2_rest : GoodIn wsX2_danceRound (wsV RX2 78 RX2 yX2_rest wsX2_rest) := goodIn_app (goodIn_of _ (by decide +kernel)) ggX2_danceRound_X2_rest
set_option maxRecDepth 20000 in
theorem ggX2_danceRound_X2_wouldDance : GoodIn wsX2_danceRound wsX2_wouldDance := goodIn_r _ [34, 20, 21, 26, 27, 28, 17, 29, 30, 59, 60, 61, 62, 63, 64, 65, 66, 67, 68, 69, 70, 71] (by decide +kernel) (by decide +kernel)
set_option maxRecDepth 20000 in
theorem gX2_danceRound_X2_wouldDance : GoodIn wsX2_danceRound (wsV RX2 82 RX2 yX2_wouldDance wsX2_wouldDance) := goodIn_app (goodIn_of _ (by decide +kernel)) ggX2_danceRound_X2_wouldDance
set_option maxRecDepth 20000 in
theorem ggX2_danceRound_X2_dance : GoodIn wsX2_danceRound wsX2_dance := goodIn_r _ [38, 39, 40, 3, 41, 42, 43, 17, 44, 21, 45, 46, 5, 47, 48, 49, 50, 51, 52, 20, 53, 59, 60, 61, 62, 63, 64, 65, 66, 67, 68, 69, 70, 71] (by decide +kernel) (by decide +kernel)
set_option maxRecDepth 20000 in
theorem gX2_danceRound_X2_dance : GoodIn wsX2_danceRound (wsV RX2 86 RX2 yX2_dance wsX2_dance) := goodIn_app (goodIn_of _ (by decide +kernel)) ggX2_danceRound_X2_dance
set_option maxRecDepth 20000 in
theorem ggX2_danceRound_X2_leaveAlone : GoodIn wsX2_danceRound wsX2_leaveAlone := goodIn_r _ [57, 58, 26, 27, 28, 17, 29, 30, 14, 15, 16, 18, 19, 20, 21, 22, 23, 24, 25, 59, 60, 61, 62, 63, 64, 65, 66, 67, 68, 69, 70, 71] (by decide +kernel) (by decide +kernel)
set_option maxRecDepth 20000 in
theorem gX2_danceRound_X2_leaveAlone : GoodIn wsX2_danceRound (wsV RX2 90 RX2 yX2_leaveAlone wsX2_leaveAlone) := goodIn_app (goodIn_of _ (by decide +kernel)) ggX2_danceRound_X2_leaveAlone
set_option maxRecDepth 20000 in
theorem ggX2_danceRound_X3_remainderOf : GoodIn wsX2_danceRound wsX3_remainderOf := goodIn_r _ [9, 10, 11, 12, 13] (by decide +kernel) (by decide +kernel)
set_option maxRecDepth 20000 in
theorem gX2_danceRound_X3_remainderOf_n93 : GoodIn wsX2_danceRound (wsX3_remainderOf) := ggX2_danceRound_X3_remainderOf
theorem dX2_danceRound_0 : decode cX2_danceRound 0 = .ok (.iconst 0, 1) := by decide +kernel
theorem dX2_danceRound_1 : decode cX2_danceRound 1 = .ok (.istore_n 2, 1) := by decide +kernel
theorem dX2_danceRound_2 : decode cX2_danceRound 2 = .ok (.iconst 0, 1) := by decide +kernel
theorem dX2_danceRound_3 : decode cX2_danceRound 3 = .ok (.istore_n 3, 1) := by decide +kernel
theorem dX2_danceRound_4 : decode cX2_danceRound 4 = .ok (.iload_n 3, 1) := by decide +kernel
theorem dX2_danceRound_5 : decode cX2_danceRound 5 = .ok (.bipush 9, 2) := by decide +kernel
theorem dX2_danceRound_7 : decode cX2_danceRound 7 = .ok (.if_icmp .ge 76, 3) := by decide +kernel
theorem dX2_danceRound_10 : decode cX2_danceRound 10 = .ok (.iload_n 3, 1) := by decide +kernel
theorem dX2_danceRound_11 : decode cX2_danceRound 11 = .ok (.iload_n 1, 1) := by decide +kernel
theorem dX2_danceRound_12 : decode cX2_danceRound 12 = .ok (.invokestatic 75, 3) := by decide +kernel
theorem dX2_danceRound_15 : decode cX2_danceRound 15 = .ok (.istore 4, 2) := by decide +kernel
theorem dX2_danceRound_17 : decode cX2_danceRound 17 = .ok (.iload_n 3, 1) := by decide +kernel
theorem dX2_danceRound_18 : decode cX2_danceRound 18 = .ok (.iload 4, 2) := by decide +kernel
theorem dX2_danceRound_20 : decode cX2_danceRound 20 = .ok (.if_icmp .ne 11, 3) := by decide +kernel
theorem dX2_danceRound_23 : decode cX2_danceRound 23 = .ok (.aload_n 0, 1) := by decide +kernel
theorem dX2_danceRound_24 : decode cX2_danceRound 24 = .ok (.iload_n 3, 1) := by decide +kernel
theorem dX2_danceRound_25 : decode cX2_danceRound 25 = .ok (.invokevirtual 78, 3) := by decide +kernel
theorem dX2_danceRound_28 : decode cX2_danceRound 28 = .ok (.goto 49, 3) := by decide +kernel
theorem dX2_danceRound_31 : decode cX2_danceRound 31 = .ok (.iload_n 3, 1) := by decide +kernel
theorem dX2_danceRound_32 : decode cX2_danceRound 32 = .ok (.iload 4, 2) := by decide +kernel
theorem dX2_danceRound_34 : decode cX2_danceRound 34 = .ok (.if_icmp .ge 26, 3) := by decide +kernel
theorem dX2_danceRound_37 : decode cX2_danceRound 37 = .ok (.aload_n 0, 1) := by decide +kernel
theorem dX2_danceRound_38 : decode cX2_danceRound 38 = .ok (.iload_n 3, 1) := by decide +kernel
theorem dX2_danceRound_39 : decode cX2_danceRound 39 = .ok (.iload 4, 2) := by decide +kernel
theorem dX2_danceRound_41 : decode cX2_danceRound 41 = .ok (.invokevirtual 82, 3) := by decide +kernel
theorem dX2_danceRound_44 : decode cX2_danceRound 44 = .ok (.ifCond .eq 16, 3) := by decide +kernel
theorem dX2_danceRound_47 : decode cX2_danceRound 47 = .ok (.aload_n 0, 1) := by decide +kernel
theorem dX2_danceRound_48 : decode cX2_danceRound 48 = .ok (.iload_n 3, 1) := by decide +kernel
theorem dX2_danceRound_49 : decode cX2_danceRound 49 = .ok (.iload 4, 2) := by decide +kernel
theorem dX2_danceRound_51 : decode cX2_danceRound 51 = .ok (.invokevirtual 86, 3) := by decide +kernel
theorem dX2_danceRound_54 : decode cX2_danceRound 54 = .ok (.iinc 2 1, 3) := by decide +kernel
theorem dX2_danceRound_57 : decode cX2_danceRound 57 = .ok (.goto 20, 3) := by decide +kernel
theorem dX2_danceRound_60 : decode cX2_danceRound 60 = .ok (.iload_n 3, 1) := by decide +kernel
theorem dX2_danceRound_61 : decode cX2_danceRound 61 = .ok (.iload 4, 2) := by decide +kernel
theorem dX2_danceRound_63 : decode cX2_danceRound 63 = .ok (.if_icmp .ge 14, 3) := by decide +kernel
theorem dX2_danceRound_66 : decode cX2_danceRound 66 = .ok (.aload_n 0, 1) := by decide +kernel
theorem dX2_danceRound_67 : decode cX2_danceRound 67 = .ok (.iload_n 3, 1) := by decide +kernel
theorem dX2_danceRound_68 : decode cX2_danceRound 68 = .ok (.invokevirtual 90, 3) := by decide +kernel
theorem dX2_danceRound_71 : decode cX2_danceRound 71 = .ok (.aload_n 0, 1) := by decide +kernel
theorem dX2_danceRound_72 : decode cX2_danceRound 72 = .ok (.iload 4, 2) := by decide +kernel
theorem dX2_danceRound_74 : decode cX2_danceRound 74 = .ok (.invokevirtual 90, 3) := by decide +kernel
theorem dX2_danceRound_77 : decode cX2_danceRound 77 = .ok (.iinc 3 1, 3) := by decide +kernel
theorem dX2_danceRound_80 : decode cX2_danceRound 80 = .ok (.goto (-76), 3) := by decide +kernel
theorem dX2_danceRound_83 : decode cX2_danceRound 83 = .ok (.aload_n 0, 1) := by decide +kernel
theorem dX2_danceRound_84 : decode cX2_danceRound 84 = .ok (.getfield 43, 3) := by decide +kernel
theorem dX2_danceRound_87 : decode cX2_danceRound 87 = .ok (.iload_n 1, 1) := by decide +kernel
theorem dX2_danceRound_88 : decode cX2_danceRound 88 = .ok (.invokestatic 93, 3) := by decide +kernel
theorem dX2_danceRound_91 : decode cX2_danceRound 91 = .ok (.dup2, 1) := by decide +kernel
theorem dX2_danceRound_92 : decode cX2_danceRound 92 = .ok (.iaload, 1) := by decide +kernel
theorem dX2_danceRound_93 : decode cX2_danceRound 93 = .ok (.iconst 1, 1) := by decide +kernel
theorem dX2_danceRound_94 : decode cX2_danceRound 94 = .ok (.iadd, 1) := by decide +kernel
theorem dX2_danceRound_95 : decode cX2_danceRound 95 = .ok (.iastore, 1) := by decide +kernel
theorem dX2_danceRound_96 : decode cX2_danceRound 96 = .ok (.aload_n 0, 1) := by decide +kernel
theorem dX2_danceRound_97 : decode cX2_danceRound 97 = .ok (.iload_n 1, 1) := by decide +kernel
theorem dX2_danceRound_98 : decode cX2_danceRound 98 = .ok (.putfield 50, 3) := by decide +kernel
theorem dX2_danceRound_101 : decode cX2_danceRound 101 = .ok (.aload_n 0, 1) := by decide +kernel
theorem dX2_danceRound_102 : decode cX2_danceRound 102 = .ok (.dup, 1) := by decide +kernel
theorem dX2_danceRound_103 : decode cX2_danceRound 103 = .ok (.getfield 46, 3) := by decide +kernel
theorem dX2_danceRound_106 : decode cX2_danceRound 106 = .ok (.iconst 1, 1) := by decide +kernel
theorem dX2_danceRound_107 : decode cX2_danceRound 107 = .ok (.iadd, 1) := by decide +kernel
theorem dX2_danceRound_108 : decode cX2_danceRound 108 = .ok (.putfield 46, 3) := by decide +kernel
theorem dX2_danceRound_111 : decode cX2_danceRound 111 = .ok (.iload_n 2, 1) := by decide +kernel
theorem dX2_danceRound_112 : decode cX2_danceRound 112 = .ok (.ireturn, 1) := by decide +kernel
set_option maxRecDepth 20000 in
theorem ggX2_wouldDance_X2_isThere : GoodIn wsX2_wouldDance wsX2_isThere := goodIn_r _ [7, 8, 9, 10, 11, 12, 13, 14, 15, 16, 17, 18, 19, 20, 21] (by decide +kernel) (by decide +kernel)
set_option maxRecDepth 20000 in
theorem gX2_wouldDance_X2_isThere : GoodIn wsX2_wouldDance (wsV RX2 97 RX2 yX2_isThere wsX2_isThere) := goodIn_app (goodIn_of _ (by decide +kernel)) ggX2_wouldDance_X2_isThere
theorem dX2_wouldDance_0 : decode cX2_wouldDance 0 = .ok (.aload_n 0, 1) := by decide +kernel
theorem dX2_wouldDance_1 : decode cX2_wouldDance 1 = .ok (.iload_n 1, 1) := by decide +kernel
theorem dX2_wouldDance_2 : decode cX2_wouldDance 2 = .ok (.invokevirtual 97, 3) := by decide +kernel
theorem dX2_wouldDance_5 : decode cX2_wouldDance 5 = .ok (.ifCond .eq 45, 3) := by decide +kernel
theorem dX2_wouldDance_8 : decode cX2_wouldDance 8 = .ok (.aload_n 0, 1) := by decide +kernel
theorem dX2_wouldDance_9 : decode cX2_wouldDance 9 = .ok (.iload_n 2, 1) := by decide +kernel
theorem dX2_wouldDance_10 : decode cX2_wouldDance 10 = .ok (.invokevirtual 97, 3) := by decide +kernel
theorem dX2_wouldDance_13 : decode cX2_wouldDance 13 = .ok (.ifCond .eq 37, 3) := by decide +kernel
theorem dX2_wouldDance_16 : decode cX2_wouldDance 16 = .ok (.aload_n 0, 1) := by decide +kernel
theorem dX2_wouldDance_17 : decode cX2_wouldDance 17 = .ok (.getfield 19, 3) := by decide +kernel
theorem dX2_wouldDance_20 : decode cX2_wouldDance 20 = .ok (.iload_n 1, 1) := by decide +kernel
theorem dX2_wouldDance_21 : decode cX2_wouldDance 21 = .ok (.iaload, 1) := by decide +kernel
theorem dX2_wouldDance_22 : decode cX2_wouldDance 22 = .ok (.aload_n 0, 1) := by decide +kernel
theorem dX2_wouldDance_23 : decode cX2_wouldDance 23 = .ok (.getfield 9, 3) := by decide +kernel
theorem dX2_wouldDance_26 : decode cX2_wouldDance 26 = .ok (.iconst 0, 1) := by decide +kernel
theorem dX2_wouldDance_27 : decode cX2_wouldDance 27 = .ok (.iaload, 1) := by decide +kernel
theorem dX2_wouldDance_28 : decode cX2_wouldDance 28 = .ok (.if_icmp .lt 22, 3) := by decide +kernel
theorem dX2_wouldDance_31 : decode cX2_wouldDance 31 = .ok (.aload_n 0, 1) := by decide +kernel
theorem dX2_wouldDance_32 : decode cX2_wouldDance 32 = .ok (.getfield 19, 3) := by decide +kernel
theorem dX2_wouldDance_35 : decode cX2_wouldDance 35 = .ok (.iload_n 2, 1) := by decide +kernel
theorem dX2_wouldDance_36 : decode cX2_wouldDance 36 = .ok (.iaload, 1) := by decide +kernel
theorem dX2_wouldDance_37 : decode cX2_wouldDance 37 = .ok (.aload_n 0, 1) := by decide +kernel
theorem dX2_wouldDance_38 : decode cX2_wouldDance 38 = .ok (.getfield 9, 3) := by decide +kernel
theorem dX2_wouldDance_41 : decode cX2_wouldDance 41 = .ok (.iconst 0, 1) := by decide +kernel
theorem dX2_wouldDance_42 : decode cX2_wouldDance 42 = .ok (.iaload, 1) := by decide +kernel
theorem dX2_wouldDance_43 : decode cX2_wouldDance 43 = .ok (.if_icmp .lt 7, 3) := by decide +kernel
theorem dX2_wouldDance_46 : decode cX2_wouldDance 46 = .ok (.iconst 1, 1) := by decide +kernel
theorem dX2_wouldDance_47 : decode cX2_wouldDance 47 = .ok (.goto 4, 3) := by decide +kernel
theorem dX2_wouldDance_50 : decode cX2_wouldDance 50 = .ok (.iconst 0, 1) := by decide +kernel
theorem dX2_wouldDance_51 : decode cX2_wouldDance 51 = .ok (.ireturn, 1) := by decide +kernel
set_option maxRecDepth 20000 in
theorem ggX2_dance_X2_joyOfEach : GoodIn wsX2_dance wsX2_joyOfEach := goodIn_r _ [8, 9, 10, 11, 12, 13, 21, 22, 23, 24, 25, 26, 27, 28, 29, 30, 31, 32, 33] (by decide +kernel) (by decide +kernel)
set_option maxRecDepth 20000 in
theorem gX2_dance_X2_joyOfEach : GoodIn wsX2_dance (wsV RX2 101 RX2 yX2_joyOfEach wsX2_joyOfEach) := goodIn_app (goodIn_of _ (by decide +kernel)) ggX2_dance_X2_joyOfEach
set_option maxRecDepth 20000 in
theorem ggX2_dance_X2_takePart : GoodIn wsX2_dance wsX2_takePart := goodIn_r _ [17, 18, 19, 9, 20, 21, 22, 23, 24, 25, 26, 27, 28, 29, 30, 31, 32, 33] (by decide +kernel) (by decide +kernel)
set_option maxRecDepth 20000 in
theorem gX2_dance_X2_takePart : GoodIn wsX2_dance (wsV RX2 104 RX2 yX2_takePart wsX2_takePart) := goodIn_app (goodIn_of _ (by decide +kernel)) ggX2_dance_X2_takePart
set_option maxRecDepth 20000 in
theorem ggX2_dance_X3_pairIndex : GoodIn wsX2_dance wsX3_pairIndex := goodIn_r _ [13] (by decide +kernel) (by decide +kernel)
set_option maxRecDepth 20000 in
theorem gX2_dance_X3_pairIndex_n107 : GoodIn wsX2_dance (wsX3_pairIndex) := ggX2_dance_X3_pairIndex
theorem dX2_dance_0 : decode cX2_dance 0 = .ok (.aload_n 0, 1) := by decide +kernel
theorem dX2_dance_1 : decode cX2_dance 1 = .ok (.iload_n 1, 1) := by decide +kernel
theorem dX2_dance_2 : decode cX2_dance 2 = .ok (.iload_n 2, 1) := by decide +kernel
theorem dX2_dance_3 : decode cX2_dance 3 = .ok (.invokevirtual 101, 3) := by decide +kernel
theorem dX2_dance_6 : decode cX2_dance 6 = .ok (.istore_n 3, 1) := by decide +kernel
theorem dX2_dance_7 : decode cX2_dance 7 = .ok (.aload_n 0, 1) := by decide +kernel
theorem dX2_dance_8 : decode cX2_dance 8 = .ok (.iload_n 1, 1) := by decide +kernel
theorem dX2_dance_9 : decode cX2_dance 9 = .ok (.iload_n 3, 1) := by decide +kernel
theorem dX2_dance_10 : decode cX2_dance 10 = .ok (.invokevirtual 104, 3) := by decide +kernel
theorem dX2_dance_13 : decode cX2_dance 13 = .ok (.aload_n 0, 1) := by decide +kernel
theorem dX2_dance_14 : decode cX2_dance 14 = .ok (.iload_n 2, 1) := by decide +kernel
theorem dX2_dance_15 : decode cX2_dance 15 = .ok (.iload_n 3, 1) := by decide +kernel
theorem dX2_dance_16 : decode cX2_dance 16 = .ok (.invokevirtual 104, 3) := by decide +kernel
theorem dX2_dance_19 : decode cX2_dance 19 = .ok (.iload_n 1, 1) := by decide +kernel
theorem dX2_dance_20 : decode cX2_dance 20 = .ok (.iload_n 2, 1) := by decide +kernel
theorem dX2_dance_21 : decode cX2_dance 21 = .ok (.invokestatic 107, 3) := by decide +kernel
theorem dX2_dance_24 : decode cX2_dance 24 = .ok (.istore 4, 2) := by decide +kernel
theorem dX2_dance_26 : decode cX2_dance 26 = .ok (.aload_n 0, 1) := by decide +kernel
theorem dX2_dance_27 : decode cX2_dance 27 = .ok (.getfield 37, 3) := by decide +kernel
theorem dX2_dance_30 : decode cX2_dance 30 = .ok (.iload 4, 2) := by decide +kernel
theorem dX2_dance_32 : decode cX2_dance 32 = .ok (.dup2, 1) := by decide +kernel
theorem dX2_dance_33 : decode cX2_dance 33 = .ok (.iaload, 1) := by decide +kernel
theorem dX2_dance_34 : decode cX2_dance 34 = .ok (.iconst 1, 1) := by decide +kernel
theorem dX2_dance_35 : decode cX2_dance 35 = .ok (.iadd, 1) := by decide +kernel
theorem dX2_dance_36 : decode cX2_dance 36 = .ok (.iastore, 1) := by decide +kernel
theorem dX2_dance_37 : decode cX2_dance 37 = .ok (.aload_n 0, 1) := by decide +kernel
theorem dX2_dance_38 : decode cX2_dance 38 = .ok (.getfield 40, 3) := by decide +kernel
theorem dX2_dance_41 : decode cX2_dance 41 = .ok (.iload 4, 2) := by decide +kernel
theorem dX2_dance_43 : decode cX2_dance 43 = .ok (.aload_n 0, 1) := by decide +kernel
theorem dX2_dance_44 : decode cX2_dance 44 = .ok (.getfield 46, 3) := by decide +kernel
theorem dX2_dance_47 : decode cX2_dance 47 = .ok (.iastore, 1) := by decide +kernel
theorem dX2_dance_48 : decode cX2_dance 48 = .ok (.return_, 1) := by decide +kernel
set_option maxRecDepth 20000 in
theorem ggX2_joyOfEach_X3_pairIndex : GoodIn wsX2_joyOfEach wsX3_pairIndex := goodIn_r _ [5] (by decide +kernel) (by decide +kernel)
set_option maxRecDepth 20000 in
theorem gX2_joyOfEach_X3_pairIndex_n107 : GoodIn wsX2_joyOfEach (wsX3_pairIndex) := ggX2_joyOfEach_X3_pairIndex
theorem dX2_joyOfEach_0 : decode cX2_joyOfEach 0 = .ok (.aload_n 0, 1) := by decide +kernel
theorem dX2_joyOfEach_1 : decode cX2_joyOfEach 1 = .ok (.getfield 9, 3) := by decide +kernel
theorem dX2_joyOfEach_4 : decode cX2_joyOfEach 4 = .ok (.iconst 2, 1) := by decide +kernel
theorem dX2_joyOfEach_5 : decode cX2_joyOfEach 5 = .ok (.iaload, 1) := by decide +kernel
theorem dX2_joyOfEach_6 : decode cX2_joyOfEach 6 = .ok (.aload_n 0, 1) := by decide +kernel
theorem dX2_joyOfEach_7 : decode cX2_joyOfEach 7 = .ok (.getfield 34, 3) := by decide +kernel
theorem dX2_joyOfEach_10 : decode cX2_joyOfEach 10 = .ok (.iload_n 1, 1) := by decide +kernel
theorem dX2_joyOfEach_11 : decode cX2_joyOfEach 11 = .ok (.iload_n 2, 1) := by decide +kernel
theorem dX2_joyOfEach_12 : decode cX2_joyOfEach 12 = .ok (.invokestatic 107, 3) := by decide +kernel
theorem dX2_joyOfEach_15 : decode cX2_joyOfEach 15 = .ok (.iaload, 1) := by decide +kernel
theorem dX2_joyOfEach_16 : decode cX2_joyOfEach 16 = .ok (.iadd, 1) := by decide +kernel
theorem dX2_joyOfEach_17 : decode cX2_joyOfEach 17 = .ok (.ireturn, 1) := by decide +kernel
theorem dX2_takePart_0 : decode cX2_takePart 0 = .ok (.aload_n 0, 1) := by decide +kernel
theorem dX2_takePart_1 : decode cX2_takePart 1 = .ok (.getfield 22, 3) := by decide +kernel
theorem dX2_takePart_4 : decode cX2_takePart 4 = .ok (.iload_n 1, 1) := by decide +kernel
theorem dX2_takePart_5 : decode cX2_takePart 5 = .ok (.dup2, 1) := by decide +kernel
theorem dX2_takePart_6 : decode cX2_takePart 6 = .ok (.iaload, 1) := by decide +kernel
theorem dX2_takePart_7 : decode cX2_takePart 7 = .ok (.iload_n 2, 1) := by decide +kernel
theorem dX2_takePart_8 : decode cX2_takePart 8 = .ok (.iadd, 1) := by decide +kernel
theorem dX2_takePart_9 : decode cX2_takePart 9 = .ok (.iastore, 1) := by decide +kernel
theorem dX2_takePart_10 : decode cX2_takePart 10 = .ok (.aload_n 0, 1) := by decide +kernel
theorem dX2_takePart_11 : decode cX2_takePart 11 = .ok (.getfield 19, 3) := by decide +kernel
theorem dX2_takePart_14 : decode cX2_takePart 14 = .ok (.iload_n 1, 1) := by decide +kernel
theorem dX2_takePart_15 : decode cX2_takePart 15 = .ok (.dup2, 1) := by decide +kernel
theorem dX2_takePart_16 : decode cX2_takePart 16 = .ok (.iaload, 1) := by decide +kernel
theorem dX2_takePart_17 : decode cX2_takePart 17 = .ok (.aload_n 0, 1) := by decide +kernel
theorem dX2_takePart_18 : decode cX2_takePart 18 = .ok (.getfield 9, 3) := by decide +kernel
theorem dX2_takePart_21 : decode cX2_takePart 21 = .ok (.iconst 0, 1) := by decide +kernel
theorem dX2_takePart_22 : decode cX2_takePart 22 = .ok (.iaload, 1) := by decide +kernel
theorem dX2_takePart_23 : decode cX2_takePart 23 = .ok (.isub, 1) := by decide +kernel
theorem dX2_takePart_24 : decode cX2_takePart 24 = .ok (.iastore, 1) := by decide +kernel
theorem dX2_takePart_25 : decode cX2_takePart 25 = .ok (.aload_n 0, 1) := by decide +kernel
theorem dX2_takePart_26 : decode cX2_takePart 26 = .ok (.getfield 25, 3) := by decide +kernel
theorem dX2_takePart_29 : decode cX2_takePart 29 = .ok (.iload_n 1, 1) := by decide +kernel
theorem dX2_takePart_30 : decode cX2_takePart 30 = .ok (.dup2, 1) := by decide +kernel
theorem dX2_takePart_31 : decode cX2_takePart 31 = .ok (.iaload, 1) := by decide +kernel
theorem dX2_takePart_32 : decode cX2_takePart 32 = .ok (.iconst 1, 1) := by decide +kernel
theorem dX2_takePart_33 : decode cX2_takePart 33 = .ok (.iadd, 1) := by decide +kernel
theorem dX2_takePart_34 : decode cX2_takePart 34 = .ok (.iastore, 1) := by decide +kernel
theorem dX2_takePart_35 : decode cX2_takePart 35 = .ok (.return_, 1) := by decide +kernel
set_option maxRecDepth 20000 in
theorem ggX2_leaveAlone_X2_isThere : GoodIn wsX2_leaveAlone wsX2_isThere := goodIn_r _ [6, 7, 19, 20, 21, 22, 23, 24, 25, 26, 27, 28, 29, 30, 31] (by decide +kernel) (by decide +kernel)
set_option maxRecDepth 20000 in
theorem gX2_leaveAlone_X2_isThere : GoodIn wsX2_leaveAlone (wsV RX2 97 RX2 yX2_isThere wsX2_isThere) := goodIn_app (goodIn_of _ (by decide +kernel)) ggX2_leaveAlone_X2_isThere
set_option maxRecDepth 20000 in
theorem ggX2_leaveAlone_X2_rest : GoodIn wsX2_leaveAlone wsX2_rest := goodIn_r _ [11, 12, 13, 14, 15, 16, 17, 18, 2, 3, 4, 5, 6, 7, 19, 20, 21, 22, 23, 24, 25, 26, 27, 28, 29, 30, 31] (by decide +kernel) (by decide +kernel)
set_option maxRecDepth 20000 in
theorem gX2_leaveAlone_X2_rest : GoodIn wsX2_leaveAlone (wsV RX2 78 RX2 yX2_rest wsX2_rest) := goodIn_app (goodIn_of _ (by decide +kernel)) ggX2_leaveAlone_X2_rest
theorem dX2_leaveAlone_0 : decode cX2_leaveAlone 0 = .ok (.aload_n 0, 1) := by decide +kernel
theorem dX2_leaveAlone_1 : decode cX2_leaveAlone 1 = .ok (.iload_n 1, 1) := by decide +kernel
theorem dX2_leaveAlone_2 : decode cX2_leaveAlone 2 = .ok (.invokevirtual 97, 3) := by decide +kernel
theorem dX2_leaveAlone_5 : decode cX2_leaveAlone 5 = .ok (.ifCond .eq 18, 3) := by decide +kernel
theorem dX2_leaveAlone_8 : decode cX2_leaveAlone 8 = .ok (.aload_n 0, 1) := by decide +kernel
theorem dX2_leaveAlone_9 : decode cX2_leaveAlone 9 = .ok (.getfield 31, 3) := by decide +kernel
theorem dX2_leaveAlone_12 : decode cX2_leaveAlone 12 = .ok (.iload_n 1, 1) := by decide +kernel
theorem dX2_leaveAlone_13 : decode cX2_leaveAlone 13 = .ok (.dup2, 1) := by decide +kernel
theorem dX2_leaveAlone_14 : decode cX2_leaveAlone 14 = .ok (.iaload, 1) := by decide +kernel
theorem dX2_leaveAlone_15 : decode cX2_leaveAlone 15 = .ok (.iconst 1, 1) := by decide +kernel
theorem dX2_leaveAlone_16 : decode cX2_leaveAlone 16 = .ok (.iadd, 1) := by decide +kernel
theorem dX2_leaveAlone_17 : decode cX2_leaveAlone 17 = .ok (.iastore, 1) := by decide +kernel
theorem dX2_leaveAlone_18 : decode cX2_leaveAlone 18 = .ok (.aload_n 0, 1) := by decide +kernel
theorem dX2_leaveAlone_19 : decode cX2_leaveAlone 19 = .ok (.iload_n 1, 1) := by decide +kernel
theorem dX2_leaveAlone_20 : decode cX2_leaveAlone 20 = .ok (.invokevirtual 78, 3) := by decide +kernel
theorem dX2_leaveAlone_23 : decode cX2_leaveAlone 23 = .ok (.return_, 1) := by decide +kernel
set_option maxRecDepth 20000 in
theorem ggX2_rest_X2_isThere : GoodIn wsX2_rest wsX2_isThere := goodIn_r _ [12, 13, 14, 15, 16, 17, 18, 19, 20, 21, 22, 23, 24, 25, 26] (by decide +kernel) (by decide +kernel)
set_option maxRecDepth 20000 in
theorem gX2_rest_X2_isThere : GoodIn wsX2_rest (wsV RX2 97 RX2 yX2_isThere wsX2_isThere) := goodIn_app (goodIn_of _ (by decide +kernel)) ggX2_rest_X2_isThere
theorem dX2_rest_0 : decode cX2_rest 0 = .ok (.aload_n 0, 1) := by decide +kernel
theorem dX2_rest_1 : decode cX2_rest 1 = .ok (.iload_n 1, 1) := by decide +kernel
theorem dX2_rest_2 : decode cX2_rest 2 = .ok (.invokevirtual 97, 3) := by decide +kernel
theorem dX2_rest_5 : decode cX2_rest 5 = .ok (.ifCond .eq 37, 3) := by decide +kernel
theorem dX2_rest_8 : decode cX2_rest 8 = .ok (.aload_n 0, 1) := by decide +kernel
theorem dX2_rest_9 : decode cX2_rest 9 = .ok (.getfield 28, 3) := by decide +kernel
theorem dX2_rest_12 : decode cX2_rest 12 = .ok (.iload_n 1, 1) := by decide +kernel
theorem dX2_rest_13 : decode cX2_rest 13 = .ok (.dup2, 1) := by decide +kernel
theorem dX2_rest_14 : decode cX2_rest 14 = .ok (.iaload, 1) := by decide +kernel
theorem dX2_rest_15 : decode cX2_rest 15 = .ok (.iconst 1, 1) := by decide +kernel
theorem dX2_rest_16 : decode cX2_rest 16 = .ok (.iadd, 1) := by decide +kernel
theorem dX2_rest_17 : decode cX2_rest 17 = .ok (.iastore, 1) := by decide +kernel
theorem dX2_rest_18 : decode cX2_rest 18 = .ok (.aload_n 0, 1) := by decide +kernel
theorem dX2_rest_19 : decode cX2_rest 19 = .ok (.getfield 19, 3) := by decide +kernel
theorem dX2_rest_22 : decode cX2_rest 22 = .ok (.iload_n 1, 1) := by decide +kernel
theorem dX2_rest_23 : decode cX2_rest 23 = .ok (.aload_n 0, 1) := by decide +kernel
theorem dX2_rest_24 : decode cX2_rest 24 = .ok (.getfield 19, 3) := by decide +kernel
theorem dX2_rest_27 : decode cX2_rest 27 = .ok (.iload_n 1, 1) := by decide +kernel
theorem dX2_rest_28 : decode cX2_rest 28 = .ok (.iaload, 1) := by decide +kernel
theorem dX2_rest_29 : decode cX2_rest 29 = .ok (.aload_n 0, 1) := by decide +kernel
theorem dX2_rest_30 : decode cX2_rest 30 = .ok (.getfield 9, 3) := by decide +kernel
theorem dX2_rest_33 : decode cX2_rest 33 = .ok (.iconst 1, 1) := by decide +kernel
theorem dX2_rest_34 : decode cX2_rest 34 = .ok (.iaload, 1) := by decide +kernel
theorem dX2_rest_35 : decode cX2_rest 35 = .ok (.iadd, 1) := by decide +kernel
theorem dX2_rest_36 : decode cX2_rest 36 = .ok (.bipush 20, 2) := by decide +kernel
theorem dX2_rest_38 : decode cX2_rest 38 = .ok (.invokestatic 63, 3) := by decide +kernel
theorem dX2_rest_41 : decode cX2_rest 41 = .ok (.iastore, 1) := by decide +kernel
theorem dX2_rest_42 : decode cX2_rest 42 = .ok (.return_, 1) := by decide +kernel
set_option maxRecDepth 20000 in
theorem ggX2_dancedWith_X3_pairIndex : GoodIn wsX2_dancedWith wsX3_pairIndex := goodIn_r _ [4] (by decide +kernel) (by decide +kernel)
set_option maxRecDepth 20000 in
theorem gX2_dancedWith_X3_pairIndex_n107 : GoodIn wsX2_dancedWith (wsX3_pairIndex) := ggX2_dancedWith_X3_pairIndex
theorem dX2_dancedWith_0 : decode cX2_dancedWith 0 = .ok (.iconst 0, 1) := by decide +kernel
theorem dX2_dancedWith_1 : decode cX2_dancedWith 1 = .ok (.istore_n 2, 1) := by decide +kernel
theorem dX2_dancedWith_2 : decode cX2_dancedWith 2 = .ok (.iconst 0, 1) := by decide +kernel
theorem dX2_dancedWith_3 : decode cX2_dancedWith 3 = .ok (.istore_n 3, 1) := by decide +kernel
theorem dX2_dancedWith_4 : decode cX2_dancedWith 4 = .ok (.iload_n 3, 1) := by decide +kernel
theorem dX2_dancedWith_5 : decode cX2_dancedWith 5 = .ok (.bipush 9, 2) := by decide +kernel
theorem dX2_dancedWith_7 : decode cX2_dancedWith 7 = .ok (.if_icmp .ge 28, 3) := by decide +kernel
theorem dX2_dancedWith_10 : decode cX2_dancedWith 10 = .ok (.aload_n 0, 1) := by decide +kernel
theorem dX2_dancedWith_11 : decode cX2_dancedWith 11 = .ok (.getfield 37, 3) := by decide +kernel
theorem dX2_dancedWith_14 : decode cX2_dancedWith 14 = .ok (.iload_n 1, 1) := by decide +kernel
theorem dX2_dancedWith_15 : decode cX2_dancedWith 15 = .ok (.iload_n 3, 1) := by decide +kernel
theorem dX2_dancedWith_16 : decode cX2_dancedWith 16 = .ok (.invokestatic 107, 3) := by decide +kernel
theorem dX2_dancedWith_19 : decode cX2_dancedWith 19 = .ok (.iaload, 1) := by decide +kernel
theorem dX2_dancedWith_20 : decode cX2_dancedWith 20 = .ok (.ifCond .le 9, 3) := by decide +kernel
theorem dX2_dancedWith_23 : decode cX2_dancedWith 23 = .ok (.iload_n 2, 1) := by decide +kernel
theorem dX2_dancedWith_24 : decode cX2_dancedWith 24 = .ok (.iconst 1, 1) := by decide +kernel
theorem dX2_dancedWith_25 : decode cX2_dancedWith 25 = .ok (.iload_n 3, 1) := by decide +kernel
theorem dX2_dancedWith_26 : decode cX2_dancedWith 26 = .ok (.ishl, 1) := by decide +kernel
theorem dX2_dancedWith_27 : decode cX2_dancedWith 27 = .ok (.ior, 1) := by decide +kernel
theorem dX2_dancedWith_28 : decode cX2_dancedWith 28 = .ok (.istore_n 2, 1) := by decide +kernel
theorem dX2_dancedWith_29 : decode cX2_dancedWith 29 = .ok (.iinc 3 1, 3) := by decide +kernel
theorem dX2_dancedWith_32 : decode cX2_dancedWith 32 = .ok (.goto (-28), 3) := by decide +kernel
theorem dX2_dancedWith_35 : decode cX2_dancedWith 35 = .ok (.iload_n 2, 1) := by decide +kernel
theorem dX2_dancedWith_36 : decode cX2_dancedWith 36 = .ok (.ireturn, 1) := by decide +kernel
set_option maxRecDepth 20000 in
theorem ggX2_mostFrequentPartner_X3_pairIndex : GoodIn wsX2_mostFrequentPartner wsX3_pairIndex := goodIn_r _ [5] (by decide +kernel) (by decide +kernel)
set_option maxRecDepth 20000 in
theorem gX2_mostFrequentPartner_X3_pairIndex_n107 : GoodIn wsX2_mostFrequentPartner (wsX3_pairIndex) := ggX2_mostFrequentPartner_X3_pairIndex
theorem dX2_mostFrequentPartner_0 : decode cX2_mostFrequentPartner 0 = .ok (.ldc 49, 2) := by decide +kernel
theorem dX2_mostFrequentPartner_2 : decode cX2_mostFrequentPartner 2 = .ok (.istore_n 2, 1) := by decide +kernel
theorem dX2_mostFrequentPartner_3 : decode cX2_mostFrequentPartner 3 = .ok (.iconst 0, 1) := by decide +kernel
theorem dX2_mostFrequentPartner_4 : decode cX2_mostFrequentPartner 4 = .ok (.istore_n 3, 1) := by decide +kernel
theorem dX2_mostFrequentPartner_5 : decode cX2_mostFrequentPartner 5 = .ok (.iconst 0, 1) := by decide +kernel
theorem dX2_mostFrequentPartner_6 : decode cX2_mostFrequentPartner 6 = .ok (.istore 4, 2) := by decide +kernel
theorem dX2_mostFrequentPartner_8 : decode cX2_mostFrequentPartner 8 = .ok (.iload 4, 2) := by decide +kernel
theorem dX2_mostFrequentPartner_10 : decode cX2_mostFrequentPartner 10 = .ok (.bipush 9, 2) := by decide +kernel
theorem dX2_mostFrequentPartner_12 : decode cX2_mostFrequentPartner 12 = .ok (.if_icmp .ge 34, 3) := by decide +kernel
theorem dX2_mostFrequentPartner_15 : decode cX2_mostFrequentPartner 15 = .ok (.aload_n 0, 1) := by decide +kernel
theorem dX2_mostFrequentPartner_16 : decode cX2_mostFrequentPartner 16 = .ok (.getfield 37, 3) := by decide +kernel
theorem dX2_mostFrequentPartner_19 : decode cX2_mostFrequentPartner 19 = .ok (.iload_n 1, 1) := by decide +kernel
theorem dX2_mostFrequentPartner_20 : decode cX2_mostFrequentPartner 20 = .ok (.iload 4, 2) := by decide +kernel
theorem dX2_mostFrequentPartner_22 : decode cX2_mostFrequentPartner 22 = .ok (.invokestatic 107, 3) := by decide +kernel
theorem dX2_mostFrequentPartner_25 : decode cX2_mostFrequentPartner 25 = .ok (.iaload, 1) := by decide +kernel
theorem dX2_mostFrequentPartner_26 : decode cX2_mostFrequentPartner 26 = .ok (.istore 5, 2) := by decide +kernel
theorem dX2_mostFrequentPartner_28 : decode cX2_mostFrequentPartner 28 = .ok (.iload 5, 2) := by decide +kernel
theorem dX2_mostFrequentPartner_30 : decode cX2_mostFrequentPartner 30 = .ok (.iload_n 3, 1) := by decide +kernel
theorem dX2_mostFrequentPartner_31 : decode cX2_mostFrequentPartner 31 = .ok (.if_icmp .le 9, 3) := by decide +kernel
theorem dX2_mostFrequentPartner_34 : decode cX2_mostFrequentPartner 34 = .ok (.iload 4, 2) := by decide +kernel
theorem dX2_mostFrequentPartner_36 : decode cX2_mostFrequentPartner 36 = .ok (.istore_n 2, 1) := by decide +kernel
theorem dX2_mostFrequentPartner_37 : decode cX2_mostFrequentPartner 37 = .ok (.iload 5, 2) := by decide +kernel
theorem dX2_mostFrequentPartner_39 : decode cX2_mostFrequentPartner 39 = .ok (.istore_n 3, 1) := by decide +kernel
theorem dX2_mostFrequentPartner_40 : decode cX2_mostFrequentPartner 40 = .ok (.iinc 4 1, 3) := by decide +kernel
theorem dX2_mostFrequentPartner_43 : decode cX2_mostFrequentPartner 43 = .ok (.goto (-35), 3) := by decide +kernel
theorem dX2_mostFrequentPartner_46 : decode cX2_mostFrequentPartner 46 = .ok (.iload_n 2, 1) := by decide +kernel
theorem dX2_mostFrequentPartner_47 : decode cX2_mostFrequentPartner 47 = .ok (.ireturn, 1) := by decide +kernel
set_option maxRecDepth 20000 in
theorem ggX2_isUnmet_X2_isThere : GoodIn wsX2_isUnmet wsX2_isThere := goodIn_r _ [6, 7, 11, 12, 13, 14, 15, 16, 17, 18, 19, 20, 21, 22, 23] (by decide +kernel) (by decide +kernel)
set_option maxRecDepth 20000 in
theorem gX2_isUnmet_X2_isThere : GoodIn wsX2_isUnmet (wsV RX2 97 RX2 yX2_isThere wsX2_isThere) := goodIn_app (goodIn_of _ (by decide +kernel)) ggX2_isUnmet_X2_isThere
set_option maxRecDepth 20000 in
theorem ggX2_isUnmet_X3_pairIndex : GoodIn wsX2_isUnmet wsX3_pairIndex := goodIn_r _ [10] (by decide +kernel) (by decide +kernel)
set_option maxRecDepth 20000 in
theorem gX2_isUnmet_X3_pairIndex_n107 : GoodIn wsX2_isUnmet (wsX3_pairIndex) := ggX2_isUnmet_X3_pairIndex
theorem dX2_isUnmet_0 : decode cX2_isUnmet 0 = .ok (.aload_n 0, 1) := by decide +kernel
theorem dX2_isUnmet_1 : decode cX2_isUnmet 1 = .ok (.iload_n 1, 1) := by decide +kernel
theorem dX2_isUnmet_2 : decode cX2_isUnmet 2 = .ok (.invokevirtual 97, 3) := by decide +kernel
theorem dX2_isUnmet_5 : decode cX2_isUnmet 5 = .ok (.ifCond .eq 28, 3) := by decide +kernel
theorem dX2_isUnmet_8 : decode cX2_isUnmet 8 = .ok (.aload_n 0, 1) := by decide +kernel
theorem dX2_isUnmet_9 : decode cX2_isUnmet 9 = .ok (.iload_n 2, 1) := by decide +kernel
theorem dX2_isUnmet_10 : decode cX2_isUnmet 10 = .ok (.invokevirtual 97, 3) := by decide +kernel
theorem dX2_isUnmet_13 : decode cX2_isUnmet 13 = .ok (.ifCond .eq 20, 3) := by decide +kernel
theorem dX2_isUnmet_16 : decode cX2_isUnmet 16 = .ok (.aload_n 0, 1) := by decide +kernel
theorem dX2_isUnmet_17 : decode cX2_isUnmet 17 = .ok (.getfield 37, 3) := by decide +kernel
theorem dX2_isUnmet_20 : decode cX2_isUnmet 20 = .ok (.iload_n 1, 1) := by decide +kernel
theorem dX2_isUnmet_21 : decode cX2_isUnmet 21 = .ok (.iload_n 2, 1) := by decide +kernel
theorem dX2_isUnmet_22 : decode cX2_isUnmet 22 = .ok (.invokestatic 107, 3) := by decide +kernel
theorem dX2_isUnmet_25 : decode cX2_isUnmet 25 = .ok (.iaload, 1) := by decide +kernel
theorem dX2_isUnmet_26 : decode cX2_isUnmet 26 = .ok (.ifCond .ne 7, 3) := by decide +kernel
theorem dX2_isUnmet_29 : decode cX2_isUnmet 29 = .ok (.iconst 1, 1) := by decide +kernel
theorem dX2_isUnmet_30 : decode cX2_isUnmet 30 = .ok (.goto 4, 3) := by decide +kernel
theorem dX2_isUnmet_33 : decode cX2_isUnmet 33 = .ok (.iconst 0, 1) := by decide +kernel
theorem dX2_isUnmet_34 : decode cX2_isUnmet 34 = .ok (.ireturn, 1) := by decide +kernel
set_option maxRecDepth 20000 in
theorem ggX2_unmetPairs_X2_isUnmet : GoodIn wsX2_unmetPairs wsX2_isUnmet := goodIn_r _ [5, 6, 7, 8, 9, 4, 10, 11, 12, 13, 14, 15, 16, 17, 18, 19, 20, 21, 22, 23, 24, 25, 26, 27] (by decide +kernel) (by decide +kernel)
set_option maxRecDepth 20000 in
theorem gX2_unmetPairs_X2_isUnmet : GoodIn wsX2_unmetPairs (wsV RX2 110 RX2 yX2_isUnmet wsX2_isUnmet) := goodIn_app (goodIn_of _ (by decide +kernel)) ggX2_unmetPairs_X2_isUnmet
theorem dX2_unmetPairs_0 : decode cX2_unmetPairs 0 = .ok (.iconst 0, 1) := by decide +kernel
theorem dX2_unmetPairs_1 : decode cX2_unmetPairs 1 = .ok (.istore_n 1, 1) := by decide +kernel
theorem dX2_unmetPairs_2 : decode cX2_unmetPairs 2 = .ok (.iconst 0, 1) := by decide +kernel
theorem dX2_unmetPairs_3 : decode cX2_unmetPairs 3 = .ok (.istore_n 2, 1) := by decide +kernel
theorem dX2_unmetPairs_4 : decode cX2_unmetPairs 4 = .ok (.iload_n 2, 1) := by decide +kernel
theorem dX2_unmetPairs_5 : decode cX2_unmetPairs 5 = .ok (.bipush 9, 2) := by decide +kernel
theorem dX2_unmetPairs_7 : decode cX2_unmetPairs 7 = .ok (.if_icmp .ge 37, 3) := by decide +kernel
theorem dX2_unmetPairs_10 : decode cX2_unmetPairs 10 = .ok (.iload_n 2, 1) := by decide +kernel
theorem dX2_unmetPairs_11 : decode cX2_unmetPairs 11 = .ok (.iconst 1, 1) := by decide +kernel
theorem dX2_unmetPairs_12 : decode cX2_unmetPairs 12 = .ok (.iadd, 1) := by decide +kernel
theorem dX2_unmetPairs_13 : decode cX2_unmetPairs 13 = .ok (.istore_n 3, 1) := by decide +kernel
theorem dX2_unmetPairs_14 : decode cX2_unmetPairs 14 = .ok (.iload_n 3, 1) := by decide +kernel
theorem dX2_unmetPairs_15 : decode cX2_unmetPairs 15 = .ok (.bipush 9, 2) := by decide +kernel
theorem dX2_unmetPairs_17 : decode cX2_unmetPairs 17 = .ok (.if_icmp .ge 21, 3) := by decide +kernel
theorem dX2_unmetPairs_20 : decode cX2_unmetPairs 20 = .ok (.aload_n 0, 1) := by decide +kernel
theorem dX2_unmetPairs_21 : decode cX2_unmetPairs 21 = .ok (.iload_n 2, 1) := by decide +kernel
theorem dX2_unmetPairs_22 : decode cX2_unmetPairs 22 = .ok (.iload_n 3, 1) := by decide +kernel
theorem dX2_unmetPairs_23 : decode cX2_unmetPairs 23 = .ok (.invokevirtual 110, 3) := by decide +kernel
theorem dX2_unmetPairs_26 : decode cX2_unmetPairs 26 = .ok (.ifCond .eq 6, 3) := by decide +kernel
theorem dX2_unmetPairs_29 : decode cX2_unmetPairs 29 = .ok (.iinc 1 1, 3) := by decide +kernel
theorem dX2_unmetPairs_32 : decode cX2_unmetPairs 32 = .ok (.iinc 3 1, 3) := by decide +kernel
theorem dX2_unmetPairs_35 : decode cX2_unmetPairs 35 = .ok (.goto (-21), 3) := by decide +kernel
theorem dX2_unmetPairs_38 : decode cX2_unmetPairs 38 = .ok (.iinc 2 1, 3) := by decide +kernel
theorem dX2_unmetPairs_41 : decode cX2_unmetPairs 41 = .ok (.goto (-37), 3) := by decide +kernel
theorem dX2_unmetPairs_44 : decode cX2_unmetPairs 44 = .ok (.iload_n 1, 1) := by decide +kernel
theorem dX2_unmetPairs_45 : decode cX2_unmetPairs 45 = .ok (.ireturn, 1) := by decide +kernel
set_option maxRecDepth 20000 in
theorem ggX2_remaindersWithUnmetPair_X2_hasUnmetPair : GoodIn wsX2_remaindersWithUnmetPair wsX2_hasUnmetPair := goodIn_r _ [5, 6, 7, 8, 9, 10, 11, 12, 13, 14, 15, 16, 17, 18, 4, 19, 20, 21, 22, 23, 24, 25, 26, 27, 28, 29, 30, 31, 32, 33, 34, 35, 36, 37, 38, 39, 40] (by decide +kernel) (by decide +kernel)
set_option maxRecDepth 20000 in
theorem gX2_remaindersWithUnmetPair_X2_hasUnmetPair : GoodIn wsX2_remaindersWithUnmetPair (wsV RX2 113 RX2 yX2_hasUnmetPair wsX2_hasUnmetPair) := goodIn_app (goodIn_of _ (by decide +kernel)) ggX2_remaindersWithUnmetPair_X2_hasUnmetPair
theorem dX2_remaindersWithUnmetPair_0 : decode cX2_remaindersWithUnmetPair 0 = .ok (.iconst 0, 1) := by decide +kernel
theorem dX2_remaindersWithUnmetPair_1 : decode cX2_remaindersWithUnmetPair 1 = .ok (.istore_n 1, 1) := by decide +kernel
theorem dX2_remaindersWithUnmetPair_2 : decode cX2_remaindersWithUnmetPair 2 = .ok (.iconst 0, 1) := by decide +kernel
theorem dX2_remaindersWithUnmetPair_3 : decode cX2_remaindersWithUnmetPair 3 = .ok (.istore_n 2, 1) := by decide +kernel
theorem dX2_remaindersWithUnmetPair_4 : decode cX2_remaindersWithUnmetPair 4 = .ok (.iload_n 2, 1) := by decide +kernel
theorem dX2_remaindersWithUnmetPair_5 : decode cX2_remaindersWithUnmetPair 5 = .ok (.bipush 9, 2) := by decide +kernel
theorem dX2_remaindersWithUnmetPair_7 : decode cX2_remaindersWithUnmetPair 7 = .ok (.if_icmp .ge 20, 3) := by decide +kernel
theorem dX2_remaindersWithUnmetPair_10 : decode cX2_remaindersWithUnmetPair 10 = .ok (.aload_n 0, 1) := by decide +kernel
theorem dX2_remaindersWithUnmetPair_11 : decode cX2_remaindersWithUnmetPair 11 = .ok (.iload_n 2, 1) := by decide +kernel
theorem dX2_remaindersWithUnmetPair_12 : decode cX2_remaindersWithUnmetPair 12 = .ok (.invokevirtual 113, 3) := by decide +kernel
theorem dX2_remaindersWithUnmetPair_15 : decode cX2_remaindersWithUnmetPair 15 = .ok (.ifCond .eq 6, 3) := by decide +kernel
theorem dX2_remaindersWithUnmetPair_18 : decode cX2_remaindersWithUnmetPair 18 = .ok (.iinc 1 1, 3) := by decide +kernel
theorem dX2_remaindersWithUnmetPair_21 : decode cX2_remaindersWithUnmetPair 21 = .ok (.iinc 2 1, 3) := by decide +kernel
theorem dX2_remaindersWithUnmetPair_24 : decode cX2_remaindersWithUnmetPair 24 = .ok (.goto (-20), 3) := by decide +kernel
theorem dX2_remaindersWithUnmetPair_27 : decode cX2_remaindersWithUnmetPair 27 = .ok (.iload_n 1, 1) := by decide +kernel
theorem dX2_remaindersWithUnmetPair_28 : decode cX2_remaindersWithUnmetPair 28 = .ok (.ireturn, 1) := by decide +kernel
set_option maxRecDepth 20000 in
theorem ggX2_hasUnmetPair_X3_counterpart : GoodIn wsX2_hasUnmetPair wsX3_counterpart := goodIn_r _ [3, 4, 5, 2, 6, 7, 8, 9, 10] (by decide +kernel) (by decide +kernel)
set_option maxRecDepth 20000 in
theorem gX2_hasUnmetPair_X3_counterpart_n75 : GoodIn wsX2_hasUnmetPair (wsX3_counterpart) := ggX2_hasUnmetPair_X3_counterpart
set_option maxRecDepth 20000 in
theorem ggX2_hasUnmetPair_X2_isUnmet : GoodIn wsX2_hasUnmetPair wsX2_isUnmet := goodIn_r _ [15, 16, 17, 18, 19, 14, 20, 21, 22, 2, 23, 24, 25, 26, 27, 28, 29, 30, 31, 32, 33, 34, 35, 36] (by decide +kernel) (by decide +kernel)
set_option maxRecDepth 20000 in
theorem gX2_hasUnmetPair_X2_isUnmet : GoodIn wsX2_hasUnmetPair (wsV RX2 110 RX2 yX2_isUnmet wsX2_isUnmet) := goodIn_app (goodIn_of _ (by decide +kernel)) ggX2_hasUnmetPair_X2_isUnmet
theorem dX2_hasUnmetPair_0 : decode cX2_hasUnmetPair 0 = .ok (.iconst 0, 1) := by decide +kernel
theorem dX2_hasUnmetPair_1 : decode cX2_hasUnmetPair 1 = .ok (.istore_n 2, 1) := by decide +kernel
theorem dX2_hasUnmetPair_2 : decode cX2_hasUnmetPair 2 = .ok (.iload_n 2, 1) := by decide +kernel
theorem dX2_hasUnmetPair_3 : decode cX2_hasUnmetPair 3 = .ok (.bipush 9, 2) := by decide +kernel
theorem dX2_hasUnmetPair_5 : decode cX2_hasUnmetPair 5 = .ok (.if_icmp .ge 31, 3) := by decide +kernel
theorem dX2_hasUnmetPair_8 : decode cX2_hasUnmetPair 8 = .ok (.iload_n 2, 1) := by decide +kernel
theorem dX2_hasUnmetPair_9 : decode cX2_hasUnmetPair 9 = .ok (.iload_n 1, 1) := by decide +kernel
theorem dX2_hasUnmetPair_10 : decode cX2_hasUnmetPair 10 = .ok (.invokestatic 75, 3) := by decide +kernel
theorem dX2_hasUnmetPair_13 : decode cX2_hasUnmetPair 13 = .ok (.istore_n 3, 1) := by decide +kernel
theorem dX2_hasUnmetPair_14 : decode cX2_hasUnmetPair 14 = .ok (.iload_n 2, 1) := by decide +kernel
theorem dX2_hasUnmetPair_15 : decode cX2_hasUnmetPair 15 = .ok (.iload_n 3, 1) := by decide +kernel
theorem dX2_hasUnmetPair_16 : decode cX2_hasUnmetPair 16 = .ok (.if_icmp .ge 14, 3) := by decide +kernel
theorem dX2_hasUnmetPair_19 : decode cX2_hasUnmetPair 19 = .ok (.aload_n 0, 1) := by decide +kernel
theorem dX2_hasUnmetPair_20 : decode cX2_hasUnmetPair 20 = .ok (.iload_n 2, 1) := by decide +kernel
theorem dX2_hasUnmetPair_21 : decode cX2_hasUnmetPair 21 = .ok (.iload_n 3, 1) := by decide +kernel
theorem dX2_hasUnmetPair_22 : decode cX2_hasUnmetPair 22 = .ok (.invokevirtual 110, 3) := by decide +kernel
theorem dX2_hasUnmetPair_25 : decode cX2_hasUnmetPair 25 = .ok (.ifCond .eq 5, 3) := by decide +kernel
theorem dX2_hasUnmetPair_28 : decode cX2_hasUnmetPair 28 = .ok (.iconst 1, 1) := by decide +kernel
theorem dX2_hasUnmetPair_29 : decode cX2_hasUnmetPair 29 = .ok (.ireturn, 1) := by decide +kernel
theorem dX2_hasUnmetPair_30 : decode cX2_hasUnmetPair 30 = .ok (.iinc 2 1, 3) := by decide +kernel
theorem dX2_hasUnmetPair_33 : decode cX2_hasUnmetPair 33 = .ok (.goto (-31), 3) := by decide +kernel
theorem dX2_hasUnmetPair_36 : decode cX2_hasUnmetPair 36 = .ok (.iconst 0, 1) := by decide +kernel
theorem dX2_hasUnmetPair_37 : decode cX2_hasUnmetPair 37 = .ok (.ireturn, 1) := by decide +kernel
set_option maxRecDepth 20000 in
theorem ggX2_roundsByTrying_X2_isUnmet : GoodIn wsX2_roundsByTrying wsX2_isUnmet := goodIn_r _ [5, 6, 7, 8, 9, 4, 10, 11, 12, 13, 14, 28, 29, 30, 31, 32, 33, 34, 35, 36, 37, 38, 39, 40] (by decide +kernel) (by decide +kernel)
set_option maxRecDepth 20000 in
theorem gX2_roundsByTrying_X2_isUnmet : GoodIn wsX2_roundsByTrying (wsV RX2 110 RX2 yX2_isUnmet wsX2_isUnmet) := goodIn_app (goodIn_of _ (by decide +kernel)) ggX2_roundsByTrying_X2_isUnmet
set_option maxRecDepth 20000 in
theorem ggX2_roundsByTrying_X3_remainderOf : GoodIn wsX2_roundsByTrying wsX3_remainderOf := goodIn_r _ [16, 17, 18, 19, 20] (by decide +kernel) (by decide +kernel)
set_option maxRecDepth 20000 in
theorem gX2_roundsByTrying_X3_remainderOf_n93 : GoodIn wsX2_roundsByTrying (wsX3_remainderOf) := ggX2_roundsByTrying_X3_remainderOf
set_option maxRecDepth 20000 in
theorem ggX2_roundsByTrying_J6_bitCount_0f7a4 : GoodIn wsX2_roundsByTrying wsJ6_bitCount_0f7a4 := goodIn_r _ [24, 25, 26, 27] (by decide +kernel) (by decide +kernel)
set_option maxRecDepth 20000 in
theorem gX2_roundsByTrying_J6_bitCount_0f7a4 : GoodIn wsX2_roundsByTrying (va_wsS RX2 116 yJ6_bitCount_0f7a4 wsJ6_bitCount_0f7a4) := goodIn_app (goodIn_of _ (by decide +kernel)) ggX2_roundsByTrying_J6_bitCount_0f7a4
theorem dX2_roundsByTrying_0 : decode cX2_roundsByTrying 0 = .ok (.iconst 0, 1) := by decide +kernel
theorem dX2_roundsByTrying_1 : decode cX2_roundsByTrying 1 = .ok (.istore_n 1, 1) := by decide +kernel
theorem dX2_roundsByTrying_2 : decode cX2_roundsByTrying 2 = .ok (.iconst 0, 1) := by decide +kernel
theorem dX2_roundsByTrying_3 : decode cX2_roundsByTrying 3 = .ok (.istore_n 2, 1) := by decide +kernel
theorem dX2_roundsByTrying_4 : decode cX2_roundsByTrying 4 = .ok (.iload_n 2, 1) := by decide +kernel
theorem dX2_roundsByTrying_5 : decode cX2_roundsByTrying 5 = .ok (.bipush 9, 2) := by decide +kernel
theorem dX2_roundsByTrying_7 : decode cX2_roundsByTrying 7 = .ok (.if_icmp .ge 45, 3) := by decide +kernel
theorem dX2_roundsByTrying_10 : decode cX2_roundsByTrying 10 = .ok (.iload_n 2, 1) := by decide +kernel
theorem dX2_roundsByTrying_11 : decode cX2_roundsByTrying 11 = .ok (.iconst 1, 1) := by decide +kernel
theorem dX2_roundsByTrying_12 : decode cX2_roundsByTrying 12 = .ok (.iadd, 1) := by decide +kernel
theorem dX2_roundsByTrying_13 : decode cX2_roundsByTrying 13 = .ok (.istore_n 3, 1) := by decide +kernel
theorem dX2_roundsByTrying_14 : decode cX2_roundsByTrying 14 = .ok (.iload_n 3, 1) := by decide +kernel
theorem dX2_roundsByTrying_15 : decode cX2_roundsByTrying 15 = .ok (.bipush 9, 2) := by decide +kernel
theorem dX2_roundsByTrying_17 : decode cX2_roundsByTrying 17 = .ok (.if_icmp .ge 29, 3) := by decide +kernel
theorem dX2_roundsByTrying_20 : decode cX2_roundsByTrying 20 = .ok (.aload_n 0, 1) := by decide +kernel
theorem dX2_roundsByTrying_21 : decode cX2_roundsByTrying 21 = .ok (.iload_n 2, 1) := by decide +kernel
theorem dX2_roundsByTrying_22 : decode cX2_roundsByTrying 22 = .ok (.iload_n 3, 1) := by decide +kernel
theorem dX2_roundsByTrying_23 : decode cX2_roundsByTrying 23 = .ok (.invokevirtual 110, 3) := by decide +kernel
theorem dX2_roundsByTrying_26 : decode cX2_roundsByTrying 26 = .ok (.ifCond .eq 14, 3) := by decide +kernel
theorem dX2_roundsByTrying_29 : decode cX2_roundsByTrying 29 = .ok (.iload_n 1, 1) := by decide +kernel
theorem dX2_roundsByTrying_30 : decode cX2_roundsByTrying 30 = .ok (.iconst 1, 1) := by decide +kernel
theorem dX2_roundsByTrying_31 : decode cX2_roundsByTrying 31 = .ok (.iload_n 2, 1) := by decide +kernel
theorem dX2_roundsByTrying_32 : decode cX2_roundsByTrying 32 = .ok (.iload_n 3, 1) := by decide +kernel
theorem dX2_roundsByTrying_33 : decode cX2_roundsByTrying 33 = .ok (.iadd, 1) := by decide +kernel
theorem dX2_roundsByTrying_34 : decode cX2_roundsByTrying 34 = .ok (.invokestatic 93, 3) := by decide +kernel
theorem dX2_roundsByTrying_37 : decode cX2_roundsByTrying 37 = .ok (.ishl, 1) := by decide +kernel
theorem dX2_roundsByTrying_38 : decode cX2_roundsByTrying 38 = .ok (.ior, 1) := by decide +kernel
theorem dX2_roundsByTrying_39 : decode cX2_roundsByTrying 39 = .ok (.istore_n 1, 1) := by decide +kernel
theorem dX2_roundsByTrying_40 : decode cX2_roundsByTrying 40 = .ok (.iinc 3 1, 3) := by decide +kernel
theorem dX2_roundsByTrying_43 : decode cX2_roundsByTrying 43 = .ok (.goto (-29), 3) := by decide +kernel
theorem dX2_roundsByTrying_46 : decode cX2_roundsByTrying 46 = .ok (.iinc 2 1, 3) := by decide +kernel
theorem dX2_roundsByTrying_49 : decode cX2_roundsByTrying 49 = .ok (.goto (-45), 3) := by decide +kernel
theorem dX2_roundsByTrying_52 : decode cX2_roundsByTrying 52 = .ok (.iload_n 1, 1) := by decide +kernel
theorem dX2_roundsByTrying_53 : decode cX2_roundsByTrying 53 = .ok (.invokestatic 116, 3) := by decide +kernel
theorem dX2_roundsByTrying_56 : decode cX2_roundsByTrying 56 = .ok (.ireturn, 1) := by decide +kernel
set_option maxRecDepth 20000 in
theorem ggX2_wouldBring_X3_counterpart : GoodIn wsX2_wouldBring wsX3_counterpart := goodIn_r _ [3, 4, 5, 2, 6, 7, 8, 9, 10] (by decide +kernel) (by decide +kernel)
set_option maxRecDepth 20000 in
theorem gX2_wouldBring_X3_counterpart_n75 : GoodIn wsX2_wouldBring (wsX3_counterpart) := ggX2_wouldBring_X3_counterpart
set_option maxRecDepth 20000 in
theorem ggX2_wouldBring_X2_pairWouldBring : GoodIn wsX2_wouldBring wsX2_pairWouldBring := goodIn_r _ [15, 16, 17, 18, 19, 20, 14, 21, 22, 23, 24, 25, 26, 27, 28, 29, 30, 31, 32, 33, 34, 35, 36, 37, 38, 39, 40, 2, 41, 42, 43, 44, 45, 46, 47, 48, 49, 50, 51, 52, 53, 54] (by decide +kernel) (by decide +kernel)
set_option maxRecDepth 20000 in
theorem gX2_wouldBring_X2_pairWouldBring : GoodIn wsX2_wouldBring (wsV RX2 121 RX2 yX2_pairWouldBring wsX2_pairWouldBring) := goodIn_app (goodIn_of _ (by decide +kernel)) ggX2_wouldBring_X2_pairWouldBring
theorem dX2_wouldBring_0 : decode cX2_wouldBring 0 = .ok (.iconst 0, 1) := by decide +kernel
theorem dX2_wouldBring_1 : decode cX2_wouldBring 1 = .ok (.istore_n 3, 1) := by decide +kernel
theorem dX2_wouldBring_2 : decode cX2_wouldBring 2 = .ok (.iconst 0, 1) := by decide +kernel
theorem dX2_wouldBring_3 : decode cX2_wouldBring 3 = .ok (.istore 4, 2) := by decide +kernel
theorem dX2_wouldBring_5 : decode cX2_wouldBring 5 = .ok (.iload 4, 2) := by decide +kernel
theorem dX2_wouldBring_7 : decode cX2_wouldBring 7 = .ok (.bipush 9, 2) := by decide +kernel
theorem dX2_wouldBring_9 : decode cX2_wouldBring 9 = .ok (.if_icmp .ge 36, 3) := by decide +kernel
theorem dX2_wouldBring_12 : decode cX2_wouldBring 12 = .ok (.iload 4, 2) := by decide +kernel
theorem dX2_wouldBring_14 : decode cX2_wouldBring 14 = .ok (.iload_n 1, 1) := by decide +kernel
theorem dX2_wouldBring_15 : decode cX2_wouldBring 15 = .ok (.invokestatic 75, 3) := by decide +kernel
theorem dX2_wouldBring_18 : decode cX2_wouldBring 18 = .ok (.istore 5, 2) := by decide +kernel
theorem dX2_wouldBring_20 : decode cX2_wouldBring 20 = .ok (.iload 4, 2) := by decide +kernel
theorem dX2_wouldBring_22 : decode cX2_wouldBring 22 = .ok (.iload 5, 2) := by decide +kernel
theorem dX2_wouldBring_24 : decode cX2_wouldBring 24 = .ok (.if_icmp .ge 15, 3) := by decide +kernel
theorem dX2_wouldBring_27 : decode cX2_wouldBring 27 = .ok (.iload_n 3, 1) := by decide +kernel
theorem dX2_wouldBring_28 : decode cX2_wouldBring 28 = .ok (.aload_n 0, 1) := by decide +kernel
theorem dX2_wouldBring_29 : decode cX2_wouldBring 29 = .ok (.iload 4, 2) := by decide +kernel
theorem dX2_wouldBring_31 : decode cX2_wouldBring 31 = .ok (.iload 5, 2) := by decide +kernel
theorem dX2_wouldBring_33 : decode cX2_wouldBring 33 = .ok (.iload_n 2, 1) := by decide +kernel
theorem dX2_wouldBring_34 : decode cX2_wouldBring 34 = .ok (.invokevirtual 121, 3) := by decide +kernel
theorem dX2_wouldBring_37 : decode cX2_wouldBring 37 = .ok (.iadd, 1) := by decide +kernel
theorem dX2_wouldBring_38 : decode cX2_wouldBring 38 = .ok (.istore_n 3, 1) := by decide +kernel
theorem dX2_wouldBring_39 : decode cX2_wouldBring 39 = .ok (.iinc 4 1, 3) := by decide +kernel
theorem dX2_wouldBring_42 : decode cX2_wouldBring 42 = .ok (.goto (-37), 3) := by decide +kernel
theorem dX2_wouldBring_45 : decode cX2_wouldBring 45 = .ok (.iload_n 3, 1) := by decide +kernel
theorem dX2_wouldBring_46 : decode cX2_wouldBring 46 = .ok (.ireturn, 1) := by decide +kernel
set_option maxRecDepth 20000 in
theorem ggX2_pairWouldBring_X2_wouldDance : GoodIn wsX2_pairWouldBring wsX2_wouldDance := goodIn_r _ [7, 8, 9, 10, 11, 12, 6, 13, 1, 29, 30, 31, 32, 33, 34, 35, 36, 37, 38, 39, 40, 41] (by decide +kernel) (by decide +kernel)
set_option maxRecDepth 20000 in
theorem gX2_pairWouldBring_X2_wouldDance : GoodIn wsX2_pairWouldBring (wsV RX2 82 RX2 yX2_wouldDance wsX2_wouldDance) := goodIn_app (goodIn_of _ (by decide +kernel)) ggX2_pairWouldBring_X2_wouldDance
set_option maxRecDepth 20000 in
theorem ggX2_pairWouldBring_J6_bitCount_0f7a4 : GoodIn wsX2_pairWouldBring wsJ6_bitCount_0f7a4 := goodIn_r _ [17, 18, 19, 20] (by decide +kernel) (by decide +kernel)
set_option maxRecDepth 20000 in
theorem gX2_pairWouldBring_J6_bitCount_0f7a4 : GoodIn wsX2_pairWouldBring (va_wsS RX2 116 yJ6_bitCount_0f7a4 wsJ6_bitCount_0f7a4) := goodIn_app (goodIn_of _ (by decide +kernel)) ggX2_pairWouldBring_J6_bitCount_0f7a4
set_option maxRecDepth 20000 in
theorem ggX2_pairWouldBring_X2_joyOfEach : GoodIn wsX2_pairWouldBring wsX2_joyOfEach := goodIn_r _ [24, 9, 25, 26, 27, 28, 29, 30, 31, 32, 33, 34, 35, 36, 37, 38, 39, 40, 41] (by decide +kernel) (by decide +kernel)
set_option maxRecDepth 20000 in
theorem gX2_pairWouldBring_X2_joyOfEach : GoodIn wsX2_pairWouldBring (wsV RX2 101 RX2 yX2_joyOfEach wsX2_joyOfEach) := goodIn_app (goodIn_of _ (by decide +kernel)) ggX2_pairWouldBring_X2_joyOfEach
set_option maxRecDepth 20000 in
theorem ggX2_pairWouldBring_X3_pairIndex : GoodIn wsX2_pairWouldBring wsX3_pairIndex := goodIn_r _ [28] (by decide +kernel) (by decide +kernel)
set_option maxRecDepth 20000 in
theorem gX2_pairWouldBring_X3_pairIndex_n107 : GoodIn wsX2_pairWouldBring (wsX3_pairIndex) := ggX2_pairWouldBring_X3_pairIndex
theorem dX2_pairWouldBring_0 : decode cX2_pairWouldBring 0 = .ok (.aload_n 0, 1) := by decide +kernel
theorem dX2_pairWouldBring_1 : decode cX2_pairWouldBring 1 = .ok (.iload_n 1, 1) := by decide +kernel
theorem dX2_pairWouldBring_2 : decode cX2_pairWouldBring 2 = .ok (.iload_n 2, 1) := by decide +kernel
theorem dX2_pairWouldBring_3 : decode cX2_pairWouldBring 3 = .ok (.invokevirtual 82, 3) := by decide +kernel
theorem dX2_pairWouldBring_6 : decode cX2_pairWouldBring 6 = .ok (.istore 4, 2) := by decide +kernel
theorem dX2_pairWouldBring_8 : decode cX2_pairWouldBring 8 = .ok (.iload_n 3, 1) := by decide +kernel
theorem dX2_pairWouldBring_9 : decode cX2_pairWouldBring 9 = .ok (.iconst 2, 1) := by decide +kernel
theorem dX2_pairWouldBring_10 : decode cX2_pairWouldBring 10 = .ok (.if_icmp .ne 28, 3) := by decide +kernel
theorem dX2_pairWouldBring_13 : decode cX2_pairWouldBring 13 = .ok (.iload 4, 2) := by decide +kernel
theorem dX2_pairWouldBring_15 : decode cX2_pairWouldBring 15 = .ok (.ifCond .eq 7, 3) := by decide +kernel
theorem dX2_pairWouldBring_18 : decode cX2_pairWouldBring 18 = .ok (.iconst 0, 1) := by decide +kernel
theorem dX2_pairWouldBring_19 : decode cX2_pairWouldBring 19 = .ok (.goto 18, 3) := by decide +kernel
theorem dX2_pairWouldBring_22 : decode cX2_pairWouldBring 22 = .ok (.aload_n 0, 1) := by decide +kernel
theorem dX2_pairWouldBring_23 : decode cX2_pairWouldBring 23 = .ok (.getfield 15, 3) := by decide +kernel
theorem dX2_pairWouldBring_26 : decode cX2_pairWouldBring 26 = .ok (.iconst 1, 1) := by decide +kernel
theorem dX2_pairWouldBring_27 : decode cX2_pairWouldBring 27 = .ok (.iload_n 1, 1) := by decide +kernel
theorem dX2_pairWouldBring_28 : decode cX2_pairWouldBring 28 = .ok (.ishl, 1) := by decide +kernel
theorem dX2_pairWouldBring_29 : decode cX2_pairWouldBring 29 = .ok (.iconst 1, 1) := by decide +kernel
theorem dX2_pairWouldBring_30 : decode cX2_pairWouldBring 30 = .ok (.iload_n 2, 1) := by decide +kernel
theorem dX2_pairWouldBring_31 : decode cX2_pairWouldBring 31 = .ok (.ishl, 1) := by decide +kernel
theorem dX2_pairWouldBring_32 : decode cX2_pairWouldBring 32 = .ok (.ior, 1) := by decide +kernel
theorem dX2_pairWouldBring_33 : decode cX2_pairWouldBring 33 = .ok (.iand, 1) := by decide +kernel
theorem dX2_pairWouldBring_34 : decode cX2_pairWouldBring 34 = .ok (.invokestatic 116, 3) := by decide +kernel
theorem dX2_pairWouldBring_37 : decode cX2_pairWouldBring 37 = .ok (.ireturn, 1) := by decide +kernel
theorem dX2_pairWouldBring_38 : decode cX2_pairWouldBring 38 = .ok (.iload 4, 2) := by decide +kernel
theorem dX2_pairWouldBring_40 : decode cX2_pairWouldBring 40 = .ok (.ifCond .ne 5, 3) := by decide +kernel
theorem dX2_pairWouldBring_43 : decode cX2_pairWouldBring 43 = .ok (.iconst 0, 1) := by decide +kernel
theorem dX2_pairWouldBring_44 : decode cX2_pairWouldBring 44 = .ok (.ireturn, 1) := by decide +kernel
theorem dX2_pairWouldBring_45 : decode cX2_pairWouldBring 45 = .ok (.iload_n 3, 1) := by decide +kernel
theorem dX2_pairWouldBring_46 : decode cX2_pairWouldBring 46 = .ok (.iconst 1, 1) := by decide +kernel
theorem dX2_pairWouldBring_47 : decode cX2_pairWouldBring 47 = .ok (.if_icmp .ne 12, 3) := by decide +kernel
theorem dX2_pairWouldBring_50 : decode cX2_pairWouldBring 50 = .ok (.iconst 2, 1) := by decide +kernel
theorem dX2_pairWouldBring_51 : decode cX2_pairWouldBring 51 = .ok (.aload_n 0, 1) := by decide +kernel
theorem dX2_pairWouldBring_52 : decode cX2_pairWouldBring 52 = .ok (.iload_n 1, 1) := by decide +kernel
theorem dX2_pairWouldBring_53 : decode cX2_pairWouldBring 53 = .ok (.iload_n 2, 1) := by decide +kernel
theorem dX2_pairWouldBring_54 : decode cX2_pairWouldBring 54 = .ok (.invokevirtual 101, 3) := by decide +kernel
theorem dX2_pairWouldBring_57 : decode cX2_pairWouldBring 57 = .ok (.imul, 1) := by decide +kernel
theorem dX2_pairWouldBring_58 : decode cX2_pairWouldBring 58 = .ok (.ireturn, 1) := by decide +kernel
theorem dX2_pairWouldBring_59 : decode cX2_pairWouldBring 59 = .ok (.iload_n 3, 1) := by decide +kernel
theorem dX2_pairWouldBring_60 : decode cX2_pairWouldBring 60 = .ok (.iconst 3, 1) := by decide +kernel
theorem dX2_pairWouldBring_61 : decode cX2_pairWouldBring 61 = .ok (.if_icmp .ne 22, 3) := by decide +kernel
theorem dX2_pairWouldBring_64 : decode cX2_pairWouldBring 64 = .ok (.aload_n 0, 1) := by decide +kernel
theorem dX2_pairWouldBring_65 : decode cX2_pairWouldBring 65 = .ok (.getfield 37, 3) := by decide +kernel
theorem dX2_pairWouldBring_68 : decode cX2_pairWouldBring 68 = .ok (.iload_n 1, 1) := by decide +kernel
theorem dX2_pairWouldBring_69 : decode cX2_pairWouldBring 69 = .ok (.iload_n 2, 1) := by decide +kernel
theorem dX2_pairWouldBring_70 : decode cX2_pairWouldBring 70 = .ok (.invokestatic 107, 3) := by decide +kernel
theorem dX2_pairWouldBring_73 : decode cX2_pairWouldBring 73 = .ok (.iaload, 1) := by decide +kernel
theorem dX2_pairWouldBring_74 : decode cX2_pairWouldBring 74 = .ok (.ifCond .ne 7, 3) := by decide +kernel
theorem dX2_pairWouldBring_77 : decode cX2_pairWouldBring 77 = .ok (.iconst 1, 1) := by decide +kernel
theorem dX2_pairWouldBring_78 : decode cX2_pairWouldBring 78 = .ok (.goto 4, 3) := by decide +kernel
theorem dX2_pairWouldBring_81 : decode cX2_pairWouldBring 81 = .ok (.iconst 0, 1) := by decide +kernel
theorem dX2_pairWouldBring_82 : decode cX2_pairWouldBring 82 = .ok (.ireturn, 1) := by decide +kernel
theorem dX2_pairWouldBring_83 : decode cX2_pairWouldBring 83 = .ok (.iconst 1, 1) := by decide +kernel
theorem dX2_pairWouldBring_84 : decode cX2_pairWouldBring 84 = .ok (.ireturn, 1) := by decide +kernel
set_option maxRecDepth 20000 in
theorem ggX3_init_X2_init : GoodIn wsX3_init wsX2_init := goodIn_r _ [20, 21, 2, 3, 22, 23, 24, 25, 26, 27, 28, 29, 30, 31, 32, 33, 34, 35, 36, 37, 38, 39, 40, 55, 56, 57, 58, 59, 60, 61, 62, 63, 64, 65, 66, 67] (by decide +kernel) (by decide +kernel)
set_option maxRecDepth 20000 in
theorem gX3_init_X2_init : GoodIn wsX3_init (wsX2_init) := ggX3_init_X2_init
set_option maxRecDepth 20000 in
theorem ggX3_init_X1_init : GoodIn wsX3_init wsX1_init := goodIn_r _ [42, 43, 2, 3, 44, 45, 46, 73, 74] (by decide +kernel) (by decide +kernel)
set_option maxRecDepth 20000 in
theorem gX3_init_X1_init_n21 : GoodIn wsX3_init (wsX1_init) := ggX3_init_X1_init
set_option maxRecDepth 20000 in
theorem ggX3_init_X0_init : GoodIn wsX3_init wsX0_init := goodIn_r _ [49, 50, 2, 3, 51, 52, 53, 5, 6, 54, 19, 20, 21, 22, 23, 24, 25, 26, 27, 28, 29, 30, 31, 32, 33, 34, 35, 36, 37, 38, 39, 40, 75, 76, 55, 56, 57, 58, 59, 60, 61, 62, 63, 64, 65, 66, 67] (by decide +kernel) (by decide +kernel)
set_option maxRecDepth 20000 in
theorem gX3_init_X0_init : GoodIn wsX3_init (wsX0_init) := ggX3_init_X0_init
theorem dX3_init_0 : decode cX3_init 0 = .ok (.aload_n 0, 1) := by decide +kernel
theorem dX3_init_1 : decode cX3_init 1 = .ok (.invokespecial 3, 3) := by decide +kernel
theorem dX3_init_4 : decode cX3_init 4 = .ok (.aload_n 0, 1) := by decide +kernel
theorem dX3_init_5 : decode cX3_init 5 = .ok (.new 9, 3) := by decide +kernel
theorem dX3_init_8 : decode cX3_init 8 = .ok (.dup, 1) := by decide +kernel
theorem dX3_init_9 : decode cX3_init 9 = .ok (.invokespecial 11, 3) := by decide +kernel
theorem dX3_init_12 : decode cX3_init 12 = .ok (.putfield 12, 3) := by decide +kernel
theorem dX3_init_15 : decode cX3_init 15 = .ok (.aload_n 0, 1) := by decide +kernel
theorem dX3_init_16 : decode cX3_init 16 = .ok (.new 9, 3) := by decide +kernel
theorem dX3_init_19 : decode cX3_init 19 = .ok (.dup, 1) := by decide +kernel
theorem dX3_init_20 : decode cX3_init 20 = .ok (.invokespecial 11, 3) := by decide +kernel
theorem dX3_init_23 : decode cX3_init 23 = .ok (.putfield 16, 3) := by decide +kernel
theorem dX3_init_26 : decode cX3_init 26 = .ok (.aload_n 0, 1) := by decide +kernel
theorem dX3_init_27 : decode cX3_init 27 = .ok (.new 19, 3) := by decide +kernel
theorem dX3_init_30 : decode cX3_init 30 = .ok (.dup, 1) := by decide +kernel
theorem dX3_init_31 : decode cX3_init 31 = .ok (.invokespecial 21, 3) := by decide +kernel
theorem dX3_init_34 : decode cX3_init 34 = .ok (.putfield 22, 3) := by decide +kernel
theorem dX3_init_37 : decode cX3_init 37 = .ok (.aload_n 0, 1) := by decide +kernel
theorem dX3_init_38 : decode cX3_init 38 = .ok (.new 26, 3) := by decide +kernel
theorem dX3_init_41 : decode cX3_init 41 = .ok (.dup, 1) := by decide +kernel
theorem dX3_init_42 : decode cX3_init 42 = .ok (.invokespecial 28, 3) := by decide +kernel
theorem dX3_init_45 : decode cX3_init 45 = .ok (.putfield 29, 3) := by decide +kernel
theorem dX3_init_48 : decode cX3_init 48 = .ok (.aload_n 0, 1) := by decide +kernel
theorem dX3_init_49 : decode cX3_init 49 = .ok (.iconst 2, 1) := by decide +kernel
theorem dX3_init_50 : decode cX3_init 50 = .ok (.anewarray 9, 3) := by decide +kernel
theorem dX3_init_53 : decode cX3_init 53 = .ok (.putfield 33, 3) := by decide +kernel
theorem dX3_init_56 : decode cX3_init 56 = .ok (.return_, 1) := by decide +kernel
set_option maxRecDepth 20000 in
theorem ggX3_set_X0_remember : GoodIn wsX3_set wsX0_remember := goodIn_r _ [9, 10, 11, 12, 13, 14, 8, 15, 16, 17, 18, 19, 20, 21, 22, 23, 24, 25, 26, 27, 28, 29, 30, 31, 32, 33, 34, 35, 36, 37, 38, 39, 40, 41, 42, 43, 44, 63, 64, 50, 51, 52, 53, 54, 55, 56, 57, 58, 59, 60, 61, 62] (by decide +kernel) (by decide +kernel)
set_option maxRecDepth 20000 in
theorem gX3_set_X0_remember : GoodIn wsX3_set (wsV RX3 38 RX0 yX0_remember wsX0_remember) := goodIn_app (goodIn_of _ (by decide +kernel)) ggX3_set_X0_remember
theorem dX3_set_0 : decode cX3_set 0 = .ok (.iload_n 1, 1) := by decide +kernel
theorem dX3_set_1 : decode cX3_set 1 = .ok (.ifCond .lt 8, 3) := by decide +kernel
theorem dX3_set_4 : decode cX3_set 4 = .ok (.iload_n 1, 1) := by decide +kernel
theorem dX3_set_5 : decode cX3_set 5 = .ok (.iconst 3, 1) := by decide +kernel
theorem dX3_set_6 : decode cX3_set 6 = .ok (.if_icmp .lt 6, 3) := by decide +kernel
theorem dX3_set_9 : decode cX3_set 9 = .ok (.ldc 37, 2) := by decide +kernel
theorem dX3_set_11 : decode cX3_set 11 = .ok (.ireturn, 1) := by decide +kernel
theorem dX3_set_12 : decode cX3_set 12 = .ok (.iload_n 1, 1) := by decide +kernel
theorem dX3_set_13 : decode cX3_set 13 = .ok (.iconst 2, 1) := by decide +kernel
theorem dX3_set_14 : decode cX3_set 14 = .ok (.if_icmp .ne 8, 3) := by decide +kernel
theorem dX3_set_17 : decode cX3_set 17 = .ok (.bipush (-9), 2) := by decide +kernel
theorem dX3_set_19 : decode cX3_set 19 = .ok (.goto 4, 3) := by decide +kernel
theorem dX3_set_22 : decode cX3_set 22 = .ok (.iconst 0, 1) := by decide +kernel
theorem dX3_set_23 : decode cX3_set 23 = .ok (.istore_n 3, 1) := by decide +kernel
theorem dX3_set_24 : decode cX3_set 24 = .ok (.iload_n 2, 1) := by decide +kernel
theorem dX3_set_25 : decode cX3_set 25 = .ok (.iload_n 3, 1) := by decide +kernel
theorem dX3_set_26 : decode cX3_set 26 = .ok (.if_icmp .lt 9, 3) := by decide +kernel
theorem dX3_set_29 : decode cX3_set 29 = .ok (.iload_n 2, 1) := by decide +kernel
theorem dX3_set_30 : decode cX3_set 30 = .ok (.bipush 9, 2) := by decide +kernel
theorem dX3_set_32 : decode cX3_set 32 = .ok (.if_icmp .le 6, 3) := by decide +kernel
theorem dX3_set_35 : decode cX3_set 35 = .ok (.ldc 37, 2) := by decide +kernel
theorem dX3_set_37 : decode cX3_set 37 = .ok (.ireturn, 1) := by decide +kernel
theorem dX3_set_38 : decode cX3_set 38 = .ok (.aload_n 0, 1) := by decide +kernel
theorem dX3_set_39 : decode cX3_set 39 = .ok (.getfield 29, 3) := by decide +kernel
theorem dX3_set_42 : decode cX3_set 42 = .ok (.aload_n 0, 1) := by decide +kernel
theorem dX3_set_43 : decode cX3_set 43 = .ok (.getfield 12, 3) := by decide +kernel
theorem dX3_set_46 : decode cX3_set 46 = .ok (.invokevirtual 38, 3) := by decide +kernel
theorem dX3_set_49 : decode cX3_set 49 = .ok (.aload_n 0, 1) := by decide +kernel
theorem dX3_set_50 : decode cX3_set 50 = .ok (.getfield 12, 3) := by decide +kernel
theorem dX3_set_53 : decode cX3_set 53 = .ok (.getfield 42, 3) := by decide +kernel
theorem dX3_set_56 : decode cX3_set 56 = .ok (.iload_n 1, 1) := by decide +kernel
theorem dX3_set_57 : decode cX3_set 57 = .ok (.iaload, 1) := by decide +kernel
theorem dX3_set_58 : decode cX3_set 58 = .ok (.istore 4, 2) := by decide +kernel
theorem dX3_set_60 : decode cX3_set 60 = .ok (.aload_n 0, 1) := by decide +kernel
theorem dX3_set_61 : decode cX3_set 61 = .ok (.getfield 12, 3) := by decide +kernel
theorem dX3_set_64 : decode cX3_set 64 = .ok (.getfield 42, 3) := by decide +kernel
theorem dX3_set_67 : decode cX3_set 67 = .ok (.iload_n 1, 1) := by decide +kernel
theorem dX3_set_68 : decode cX3_set 68 = .ok (.iload_n 2, 1) := by decide +kernel
theorem dX3_set_69 : decode cX3_set 69 = .ok (.iastore, 1) := by decide +kernel
theorem dX3_set_70 : decode cX3_set 70 = .ok (.iload 4, 2) := by decide +kernel
theorem dX3_set_72 : decode cX3_set 72 = .ok (.ireturn, 1) := by decide +kernel
set_option maxRecDepth 20000 in
theorem ggX3_like_X3_isVillager : GoodIn wsX3_like wsX3_isVillager := goodIn_r _ [9] (by decide +kernel) (by decide +kernel)
set_option maxRecDepth 20000 in
theorem gX3_like_X3_isVillager : GoodIn wsX3_like (va_wsS RX3 46 yX3_isVillager wsX3_isVillager) := goodIn_app (goodIn_of _ (by decide +kernel)) ggX3_like_X3_isVillager
set_option maxRecDepth 20000 in
theorem ggX3_like_X0_remember : GoodIn wsX3_like wsX0_remember := goodIn_r _ [14, 15, 16, 17, 18, 19, 13, 20, 21, 22, 23, 24, 25, 26, 27, 28, 29, 30, 31, 32, 33, 34, 35, 36, 37, 38, 39, 40, 41, 42, 43, 44, 45, 46, 47, 48, 49, 71, 72, 58, 59, 60, 61, 62, 63, 64, 65, 66, 67, 68, 69, 70] (by decide +kernel) (by decide +kernel)
set_option maxRecDepth 20000 in
theorem gX3_like_X0_remember : GoodIn wsX3_like (wsV RX3 38 RX0 yX0_remember wsX0_remember) := goodIn_app (goodIn_of _ (by decide +kernel)) ggX3_like_X0_remember
set_option maxRecDepth 20000 in
theorem ggX3_like_X3_pairIndex : GoodIn wsX3_like wsX3_pairIndex := goodIn_r _ [52] (by decide +kernel) (by decide +kernel)
set_option maxRecDepth 20000 in
theorem gX3_like_X3_pairIndex : GoodIn wsX3_like (va_wsS RX3 51 yX3_pairIndex wsX3_pairIndex) := goodIn_app (goodIn_of _ (by decide +kernel)) ggX3_like_X3_pairIndex
theorem dX3_like_0 : decode cX3_like 0 = .ok (.iload_n 1, 1) := by decide +kernel
theorem dX3_like_1 : decode cX3_like 1 = .ok (.invokestatic 46, 3) := by decide +kernel
theorem dX3_like_4 : decode cX3_like 4 = .ok (.ifCond .eq 10, 3) := by decide +kernel
theorem dX3_like_7 : decode cX3_like 7 = .ok (.iload_n 2, 1) := by decide +kernel
theorem dX3_like_8 : decode cX3_like 8 = .ok (.invokestatic 46, 3) := by decide +kernel
theorem dX3_like_11 : decode cX3_like 11 = .ok (.ifCond .ne 6, 3) := by decide +kernel
theorem dX3_like_14 : decode cX3_like 14 = .ok (.ldc 50, 2) := by decide +kernel
theorem dX3_like_16 : decode cX3_like 16 = .ok (.ireturn, 1) := by decide +kernel
theorem dX3_like_17 : decode cX3_like 17 = .ok (.iload_n 1, 1) := by decide +kernel
theorem dX3_like_18 : decode cX3_like 18 = .ok (.iload_n 2, 1) := by decide +kernel
theorem dX3_like_19 : decode cX3_like 19 = .ok (.if_icmp .eq 15, 3) := by decide +kernel
theorem dX3_like_22 : decode cX3_like 22 = .ok (.iload_n 3, 1) := by decide +kernel
theorem dX3_like_23 : decode cX3_like 23 = .ok (.bipush (-9), 2) := by decide +kernel
theorem dX3_like_25 : decode cX3_like 25 = .ok (.if_icmp .lt 9, 3) := by decide +kernel
theorem dX3_like_28 : decode cX3_like 28 = .ok (.iload_n 3, 1) := by decide +kernel
theorem dX3_like_29 : decode cX3_like 29 = .ok (.bipush 9, 2) := by decide +kernel
theorem dX3_like_31 : decode cX3_like 31 = .ok (.if_icmp .le 6, 3) := by decide +kernel
theorem dX3_like_34 : decode cX3_like 34 = .ok (.ldc 37, 2) := by decide +kernel
theorem dX3_like_36 : decode cX3_like 36 = .ok (.ireturn, 1) := by decide +kernel
theorem dX3_like_37 : decode cX3_like 37 = .ok (.aload_n 0, 1) := by decide +kernel
theorem dX3_like_38 : decode cX3_like 38 = .ok (.getfield 29, 3) := by decide +kernel
theorem dX3_like_41 : decode cX3_like 41 = .ok (.aload_n 0, 1) := by decide +kernel
theorem dX3_like_42 : decode cX3_like 42 = .ok (.getfield 12, 3) := by decide +kernel
theorem dX3_like_45 : decode cX3_like 45 = .ok (.invokevirtual 38, 3) := by decide +kernel
theorem dX3_like_48 : decode cX3_like 48 = .ok (.iload_n 1, 1) := by decide +kernel
theorem dX3_like_49 : decode cX3_like 49 = .ok (.iload_n 2, 1) := by decide +kernel
theorem dX3_like_50 : decode cX3_like 50 = .ok (.invokestatic 51, 3) := by decide +kernel
theorem dX3_like_53 : decode cX3_like 53 = .ok (.istore 4, 2) := by decide +kernel
theorem dX3_like_55 : decode cX3_like 55 = .ok (.aload_n 0, 1) := by decide +kernel
theorem dX3_like_56 : decode cX3_like 56 = .ok (.getfield 12, 3) := by decide +kernel
theorem dX3_like_59 : decode cX3_like 59 = .ok (.getfield 55, 3) := by decide +kernel
theorem dX3_like_62 : decode cX3_like 62 = .ok (.iload 4, 2) := by decide +kernel
theorem dX3_like_64 : decode cX3_like 64 = .ok (.iaload, 1) := by decide +kernel
theorem dX3_like_65 : decode cX3_like 65 = .ok (.istore 5, 2) := by decide +kernel
theorem dX3_like_67 : decode cX3_like 67 = .ok (.aload_n 0, 1) := by decide +kernel
theorem dX3_like_68 : decode cX3_like 68 = .ok (.getfield 12, 3) := by decide +kernel
theorem dX3_like_71 : decode cX3_like 71 = .ok (.getfield 55, 3) := by decide +kernel
theorem dX3_like_74 : decode cX3_like 74 = .ok (.iload 4, 2) := by decide +kernel
theorem dX3_like_76 : decode cX3_like 76 = .ok (.iload_n 3, 1) := by decide +kernel
theorem dX3_like_77 : decode cX3_like 77 = .ok (.iastore, 1) := by decide +kernel
theorem dX3_like_78 : decode cX3_like 78 = .ok (.iload 5, 2) := by decide +kernel
theorem dX3_like_80 : decode cX3_like 80 = .ok (.ireturn, 1) := by decide +kernel
set_option maxRecDepth 20000 in
theorem ggX3_away_X3_isVillager : GoodIn wsX3_away wsX3_isVillager := goodIn_r _ [9] (by decide +kernel) (by decide +kernel)
set_option maxRecDepth 20000 in
theorem gX3_away_X3_isVillager : GoodIn wsX3_away (va_wsS RX3 46 yX3_isVillager wsX3_isVillager) := goodIn_app (goodIn_of _ (by decide +kernel)) ggX3_away_X3_isVillager
set_option maxRecDepth 20000 in
theorem ggX3_away_X2_isThere : GoodIn wsX3_away wsX2_isThere := goodIn_r _ [14, 15, 66, 67, 68, 69, 70, 71, 72, 73, 74, 75, 76, 77, 78] (by decide +kernel) (by decide +kernel)
set_option maxRecDepth 20000 in
theorem gX3_away_X2_isThere : GoodIn wsX3_away (wsV RX3 58 RX2 yX2_isThere wsX2_isThere) := goodIn_app (goodIn_of _ (by decide +kernel)) ggX3_away_X2_isThere
set_option maxRecDepth 20000 in
theorem ggX3_away_X0_remember : GoodIn wsX3_away wsX0_remember := goodIn_r _ [20, 21, 22, 23, 24, 25, 19, 26, 27, 28, 29, 13, 30, 31, 15, 32, 33, 34, 35, 36, 37, 38, 39, 40, 41, 42, 43, 44, 45, 46, 47, 48, 49, 50, 51, 52, 53, 79, 80, 66, 67, 68, 69, 70, 71, 72, 73, 74, 75, 76, 77, 78] (by decide +kernel) (by decide +kernel)
set_option maxRecDepth 20000 in
theorem gX3_away_X0_remember : GoodIn wsX3_away (wsV RX3 38 RX0 yX0_remember wsX0_remember) := goodIn_app (goodIn_of _ (by decide +kernel)) ggX3_away_X0_remember
set_option maxRecDepth 20000 in
theorem ggX3_away_J6_bitCount_0f7a4 : GoodIn wsX3_away wsJ6_bitCount_0f7a4 := goodIn_r _ [57, 58, 59, 60] (by decide +kernel) (by decide +kernel)
set_option maxRecDepth 20000 in
theorem gX3_away_J6_bitCount_0f7a4 : GoodIn wsX3_away (va_wsS RX3 66 yJ6_bitCount_0f7a4 wsJ6_bitCount_0f7a4) := goodIn_app (goodIn_of _ (by decide +kernel)) ggX3_away_J6_bitCount_0f7a4
theorem dX3_away_0 : decode cX3_away 0 = .ok (.iload_n 1, 1) := by decide +kernel
theorem dX3_away_1 : decode cX3_away 1 = .ok (.invokestatic 46, 3) := by decide +kernel
theorem dX3_away_4 : decode cX3_away 4 = .ok (.ifCond .ne 6, 3) := by decide +kernel
theorem dX3_away_7 : decode cX3_away 7 = .ok (.ldc 50, 2) := by decide +kernel
theorem dX3_away_9 : decode cX3_away 9 = .ok (.ireturn, 1) := by decide +kernel
theorem dX3_away_10 : decode cX3_away 10 = .ok (.aload_n 0, 1) := by decide +kernel
theorem dX3_away_11 : decode cX3_away 11 = .ok (.getfield 12, 3) := by decide +kernel
theorem dX3_away_14 : decode cX3_away 14 = .ok (.iload_n 1, 1) := by decide +kernel
theorem dX3_away_15 : decode cX3_away 15 = .ok (.invokevirtual 58, 3) := by decide +kernel
theorem dX3_away_18 : decode cX3_away 18 = .ok (.iload_n 2, 1) := by decide +kernel
theorem dX3_away_19 : decode cX3_away 19 = .ok (.if_icmp .eq 6, 3) := by decide +kernel
theorem dX3_away_22 : decode cX3_away 22 = .ok (.ldc 61, 2) := by decide +kernel
theorem dX3_away_24 : decode cX3_away 24 = .ok (.ireturn, 1) := by decide +kernel
theorem dX3_away_25 : decode cX3_away 25 = .ok (.aload_n 0, 1) := by decide +kernel
theorem dX3_away_26 : decode cX3_away 26 = .ok (.getfield 29, 3) := by decide +kernel
theorem dX3_away_29 : decode cX3_away 29 = .ok (.aload_n 0, 1) := by decide +kernel
theorem dX3_away_30 : decode cX3_away 30 = .ok (.getfield 12, 3) := by decide +kernel
theorem dX3_away_33 : decode cX3_away 33 = .ok (.invokevirtual 38, 3) := by decide +kernel
theorem dX3_away_36 : decode cX3_away 36 = .ok (.aload_n 0, 1) := by decide +kernel
theorem dX3_away_37 : decode cX3_away 37 = .ok (.getfield 12, 3) := by decide +kernel
theorem dX3_away_40 : decode cX3_away 40 = .ok (.dup, 1) := by decide +kernel
theorem dX3_away_41 : decode cX3_away 41 = .ok (.getfield 62, 3) := by decide +kernel
theorem dX3_away_44 : decode cX3_away 44 = .ok (.iconst 1, 1) := by decide +kernel
theorem dX3_away_45 : decode cX3_away 45 = .ok (.iload_n 1, 1) := by decide +kernel
theorem dX3_away_46 : decode cX3_away 46 = .ok (.ishl, 1) := by decide +kernel
theorem dX3_away_47 : decode cX3_away 47 = .ok (.ixor, 1) := by decide +kernel
theorem dX3_away_48 : decode cX3_away 48 = .ok (.putfield 62, 3) := by decide +kernel
theorem dX3_away_51 : decode cX3_away 51 = .ok (.aload_n 0, 1) := by decide +kernel
theorem dX3_away_52 : decode cX3_away 52 = .ok (.getfield 12, 3) := by decide +kernel
theorem dX3_away_55 : decode cX3_away 55 = .ok (.getfield 62, 3) := by decide +kernel
theorem dX3_away_58 : decode cX3_away 58 = .ok (.invokestatic 66, 3) := by decide +kernel
theorem dX3_away_61 : decode cX3_away 61 = .ok (.ireturn, 1) := by decide +kernel
set_option maxRecDepth 20000 in
theorem ggX3_call_X3_isNumber : GoodIn wsX3_call wsX3_isNumber := goodIn_r _ [9] (by decide +kernel) (by decide +kernel)
set_option maxRecDepth 20000 in
theorem gX3_call_X3_isNumber : GoodIn wsX3_call (va_wsS RX3 72 yX3_isNumber wsX3_isNumber) := goodIn_app (goodIn_of _ (by decide +kernel)) ggX3_call_X3_isNumber
set_option maxRecDepth 20000 in
theorem ggX3_call_X0_remember : GoodIn wsX3_call wsX0_remember := goodIn_r _ [14, 15, 16, 17, 18, 19, 13, 20, 21, 22, 23, 24, 25, 26, 27, 28, 29, 30, 31, 32, 33, 34, 35, 36, 37, 38, 39, 40, 41, 42, 43, 44, 45, 46, 47, 48, 49, 111, 112, 98, 99, 100, 101, 102, 103, 104, 105, 106, 107, 108, 109, 110] (by decide +kernel) (by decide +kernel)
set_option maxRecDepth 20000 in
theorem gX3_call_X0_remember : GoodIn wsX3_call (wsV RX3 38 RX0 yX0_remember wsX0_remember) := goodIn_app (goodIn_of _ (by decide +kernel)) ggX3_call_X0_remember
set_option maxRecDepth 20000 in
theorem ggX3_call_X2_danceRound : GoodIn wsX3_call wsX2_danceRound := goodIn_r _ [53, 36, 38, 37, 54, 8, 55, 56, 57, 58, 59, 60, 61, 62, 63, 64, 65, 24, 66, 31, 28, 26, 42, 43, 44, 45, 67, 68, 69, 70, 27, 71, 72, 73, 74, 75, 76, 77, 78, 34, 35, 79, 80, 81, 82, 33, 83, 84, 85, 86, 87, 88, 29, 30, 89, 90, 91, 92, 32, 98, 99, 100, 101, 102, 103, 104, 105, 106, 107, 108, 109, 110] (by decide +kernel) (by decide +kernel)
set_option maxRecDepth 20000 in
theorem gX3_call_X2_danceRound : GoodIn wsX3_call (wsV RX3 79 RX2 yX2_danceRound wsX2_danceRound) := goodIn_app (goodIn_of _ (by decide +kernel)) ggX3_call_X2_danceRound
theorem dX3_call_0 : decode cX3_call 0 = .ok (.iload_n 1, 1) := by decide +kernel
theorem dX3_call_1 : decode cX3_call 1 = .ok (.invokestatic 72, 3) := by decide +kernel
theorem dX3_call_4 : decode cX3_call 4 = .ok (.ifCond .ne 6, 3) := by decide +kernel
theorem dX3_call_7 : decode cX3_call 7 = .ok (.ldc 37, 2) := by decide +kernel
theorem dX3_call_9 : decode cX3_call 9 = .ok (.ireturn, 1) := by decide +kernel
theorem dX3_call_10 : decode cX3_call 10 = .ok (.aload_n 0, 1) := by decide +kernel
theorem dX3_call_11 : decode cX3_call 11 = .ok (.getfield 12, 3) := by decide +kernel
theorem dX3_call_14 : decode cX3_call 14 = .ok (.getfield 75, 3) := by decide +kernel
theorem dX3_call_17 : decode cX3_call 17 = .ok (.sipush 9999, 3) := by decide +kernel
theorem dX3_call_20 : decode cX3_call 20 = .ok (.if_icmp .lt 6, 3) := by decide +kernel
theorem dX3_call_23 : decode cX3_call 23 = .ok (.ldc 78, 2) := by decide +kernel
theorem dX3_call_25 : decode cX3_call 25 = .ok (.ireturn, 1) := by decide +kernel
theorem dX3_call_26 : decode cX3_call 26 = .ok (.aload_n 0, 1) := by decide +kernel
theorem dX3_call_27 : decode cX3_call 27 = .ok (.getfield 29, 3) := by decide +kernel
theorem dX3_call_30 : decode cX3_call 30 = .ok (.aload_n 0, 1) := by decide +kernel
theorem dX3_call_31 : decode cX3_call 31 = .ok (.getfield 12, 3) := by decide +kernel
theorem dX3_call_34 : decode cX3_call 34 = .ok (.invokevirtual 38, 3) := by decide +kernel
theorem dX3_call_37 : decode cX3_call 37 = .ok (.aload_n 0, 1) := by decide +kernel
theorem dX3_call_38 : decode cX3_call 38 = .ok (.getfield 12, 3) := by decide +kernel
theorem dX3_call_41 : decode cX3_call 41 = .ok (.iload_n 1, 1) := by decide +kernel
theorem dX3_call_42 : decode cX3_call 42 = .ok (.invokevirtual 79, 3) := by decide +kernel
theorem dX3_call_45 : decode cX3_call 45 = .ok (.ireturn, 1) := by decide +kernel
set_option maxRecDepth 20000 in
theorem ggX3_read_X1_firstFault : GoodIn wsX3_read wsX1_firstFault := goodIn_r _ [12, 13, 14, 15, 16, 17, 11, 18, 19, 20, 21, 159, 160] (by decide +kernel) (by decide +kernel)
set_option maxRecDepth 20000 in
theorem gX3_read_X1_firstFault : GoodIn wsX3_read (wsV RX3 82 RX1 yX1_firstFault wsX1_firstFault) := goodIn_app (goodIn_of _ (by decide +kernel)) ggX3_read_X1_firstFault
set_option maxRecDepth 20000 in
theorem ggX3_read_X1_roundsInAll : GoodIn wsX3_read wsX1_roundsInAll := goodIn_r _ [25, 13, 26, 27, 28, 11, 29, 14, 30, 31, 32, 33, 34, 35, 36, 37, 159, 160] (by decide +kernel) (by decide +kernel)
set_option maxRecDepth 20000 in
theorem gX3_read_X1_roundsInAll : GoodIn wsX3_read (wsV RX3 88 RX1 yX1_roundsInAll wsX1_roundsInAll) := goodIn_app (goodIn_of _ (by decide +kernel)) ggX3_read_X1_roundsInAll
set_option maxRecDepth 20000 in
theorem ggX3_read_X0_remember : GoodIn wsX3_read wsX0_remember := goodIn_r _ [42, 43, 44, 45, 46, 47, 41, 48, 49, 50, 51, 52, 53, 54, 55, 56, 57, 58, 59, 60, 61, 62, 63, 64, 65, 66, 67, 68, 69, 70, 71, 72, 73, 74, 75, 76, 77, 161, 162, 146, 147, 148, 149, 150, 151, 152, 153, 154, 155, 156, 157, 158] (by decide +kernel) (by decide +kernel)
set_option maxRecDepth 20000 in
theorem gX3_read_X0_remember : GoodIn wsX3_read (wsV RX3 38 RX0 yX0_remember wsX0_remember) := goodIn_app (goodIn_of _ (by decide +kernel)) ggX3_read_X0_remember
set_option maxRecDepth 20000 in
theorem ggX3_read_X3_tellNumbersOfPad : GoodIn wsX3_read wsX3_tellNumbersOfPad := goodIn_r _ [82, 1, 83, 84, 27, 28, 11, 29, 14, 85, 86, 87, 88, 13, 34, 35, 36, 37, 16, 17, 18, 89, 31, 32, 33, 90, 91, 92, 81, 93, 4, 94, 95, 96, 52, 97, 64, 66, 65, 98, 99, 100, 101, 102, 103, 104, 105, 106, 107, 108, 109, 110, 59, 56, 54, 70, 71, 72, 73, 111, 112, 113, 114, 55, 115, 116, 117, 118, 119, 120, 121, 122, 62, 63, 123, 124, 125, 126, 61, 127, 128, 129, 130, 131, 132, 57, 58, 133, 134, 135, 136, 60, 141, 142, 143, 144, 145, 159, 160, 146, 147, 148, 149, 150, 151, 152, 153, 154, 155, 156, 157, 158] (by decide +kernel) (by decide +kernel)
set_option maxRecDepth 20000 in
theorem gX3_read_X3_tellNumbersOfPad : GoodIn wsX3_read (wsV RX3 91 RX3 yX3_tellNumbersOfPad wsX3_tellNumbersOfPad) := goodIn_app (goodIn_of _ (by decide +kernel)) ggX3_read_X3_tellNumbersOfPad
set_option maxRecDepth 20000 in
theorem ggX3_read_X1_empty : GoodIn wsX3_read wsX1_empty := goodIn_r _ [140, 13, 159, 160] (by decide +kernel) (by decide +kernel)
set_option maxRecDepth 20000 in
theorem gX3_read_X1_empty : GoodIn wsX3_read (wsV RX3 94 RX1 yX1_empty wsX1_empty) := goodIn_app (goodIn_of _ (by decide +kernel)) ggX3_read_X1_empty
theorem dX3_read_0 : decode cX3_read 0 = .ok (.aload_n 0, 1) := by decide +kernel
theorem dX3_read_1 : decode cX3_read 1 = .ok (.getfield 22, 3) := by decide +kernel
theorem dX3_read_4 : decode cX3_read 4 = .ok (.invokevirtual 82, 3) := by decide +kernel
theorem dX3_read_7 : decode cX3_read 7 = .ok (.ldc 86, 2) := by decide +kernel
theorem dX3_read_9 : decode cX3_read 9 = .ok (.if_icmp .eq 6, 3) := by decide +kernel
theorem dX3_read_12 : decode cX3_read 12 = .ok (.ldc 87, 2) := by decide +kernel
theorem dX3_read_14 : decode cX3_read 14 = .ok (.ireturn, 1) := by decide +kernel
theorem dX3_read_15 : decode cX3_read 15 = .ok (.aload_n 0, 1) := by decide +kernel
theorem dX3_read_16 : decode cX3_read 16 = .ok (.getfield 12, 3) := by decide +kernel
theorem dX3_read_19 : decode cX3_read 19 = .ok (.getfield 75, 3) := by decide +kernel
theorem dX3_read_22 : decode cX3_read 22 = .ok (.aload_n 0, 1) := by decide +kernel
theorem dX3_read_23 : decode cX3_read 23 = .ok (.getfield 22, 3) := by decide +kernel
theorem dX3_read_26 : decode cX3_read 26 = .ok (.invokevirtual 88, 3) := by decide +kernel
theorem dX3_read_29 : decode cX3_read 29 = .ok (.iadd, 1) := by decide +kernel
theorem dX3_read_30 : decode cX3_read 30 = .ok (.sipush 9999, 3) := by decide +kernel
theorem dX3_read_33 : decode cX3_read 33 = .ok (.if_icmp .le 6, 3) := by decide +kernel
theorem dX3_read_36 : decode cX3_read 36 = .ok (.ldc 78, 2) := by decide +kernel
theorem dX3_read_38 : decode cX3_read 38 = .ok (.ireturn, 1) := by decide +kernel
theorem dX3_read_39 : decode cX3_read 39 = .ok (.aload_n 0, 1) := by decide +kernel
theorem dX3_read_40 : decode cX3_read 40 = .ok (.getfield 29, 3) := by decide +kernel
theorem dX3_read_43 : decode cX3_read 43 = .ok (.aload_n 0, 1) := by decide +kernel
theorem dX3_read_44 : decode cX3_read 44 = .ok (.getfield 12, 3) := by decide +kernel
theorem dX3_read_47 : decode cX3_read 47 = .ok (.invokevirtual 38, 3) := by decide +kernel
theorem dX3_read_50 : decode cX3_read 50 = .ok (.aload_n 0, 1) := by decide +kernel
theorem dX3_read_51 : decode cX3_read 51 = .ok (.invokevirtual 91, 3) := by decide +kernel
theorem dX3_read_54 : decode cX3_read 54 = .ok (.istore_n 1, 1) := by decide +kernel
theorem dX3_read_55 : decode cX3_read 55 = .ok (.aload_n 0, 1) := by decide +kernel
theorem dX3_read_56 : decode cX3_read 56 = .ok (.getfield 22, 3) := by decide +kernel
theorem dX3_read_59 : decode cX3_read 59 = .ok (.invokevirtual 94, 3) := by decide +kernel
theorem dX3_read_62 : decode cX3_read 62 = .ok (.pop, 1) := by decide +kernel
theorem dX3_read_63 : decode cX3_read 63 = .ok (.iload_n 1, 1) := by decide +kernel
theorem dX3_read_64 : decode cX3_read 64 = .ok (.ireturn, 1) := by decide +kernel
set_option maxRecDepth 20000 in
theorem ggX3_feed_X3_isVillager : GoodIn wsX3_feed wsX3_isVillager := goodIn_r _ [9] (by decide +kernel) (by decide +kernel)
set_option maxRecDepth 20000 in
theorem gX3_feed_X3_isVillager : GoodIn wsX3_feed (va_wsS RX3 46 yX3_isVillager wsX3_isVillager) := goodIn_app (goodIn_of _ (by decide +kernel)) ggX3_feed_X3_isVillager
set_option maxRecDepth 20000 in
theorem ggX3_feed_X0_remember : GoodIn wsX3_feed wsX0_remember := goodIn_r _ [14, 15, 16, 17, 18, 19, 13, 20, 21, 22, 23, 24, 25, 26, 27, 28, 29, 30, 31, 32, 33, 34, 35, 36, 37, 38, 39, 40, 41, 42, 43, 44, 45, 46, 47, 48, 49, 68, 69, 55, 56, 57, 58, 59, 60, 61, 62, 63, 64, 65, 66, 67] (by decide +kernel) (by decide +kernel)
set_option maxRecDepth 20000 in
theorem gX3_feed_X0_remember : GoodIn wsX3_feed (wsV RX3 38 RX0 yX0_remember wsX0_remember) := goodIn_app (goodIn_of _ (by decide +kernel)) ggX3_feed_X0_remember
theorem dX3_feed_0 : decode cX3_feed 0 = .ok (.iload_n 1, 1) := by decide +kernel
theorem dX3_feed_1 : decode cX3_feed 1 = .ok (.invokestatic 46, 3) := by decide +kernel
theorem dX3_feed_4 : decode cX3_feed 4 = .ok (.ifCond .ne 6, 3) := by decide +kernel
theorem dX3_feed_7 : decode cX3_feed 7 = .ok (.ldc 50, 2) := by decide +kernel
theorem dX3_feed_9 : decode cX3_feed 9 = .ok (.ireturn, 1) := by decide +kernel
theorem dX3_feed_10 : decode cX3_feed 10 = .ok (.iload_n 2, 1) := by decide +kernel
theorem dX3_feed_11 : decode cX3_feed 11 = .ok (.ifCond .lt 9, 3) := by decide +kernel
theorem dX3_feed_14 : decode cX3_feed 14 = .ok (.iload_n 2, 1) := by decide +kernel
theorem dX3_feed_15 : decode cX3_feed 15 = .ok (.bipush 20, 2) := by decide +kernel
theorem dX3_feed_17 : decode cX3_feed 17 = .ok (.if_icmp .le 6, 3) := by decide +kernel
theorem dX3_feed_20 : decode cX3_feed 20 = .ok (.ldc 37, 2) := by decide +kernel
theorem dX3_feed_22 : decode cX3_feed 22 = .ok (.ireturn, 1) := by decide +kernel
theorem dX3_feed_23 : decode cX3_feed 23 = .ok (.aload_n 0, 1) := by decide +kernel
theorem dX3_feed_24 : decode cX3_feed 24 = .ok (.getfield 29, 3) := by decide +kernel
theorem dX3_feed_27 : decode cX3_feed 27 = .ok (.aload_n 0, 1) := by decide +kernel
theorem dX3_feed_28 : decode cX3_feed 28 = .ok (.getfield 12, 3) := by decide +kernel
theorem dX3_feed_31 : decode cX3_feed 31 = .ok (.invokevirtual 38, 3) := by decide +kernel
theorem dX3_feed_34 : decode cX3_feed 34 = .ok (.aload_n 0, 1) := by decide +kernel
theorem dX3_feed_35 : decode cX3_feed 35 = .ok (.getfield 12, 3) := by decide +kernel
theorem dX3_feed_38 : decode cX3_feed 38 = .ok (.getfield 97, 3) := by decide +kernel
theorem dX3_feed_41 : decode cX3_feed 41 = .ok (.iload_n 1, 1) := by decide +kernel
theorem dX3_feed_42 : decode cX3_feed 42 = .ok (.iaload, 1) := by decide +kernel
theorem dX3_feed_43 : decode cX3_feed 43 = .ok (.istore_n 3, 1) := by decide +kernel
theorem dX3_feed_44 : decode cX3_feed 44 = .ok (.aload_n 0, 1) := by decide +kernel
theorem dX3_feed_45 : decode cX3_feed 45 = .ok (.getfield 12, 3) := by decide +kernel
theorem dX3_feed_48 : decode cX3_feed 48 = .ok (.getfield 97, 3) := by decide +kernel
theorem dX3_feed_51 : decode cX3_feed 51 = .ok (.iload_n 1, 1) := by decide +kernel
theorem dX3_feed_52 : decode cX3_feed 52 = .ok (.iload_n 2, 1) := by decide +kernel
theorem dX3_feed_53 : decode cX3_feed 53 = .ok (.iastore, 1) := by decide +kernel
theorem dX3_feed_54 : decode cX3_feed 54 = .ok (.iload_n 3, 1) := by decide +kernel
theorem dX3_feed_55 : decode cX3_feed 55 = .ok (.ireturn, 1) := by decide +kernel
set_option maxRecDepth 20000 in
theorem ggX3_villager_X3_isVillager : GoodIn wsX3_villager wsX3_isVillager := goodIn_r _ [12] (by decide +kernel) (by decide +kernel)
set_option maxRecDepth 20000 in
theorem gX3_villager_X3_isVillager : GoodIn wsX3_villager (va_wsS RX3 46 yX3_isVillager wsX3_isVillager) := goodIn_app (goodIn_of _ (by decide +kernel)) ggX3_villager_X3_isVillager
set_option maxRecDepth 20000 in
theorem ggX3_villager_X2_isThere : GoodIn wsX3_villager wsX2_isThere := goodIn_r _ [17, 18, 36, 37, 38, 39, 40, 41, 42, 43, 44, 45, 46, 47, 48] (by decide +kernel) (by decide +kernel)
set_option maxRecDepth 20000 in
theorem gX3_villager_X2_isThere : GoodIn wsX3_villager (wsV RX3 58 RX2 yX2_isThere wsX2_isThere) := goodIn_app (goodIn_of _ (by decide +kernel)) ggX3_villager_X2_isThere
set_option maxRecDepth 20000 in
theorem ggX3_villager_X2_dancedWith : GoodIn wsX3_villager wsX2_dancedWith := goodIn_r _ [22, 23, 24, 11, 25, 36, 37, 38, 39, 40, 41, 42, 43, 44, 45, 46, 47, 48] (by decide +kernel) (by decide +kernel)
set_option maxRecDepth 20000 in
theorem gX3_villager_X2_dancedWith : GoodIn wsX3_villager (wsV RX3 112 RX2 yX2_dancedWith wsX2_dancedWith) := goodIn_app (goodIn_of _ (by decide +kernel)) ggX3_villager_X2_dancedWith
set_option maxRecDepth 20000 in
theorem ggX3_villager_X2_mostFrequentPartner : GoodIn wsX3_villager wsX2_mostFrequentPartner := goodIn_r _ [29, 30, 23, 24, 11, 25, 36, 37, 38, 39, 40, 41, 42, 43, 44, 45, 46, 47, 48] (by decide +kernel) (by decide +kernel)
set_option maxRecDepth 20000 in
theorem gX3_villager_X2_mostFrequentPartner : GoodIn wsX3_villager (wsV RX3 115 RX2 yX2_mostFrequentPartner wsX2_mostFrequentPartner) := goodIn_app (goodIn_of _ (by decide +kernel)) ggX3_villager_X2_mostFrequentPartner
theorem dX3_villager_0 : decode cX3_villager 0 = .ok (.iload_n 1, 1) := by decide +kernel
theorem dX3_villager_1 : decode cX3_villager 1 = .ok (.invokestatic 46, 3) := by decide +kernel
theorem dX3_villager_4 : decode cX3_villager 4 = .ok (.ifCond .ne 6, 3) := by decide +kernel
theorem dX3_villager_7 : decode cX3_villager 7 = .ok (.ldc 50, 2) := by decide +kernel
theorem dX3_villager_9 : decode cX3_villager 9 = .ok (.ireturn, 1) := by decide +kernel
theorem dX3_villager_10 : decode cX3_villager 10 = .ok (.iload_n 2, 1) := by decide +kernel
theorem dX3_villager_11 : decode cX3_villager 11 = .ok (.tableswitch 130 0 7 #[45, 62, 72, 82, 92, 102, 112, 121], 45) := by decide +kernel
theorem dX3_villager_56 : decode cX3_villager 56 = .ok (.aload_n 0, 1) := by decide +kernel
theorem dX3_villager_57 : decode cX3_villager 57 = .ok (.getfield 12, 3) := by decide +kernel
theorem dX3_villager_60 : decode cX3_villager 60 = .ok (.iload_n 1, 1) := by decide +kernel
theorem dX3_villager_61 : decode cX3_villager 61 = .ok (.invokevirtual 58, 3) := by decide +kernel
theorem dX3_villager_64 : decode cX3_villager 64 = .ok (.ifCond .eq 7, 3) := by decide +kernel
theorem dX3_villager_67 : decode cX3_villager 67 = .ok (.iconst 1, 1) := by decide +kernel
theorem dX3_villager_68 : decode cX3_villager 68 = .ok (.goto 4, 3) := by decide +kernel
theorem dX3_villager_71 : decode cX3_villager 71 = .ok (.iconst 0, 1) := by decide +kernel
theorem dX3_villager_72 : decode cX3_villager 72 = .ok (.ireturn, 1) := by decide +kernel
theorem dX3_villager_73 : decode cX3_villager 73 = .ok (.aload_n 0, 1) := by decide +kernel
theorem dX3_villager_74 : decode cX3_villager 74 = .ok (.getfield 12, 3) := by decide +kernel
theorem dX3_villager_77 : decode cX3_villager 77 = .ok (.getfield 97, 3) := by decide +kernel
theorem dX3_villager_80 : decode cX3_villager 80 = .ok (.iload_n 1, 1) := by decide +kernel
theorem dX3_villager_81 : decode cX3_villager 81 = .ok (.iaload, 1) := by decide +kernel
theorem dX3_villager_82 : decode cX3_villager 82 = .ok (.ireturn, 1) := by decide +kernel
theorem dX3_villager_83 : decode cX3_villager 83 = .ok (.aload_n 0, 1) := by decide +kernel
theorem dX3_villager_84 : decode cX3_villager 84 = .ok (.getfield 12, 3) := by decide +kernel
theorem dX3_villager_87 : decode cX3_villager 87 = .ok (.getfield 100, 3) := by decide +kernel
theorem dX3_villager_90 : decode cX3_villager 90 = .ok (.iload_n 1, 1) := by decide +kernel
theorem dX3_villager_91 : decode cX3_villager 91 = .ok (.iaload, 1) := by decide +kernel
theorem dX3_villager_92 : decode cX3_villager 92 = .ok (.ireturn, 1) := by decide +kernel
theorem dX3_villager_93 : decode cX3_villager 93 = .ok (.aload_n 0, 1) := by decide +kernel
theorem dX3_villager_94 : decode cX3_villager 94 = .ok (.getfield 12, 3) := by decide +kernel
theorem dX3_villager_97 : decode cX3_villager 97 = .ok (.getfield 103, 3) := by decide +kernel
theorem dX3_villager_100 : decode cX3_villager 100 = .ok (.iload_n 1, 1) := by decide +kernel
theorem dX3_villager_101 : decode cX3_villager 101 = .ok (.iaload, 1) := by decide +kernel
theorem dX3_villager_102 : decode cX3_villager 102 = .ok (.ireturn, 1) := by decide +kernel
theorem dX3_villager_103 : decode cX3_villager 103 = .ok (.aload_n 0, 1) := by decide +kernel
theorem dX3_villager_104 : decode cX3_villager 104 = .ok (.getfield 12, 3) := by decide +kernel
theorem dX3_villager_107 : decode cX3_villager 107 = .ok (.getfield 106, 3) := by decide +kernel
theorem dX3_villager_110 : decode cX3_villager 110 = .ok (.iload_n 1, 1) := by decide +kernel
theorem dX3_villager_111 : decode cX3_villager 111 = .ok (.iaload, 1) := by decide +kernel
theorem dX3_villager_112 : decode cX3_villager 112 = .ok (.ireturn, 1) := by decide +kernel
theorem dX3_villager_113 : decode cX3_villager 113 = .ok (.aload_n 0, 1) := by decide +kernel
theorem dX3_villager_114 : decode cX3_villager 114 = .ok (.getfield 12, 3) := by decide +kernel
theorem dX3_villager_117 : decode cX3_villager 117 = .ok (.getfield 109, 3) := by decide +kernel
theorem dX3_villager_120 : decode cX3_villager 120 = .ok (.iload_n 1, 1) := by decide +kernel
theorem dX3_villager_121 : decode cX3_villager 121 = .ok (.iaload, 1) := by decide +kernel
theorem dX3_villager_122 : decode cX3_villager 122 = .ok (.ireturn, 1) := by decide +kernel
theorem dX3_villager_123 : decode cX3_villager 123 = .ok (.aload_n 0, 1) := by decide +kernel
theorem dX3_villager_124 : decode cX3_villager 124 = .ok (.getfield 12, 3) := by decide +kernel
theorem dX3_villager_127 : decode cX3_villager 127 = .ok (.iload_n 1, 1) := by decide +kernel
theorem dX3_villager_128 : decode cX3_villager 128 = .ok (.invokevirtual 112, 3) := by decide +kernel
theorem dX3_villager_131 : decode cX3_villager 131 = .ok (.ireturn, 1) := by decide +kernel
theorem dX3_villager_132 : decode cX3_villager 132 = .ok (.aload_n 0, 1) := by decide +kernel
theorem dX3_villager_133 : decode cX3_villager 133 = .ok (.getfield 12, 3) := by decide +kernel
theorem dX3_villager_136 : decode cX3_villager 136 = .ok (.iload_n 1, 1) := by decide +kernel
theorem dX3_villager_137 : decode cX3_villager 137 = .ok (.invokevirtual 115, 3) := by decide +kernel
theorem dX3_villager_140 : decode cX3_villager 140 = .ok (.ireturn, 1) := by decide +kernel
theorem dX3_villager_141 : decode cX3_villager 141 = .ok (.ldc 37, 2) := by decide +kernel
theorem dX3_villager_143 : decode cX3_villager 143 = .ok (.ireturn, 1) := by decide +kernel
set_option maxRecDepth 20000 in
theorem ggX3_pair_X3_isVillager : GoodIn wsX3_pair wsX3_isVillager := goodIn_r _ [11] (by decide +kernel) (by decide +kernel)
set_option maxRecDepth 20000 in
theorem gX3_pair_X3_isVillager : GoodIn wsX3_pair (va_wsS RX3 46 yX3_isVillager wsX3_isVillager) := goodIn_app (goodIn_of _ (by decide +kernel)) ggX3_pair_X3_isVillager
set_option maxRecDepth 20000 in
theorem ggX3_pair_X3_pairIndex : GoodIn wsX3_pair wsX3_pairIndex := goodIn_r _ [14] (by decide +kernel) (by decide +kernel)
set_option maxRecDepth 20000 in
theorem gX3_pair_X3_pairIndex : GoodIn wsX3_pair (va_wsS RX3 51 yX3_pairIndex wsX3_pairIndex) := goodIn_app (goodIn_of _ (by decide +kernel)) ggX3_pair_X3_pairIndex
set_option maxRecDepth 20000 in
theorem ggX3_pair_X3_remainderOf : GoodIn wsX3_pair wsX3_remainderOf := goodIn_r _ [17, 18, 19, 20, 21] (by decide +kernel) (by decide +kernel)
set_option maxRecDepth 20000 in
theorem gX3_pair_X3_remainderOf : GoodIn wsX3_pair (va_wsS RX3 118 yX3_remainderOf wsX3_remainderOf) := goodIn_app (goodIn_of _ (by decide +kernel)) ggX3_pair_X3_remainderOf
theorem dX3_pair_0 : decode cX3_pair 0 = .ok (.iload_n 1, 1) := by decide +kernel
theorem dX3_pair_1 : decode cX3_pair 1 = .ok (.invokestatic 46, 3) := by decide +kernel
theorem dX3_pair_4 : decode cX3_pair 4 = .ok (.ifCond .eq 10, 3) := by decide +kernel
theorem dX3_pair_7 : decode cX3_pair 7 = .ok (.iload_n 2, 1) := by decide +kernel
theorem dX3_pair_8 : decode cX3_pair 8 = .ok (.invokestatic 46, 3) := by decide +kernel
theorem dX3_pair_11 : decode cX3_pair 11 = .ok (.ifCond .ne 6, 3) := by decide +kernel
theorem dX3_pair_14 : decode cX3_pair 14 = .ok (.ldc 50, 2) := by decide +kernel
theorem dX3_pair_16 : decode cX3_pair 16 = .ok (.ireturn, 1) := by decide +kernel
theorem dX3_pair_17 : decode cX3_pair 17 = .ok (.iload_n 1, 1) := by decide +kernel
theorem dX3_pair_18 : decode cX3_pair 18 = .ok (.iload_n 2, 1) := by decide +kernel
theorem dX3_pair_19 : decode cX3_pair 19 = .ok (.if_icmp .ne 6, 3) := by decide +kernel
theorem dX3_pair_22 : decode cX3_pair 22 = .ok (.ldc 37, 2) := by decide +kernel
theorem dX3_pair_24 : decode cX3_pair 24 = .ok (.ireturn, 1) := by decide +kernel
theorem dX3_pair_25 : decode cX3_pair 25 = .ok (.iload_n 1, 1) := by decide +kernel
theorem dX3_pair_26 : decode cX3_pair 26 = .ok (.iload_n 2, 1) := by decide +kernel
theorem dX3_pair_27 : decode cX3_pair 27 = .ok (.invokestatic 51, 3) := by decide +kernel
theorem dX3_pair_30 : decode cX3_pair 30 = .ok (.istore 4, 2) := by decide +kernel
theorem dX3_pair_32 : decode cX3_pair 32 = .ok (.iload_n 1, 1) := by decide +kernel
theorem dX3_pair_33 : decode cX3_pair 33 = .ok (.iload_n 2, 1) := by decide +kernel
theorem dX3_pair_34 : decode cX3_pair 34 = .ok (.iadd, 1) := by decide +kernel
theorem dX3_pair_35 : decode cX3_pair 35 = .ok (.invokestatic 118, 3) := by decide +kernel
theorem dX3_pair_38 : decode cX3_pair 38 = .ok (.istore 5, 2) := by decide +kernel
theorem dX3_pair_40 : decode cX3_pair 40 = .ok (.iload_n 3, 1) := by decide +kernel
theorem dX3_pair_41 : decode cX3_pair 41 = .ok (.tableswitch 82 0 4 #[35, 46, 57, 60, 71], 35) := by decide +kernel
theorem dX3_pair_76 : decode cX3_pair 76 = .ok (.aload_n 0, 1) := by decide +kernel
theorem dX3_pair_77 : decode cX3_pair 77 = .ok (.getfield 12, 3) := by decide +kernel
theorem dX3_pair_80 : decode cX3_pair 80 = .ok (.getfield 55, 3) := by decide +kernel
theorem dX3_pair_83 : decode cX3_pair 83 = .ok (.iload 4, 2) := by decide +kernel
theorem dX3_pair_85 : decode cX3_pair 85 = .ok (.iaload, 1) := by decide +kernel
theorem dX3_pair_86 : decode cX3_pair 86 = .ok (.ireturn, 1) := by decide +kernel
theorem dX3_pair_87 : decode cX3_pair 87 = .ok (.aload_n 0, 1) := by decide +kernel
theorem dX3_pair_88 : decode cX3_pair 88 = .ok (.getfield 12, 3) := by decide +kernel
theorem dX3_pair_91 : decode cX3_pair 91 = .ok (.getfield 121, 3) := by decide +kernel
theorem dX3_pair_94 : decode cX3_pair 94 = .ok (.iload 4, 2) := by decide +kernel
theorem dX3_pair_96 : decode cX3_pair 96 = .ok (.iaload, 1) := by decide +kernel
theorem dX3_pair_97 : decode cX3_pair 97 = .ok (.ireturn, 1) := by decide +kernel
theorem dX3_pair_98 : decode cX3_pair 98 = .ok (.iload 5, 2) := by decide +kernel
theorem dX3_pair_100 : decode cX3_pair 100 = .ok (.ireturn, 1) := by decide +kernel
theorem dX3_pair_101 : decode cX3_pair 101 = .ok (.aload_n 0, 1) := by decide +kernel
theorem dX3_pair_102 : decode cX3_pair 102 = .ok (.getfield 12, 3) := by decide +kernel
theorem dX3_pair_105 : decode cX3_pair 105 = .ok (.getfield 124, 3) := by decide +kernel
theorem dX3_pair_108 : decode cX3_pair 108 = .ok (.iload 5, 2) := by decide +kernel
theorem dX3_pair_110 : decode cX3_pair 110 = .ok (.iaload, 1) := by decide +kernel
theorem dX3_pair_111 : decode cX3_pair 111 = .ok (.ireturn, 1) := by decide +kernel
theorem dX3_pair_112 : decode cX3_pair 112 = .ok (.aload_n 0, 1) := by decide +kernel
theorem dX3_pair_113 : decode cX3_pair 113 = .ok (.getfield 12, 3) := by decide +kernel
theorem dX3_pair_116 : decode cX3_pair 116 = .ok (.getfield 127, 3) := by decide +kernel
theorem dX3_pair_119 : decode cX3_pair 119 = .ok (.iload 4, 2) := by decide +kernel
theorem dX3_pair_121 : decode cX3_pair 121 = .ok (.iaload, 1) := by decide +kernel
theorem dX3_pair_122 : decode cX3_pair 122 = .ok (.ireturn, 1) := by decide +kernel
theorem dX3_pair_123 : decode cX3_pair 123 = .ok (.ldc 37, 2) := by decide +kernel
theorem dX3_pair_125 : decode cX3_pair 125 = .ok (.ireturn, 1) := by decide +kernel
set_option maxRecDepth 20000 in
theorem ggX3_partner_X3_isVillager : GoodIn wsX3_partner wsX3_isVillager := goodIn_r _ [7] (by decide +kernel) (by decide +kernel)
set_option maxRecDepth 20000 in
theorem gX3_partner_X3_isVillager : GoodIn wsX3_partner (va_wsS RX3 46 yX3_isVillager wsX3_isVillager) := goodIn_app (goodIn_of _ (by decide +kernel)) ggX3_partner_X3_isVillager
set_option maxRecDepth 20000 in
theorem ggX3_partner_X3_isNumber : GoodIn wsX3_partner wsX3_isNumber := goodIn_r _ [10] (by decide +kernel) (by decide +kernel)
set_option maxRecDepth 20000 in
theorem gX3_partner_X3_isNumber : GoodIn wsX3_partner (va_wsS RX3 72 yX3_isNumber wsX3_isNumber) := goodIn_app (goodIn_of _ (by decide +kernel)) ggX3_partner_X3_isNumber
set_option maxRecDepth 20000 in
theorem ggX3_partner_X3_counterpart : GoodIn wsX3_partner wsX3_counterpart := goodIn_r _ [13, 14, 15, 6, 16, 17, 18, 19, 20] (by decide +kernel) (by decide +kernel)
set_option maxRecDepth 20000 in
theorem gX3_partner_X3_counterpart : GoodIn wsX3_partner (va_wsS RX3 130 yX3_counterpart wsX3_counterpart) := goodIn_app (goodIn_of _ (by decide +kernel)) ggX3_partner_X3_counterpart
theorem dX3_partner_0 : decode cX3_partner 0 = .ok (.iload_n 1, 1) := by decide +kernel
theorem dX3_partner_1 : decode cX3_partner 1 = .ok (.invokestatic 46, 3) := by decide +kernel
theorem dX3_partner_4 : decode cX3_partner 4 = .ok (.ifCond .ne 6, 3) := by decide +kernel
theorem dX3_partner_7 : decode cX3_partner 7 = .ok (.ldc 50, 2) := by decide +kernel
theorem dX3_partner_9 : decode cX3_partner 9 = .ok (.ireturn, 1) := by decide +kernel
theorem dX3_partner_10 : decode cX3_partner 10 = .ok (.iload_n 2, 1) := by decide +kernel
theorem dX3_partner_11 : decode cX3_partner 11 = .ok (.invokestatic 72, 3) := by decide +kernel
theorem dX3_partner_14 : decode cX3_partner 14 = .ok (.ifCond .ne 6, 3) := by decide +kernel
theorem dX3_partner_17 : decode cX3_partner 17 = .ok (.ldc 37, 2) := by decide +kernel
theorem dX3_partner_19 : decode cX3_partner 19 = .ok (.ireturn, 1) := by decide +kernel
theorem dX3_partner_20 : decode cX3_partner 20 = .ok (.iload_n 1, 1) := by decide +kernel
theorem dX3_partner_21 : decode cX3_partner 21 = .ok (.iload_n 2, 1) := by decide +kernel
theorem dX3_partner_22 : decode cX3_partner 22 = .ok (.invokestatic 130, 3) := by decide +kernel
theorem dX3_partner_25 : decode cX3_partner 25 = .ok (.istore_n 3, 1) := by decide +kernel
theorem dX3_partner_26 : decode cX3_partner 26 = .ok (.iload_n 3, 1) := by decide +kernel
theorem dX3_partner_27 : decode cX3_partner 27 = .ok (.iload_n 1, 1) := by decide +kernel
theorem dX3_partner_28 : decode cX3_partner 28 = .ok (.if_icmp .ne 8, 3) := by decide +kernel
theorem dX3_partner_31 : decode cX3_partner 31 = .ok (.ldc 86, 2) := by decide +kernel
theorem dX3_partner_33 : decode cX3_partner 33 = .ok (.goto 4, 3) := by decide +kernel
theorem dX3_partner_36 : decode cX3_partner 36 = .ok (.iload_n 3, 1) := by decide +kernel
theorem dX3_partner_37 : decode cX3_partner 37 = .ok (.ireturn, 1) := by decide +kernel
set_option maxRecDepth 20000 in
theorem ggX3_count_X3_sumOf : GoodIn wsX3_count wsX3_sumOf := goodIn_r _ [18] (by decide +kernel) (by decide +kernel)
set_option maxRecDepth 20000 in
theorem gX3_count_X3_sumOf : GoodIn wsX3_count (va_wsS RX3 133 yX3_sumOf wsX3_sumOf) := goodIn_app (goodIn_of _ (by decide +kernel)) ggX3_count_X3_sumOf
set_option maxRecDepth 20000 in
theorem ggX3_count_X2_unmetPairs : GoodIn wsX3_count wsX2_unmetPairs := goodIn_r _ [23, 24, 25, 26, 22, 27, 28, 29, 30, 31, 32, 33, 34, 17, 35, 41, 42, 43, 44, 45, 46, 47, 48, 49, 50, 51, 52, 53] (by decide +kernel) (by decide +kernel)
set_option maxRecDepth 20000 in
theorem gX3_count_X2_unmetPairs : GoodIn wsX3_count (wsV RX3 137 RX2 yX2_unmetPairs wsX2_unmetPairs) := goodIn_app (goodIn_of _ (by decide +kernel)) ggX3_count_X2_unmetPairs
theorem dX3_count_0 : decode cX3_count 0 = .ok (.iload_n 1, 1) := by decide +kernel
theorem dX3_count_1 : decode cX3_count 1 = .ok (.tableswitch 169 0 12 #[67, 67, 67, 77, 85, 93, 104, 115, 123, 134, 145, 153, 161], 67) := by decide +kernel
theorem dX3_count_68 : decode cX3_count 68 = .ok (.aload_n 0, 1) := by decide +kernel
theorem dX3_count_69 : decode cX3_count 69 = .ok (.getfield 12, 3) := by decide +kernel
theorem dX3_count_72 : decode cX3_count 72 = .ok (.getfield 42, 3) := by decide +kernel
theorem dX3_count_75 : decode cX3_count 75 = .ok (.iload_n 1, 1) := by decide +kernel
theorem dX3_count_76 : decode cX3_count 76 = .ok (.iaload, 1) := by decide +kernel
theorem dX3_count_77 : decode cX3_count 77 = .ok (.ireturn, 1) := by decide +kernel
theorem dX3_count_78 : decode cX3_count 78 = .ok (.aload_n 0, 1) := by decide +kernel
theorem dX3_count_79 : decode cX3_count 79 = .ok (.getfield 12, 3) := by decide +kernel
theorem dX3_count_82 : decode cX3_count 82 = .ok (.getfield 75, 3) := by decide +kernel
theorem dX3_count_85 : decode cX3_count 85 = .ok (.ireturn, 1) := by decide +kernel
theorem dX3_count_86 : decode cX3_count 86 = .ok (.aload_n 0, 1) := by decide +kernel
theorem dX3_count_87 : decode cX3_count 87 = .ok (.getfield 12, 3) := by decide +kernel
theorem dX3_count_90 : decode cX3_count 90 = .ok (.getfield 62, 3) := by decide +kernel
theorem dX3_count_93 : decode cX3_count 93 = .ok (.ireturn, 1) := by decide +kernel
theorem dX3_count_94 : decode cX3_count 94 = .ok (.aload_n 0, 1) := by decide +kernel
theorem dX3_count_95 : decode cX3_count 95 = .ok (.getfield 12, 3) := by decide +kernel
theorem dX3_count_98 : decode cX3_count 98 = .ok (.getfield 121, 3) := by decide +kernel
theorem dX3_count_101 : decode cX3_count 101 = .ok (.invokestatic 133, 3) := by decide +kernel
theorem dX3_count_104 : decode cX3_count 104 = .ok (.ireturn, 1) := by decide +kernel
theorem dX3_count_105 : decode cX3_count 105 = .ok (.aload_n 0, 1) := by decide +kernel
theorem dX3_count_106 : decode cX3_count 106 = .ok (.getfield 12, 3) := by decide +kernel
theorem dX3_count_109 : decode cX3_count 109 = .ok (.getfield 100, 3) := by decide +kernel
theorem dX3_count_112 : decode cX3_count 112 = .ok (.invokestatic 133, 3) := by decide +kernel
theorem dX3_count_115 : decode cX3_count 115 = .ok (.ireturn, 1) := by decide +kernel
theorem dX3_count_116 : decode cX3_count 116 = .ok (.aload_n 0, 1) := by decide +kernel
theorem dX3_count_117 : decode cX3_count 117 = .ok (.getfield 12, 3) := by decide +kernel
theorem dX3_count_120 : decode cX3_count 120 = .ok (.invokevirtual 137, 3) := by decide +kernel
theorem dX3_count_123 : decode cX3_count 123 = .ok (.ireturn, 1) := by decide +kernel
theorem dX3_count_124 : decode cX3_count 124 = .ok (.aload_n 0, 1) := by decide +kernel
theorem dX3_count_125 : decode cX3_count 125 = .ok (.getfield 12, 3) := by decide +kernel
theorem dX3_count_128 : decode cX3_count 128 = .ok (.getfield 109, 3) := by decide +kernel
theorem dX3_count_131 : decode cX3_count 131 = .ok (.invokestatic 133, 3) := by decide +kernel
theorem dX3_count_134 : decode cX3_count 134 = .ok (.ireturn, 1) := by decide +kernel
theorem dX3_count_135 : decode cX3_count 135 = .ok (.aload_n 0, 1) := by decide +kernel
theorem dX3_count_136 : decode cX3_count 136 = .ok (.getfield 12, 3) := by decide +kernel
theorem dX3_count_139 : decode cX3_count 139 = .ok (.getfield 97, 3) := by decide +kernel
theorem dX3_count_142 : decode cX3_count 142 = .ok (.invokestatic 133, 3) := by decide +kernel
theorem dX3_count_145 : decode cX3_count 145 = .ok (.ireturn, 1) := by decide +kernel
theorem dX3_count_146 : decode cX3_count 146 = .ok (.aload_n 0, 1) := by decide +kernel
theorem dX3_count_147 : decode cX3_count 147 = .ok (.getfield 12, 3) := by decide +kernel
theorem dX3_count_150 : decode cX3_count 150 = .ok (.getfield 140, 3) := by decide +kernel
theorem dX3_count_153 : decode cX3_count 153 = .ok (.ireturn, 1) := by decide +kernel
theorem dX3_count_154 : decode cX3_count 154 = .ok (.aload_n 0, 1) := by decide +kernel
theorem dX3_count_155 : decode cX3_count 155 = .ok (.getfield 22, 3) := by decide +kernel
theorem dX3_count_158 : decode cX3_count 158 = .ok (.getfield 143, 3) := by decide +kernel
theorem dX3_count_161 : decode cX3_count 161 = .ok (.ireturn, 1) := by decide +kernel
theorem dX3_count_162 : decode cX3_count 162 = .ok (.aload_n 0, 1) := by decide +kernel
theorem dX3_count_163 : decode cX3_count 163 = .ok (.getfield 29, 3) := by decide +kernel
theorem dX3_count_166 : decode cX3_count 166 = .ok (.getfield 146, 3) := by decide +kernel
theorem dX3_count_169 : decode cX3_count 169 = .ok (.ireturn, 1) := by decide +kernel
theorem dX3_count_170 : decode cX3_count 170 = .ok (.ldc 37, 2) := by decide +kernel
theorem dX3_count_172 : decode cX3_count 172 = .ok (.ireturn, 1) := by decide +kernel
set_option maxRecDepth 20000 in
theorem ggX3_ifCalled_X3_isNumber : GoodIn wsX3_ifCalled wsX3_isNumber := goodIn_r _ [6] (by decide +kernel) (by decide +kernel)
set_option maxRecDepth 20000 in
theorem gX3_ifCalled_X3_isNumber : GoodIn wsX3_ifCalled (va_wsS RX3 72 yX3_isNumber wsX3_isNumber) := goodIn_app (goodIn_of _ (by decide +kernel)) ggX3_ifCalled_X3_isNumber
set_option maxRecDepth 20000 in
theorem ggX3_ifCalled_X2_wouldBring : GoodIn wsX3_ifCalled wsX2_wouldBring := goodIn_r _ [11, 12, 5, 13, 14, 15, 16, 17, 18, 19, 20, 21, 22, 23, 10, 24, 25, 26, 27, 28, 29, 30, 31, 32, 33, 34, 35, 36, 37, 38, 39, 40, 41, 42, 43, 44, 45, 46, 47, 48, 49, 50, 56, 57, 58, 59, 60, 61, 62, 63, 64, 65, 66, 67, 68] (by decide +kernel) (by decide +kernel)
set_option maxRecDepth 20000 in
theorem gX3_ifCalled_X2_wouldBring : GoodIn wsX3_ifCalled (wsV RX3 147 RX2 yX2_wouldBring wsX2_wouldBring) := goodIn_app (goodIn_of _ (by decide +kernel)) ggX3_ifCalled_X2_wouldBring
theorem dX3_ifCalled_0 : decode cX3_ifCalled 0 = .ok (.iload_n 1, 1) := by decide +kernel
theorem dX3_ifCalled_1 : decode cX3_ifCalled 1 = .ok (.invokestatic 72, 3) := by decide +kernel
theorem dX3_ifCalled_4 : decode cX3_ifCalled 4 = .ok (.ifCond .eq 12, 3) := by decide +kernel
theorem dX3_ifCalled_7 : decode cX3_ifCalled 7 = .ok (.iload_n 2, 1) := by decide +kernel
theorem dX3_ifCalled_8 : decode cX3_ifCalled 8 = .ok (.ifCond .lt 8, 3) := by decide +kernel
theorem dX3_ifCalled_11 : decode cX3_ifCalled 11 = .ok (.iload_n 2, 1) := by decide +kernel
theorem dX3_ifCalled_12 : decode cX3_ifCalled 12 = .ok (.iconst 3, 1) := by decide +kernel
theorem dX3_ifCalled_13 : decode cX3_ifCalled 13 = .ok (.if_icmp .le 6, 3) := by decide +kernel
theorem dX3_ifCalled_16 : decode cX3_ifCalled 16 = .ok (.ldc 37, 2) := by decide +kernel
theorem dX3_ifCalled_18 : decode cX3_ifCalled 18 = .ok (.ireturn, 1) := by decide +kernel
theorem dX3_ifCalled_19 : decode cX3_ifCalled 19 = .ok (.aload_n 0, 1) := by decide +kernel
theorem dX3_ifCalled_20 : decode cX3_ifCalled 20 = .ok (.getfield 12, 3) := by decide +kernel
theorem dX3_ifCalled_23 : decode cX3_ifCalled 23 = .ok (.iload_n 1, 1) := by decide +kernel
theorem dX3_ifCalled_24 : decode cX3_ifCalled 24 = .ok (.iload_n 2, 1) := by decide +kernel
theorem dX3_ifCalled_25 : decode cX3_ifCalled 25 = .ok (.invokevirtual 147, 3) := by decide +kernel
theorem dX3_ifCalled_28 : decode cX3_ifCalled 28 = .ok (.ireturn, 1) := by decide +kernel
set_option maxRecDepth 20000 in
theorem ggX3_bestCall_X2_wouldBring : GoodIn wsX3_bestCall wsX2_wouldBring := goodIn_r _ [7, 8, 9, 10, 11, 12, 13, 14, 15, 16, 17, 18, 19, 20, 6, 21, 22, 23, 24, 25, 26, 27, 28, 29, 30, 31, 32, 33, 34, 35, 36, 37, 38, 39, 40, 41, 42, 43, 44, 45, 46, 47, 53, 54, 55, 56, 57, 58, 59, 60, 61, 62, 63, 64, 65] (by decide +kernel) (by decide +kernel)
set_option maxRecDepth 20000 in
theorem gX3_bestCall_X2_wouldBring : GoodIn wsX3_bestCall (wsV RX3 147 RX2 yX2_wouldBring wsX2_wouldBring) := goodIn_app (goodIn_of _ (by decide +kernel)) ggX3_bestCall_X2_wouldBring
theorem dX3_bestCall_0 : decode cX3_bestCall 0 = .ok (.iload_n 1, 1) := by decide +kernel
theorem dX3_bestCall_1 : decode cX3_bestCall 1 = .ok (.ifCond .eq 11, 3) := by decide +kernel
theorem dX3_bestCall_4 : decode cX3_bestCall 4 = .ok (.iload_n 1, 1) := by decide +kernel
theorem dX3_bestCall_5 : decode cX3_bestCall 5 = .ok (.iconst 1, 1) := by decide +kernel
theorem dX3_bestCall_6 : decode cX3_bestCall 6 = .ok (.if_icmp .eq 6, 3) := by decide +kernel
theorem dX3_bestCall_9 : decode cX3_bestCall 9 = .ok (.ldc 37, 2) := by decide +kernel
theorem dX3_bestCall_11 : decode cX3_bestCall 11 = .ok (.ireturn, 1) := by decide +kernel
theorem dX3_bestCall_12 : decode cX3_bestCall 12 = .ok (.iconst 0, 1) := by decide +kernel
theorem dX3_bestCall_13 : decode cX3_bestCall 13 = .ok (.istore_n 2, 1) := by decide +kernel
theorem dX3_bestCall_14 : decode cX3_bestCall 14 = .ok (.aload_n 0, 1) := by decide +kernel
theorem dX3_bestCall_15 : decode cX3_bestCall 15 = .ok (.getfield 12, 3) := by decide +kernel
theorem dX3_bestCall_18 : decode cX3_bestCall 18 = .ok (.iconst 0, 1) := by decide +kernel
theorem dX3_bestCall_19 : decode cX3_bestCall 19 = .ok (.iconst 1, 1) := by decide +kernel
theorem dX3_bestCall_20 : decode cX3_bestCall 20 = .ok (.invokevirtual 147, 3) := by decide +kernel
theorem dX3_bestCall_23 : decode cX3_bestCall 23 = .ok (.istore_n 3, 1) := by decide +kernel
theorem dX3_bestCall_24 : decode cX3_bestCall 24 = .ok (.iconst 1, 1) := by decide +kernel
theorem dX3_bestCall_25 : decode cX3_bestCall 25 = .ok (.istore 4, 2) := by decide +kernel
theorem dX3_bestCall_27 : decode cX3_bestCall 27 = .ok (.iload 4, 2) := by decide +kernel
theorem dX3_bestCall_29 : decode cX3_bestCall 29 = .ok (.bipush 9, 2) := by decide +kernel
theorem dX3_bestCall_31 : decode cX3_bestCall 31 = .ok (.if_icmp .ge 33, 3) := by decide +kernel
theorem dX3_bestCall_34 : decode cX3_bestCall 34 = .ok (.aload_n 0, 1) := by decide +kernel
theorem dX3_bestCall_35 : decode cX3_bestCall 35 = .ok (.getfield 12, 3) := by decide +kernel
theorem dX3_bestCall_38 : decode cX3_bestCall 38 = .ok (.iload 4, 2) := by decide +kernel
theorem dX3_bestCall_40 : decode cX3_bestCall 40 = .ok (.iconst 1, 1) := by decide +kernel
theorem dX3_bestCall_41 : decode cX3_bestCall 41 = .ok (.invokevirtual 147, 3) := by decide +kernel
theorem dX3_bestCall_44 : decode cX3_bestCall 44 = .ok (.istore 5, 2) := by decide +kernel
theorem dX3_bestCall_46 : decode cX3_bestCall 46 = .ok (.iload 5, 2) := by decide +kernel
theorem dX3_bestCall_48 : decode cX3_bestCall 48 = .ok (.iload_n 3, 1) := by decide +kernel
theorem dX3_bestCall_49 : decode cX3_bestCall 49 = .ok (.if_icmp .le 9, 3) := by decide +kernel
theorem dX3_bestCall_52 : decode cX3_bestCall 52 = .ok (.iload 4, 2) := by decide +kernel
theorem dX3_bestCall_54 : decode cX3_bestCall 54 = .ok (.istore_n 2, 1) := by decide +kernel
theorem dX3_bestCall_55 : decode cX3_bestCall 55 = .ok (.iload 5, 2) := by decide +kernel
theorem dX3_bestCall_57 : decode cX3_bestCall 57 = .ok (.istore_n 3, 1) := by decide +kernel
theorem dX3_bestCall_58 : decode cX3_bestCall 58 = .ok (.iinc 4 1, 3) := by decide +kernel
theorem dX3_bestCall_61 : decode cX3_bestCall 61 = .ok (.goto (-34), 3) := by decide +kernel
theorem dX3_bestCall_64 : decode cX3_bestCall 64 = .ok (.iload_n 1, 1) := by decide +kernel
theorem dX3_bestCall_65 : decode cX3_bestCall 65 = .ok (.ifCond .ne 7, 3) := by decide +kernel
theorem dX3_bestCall_68 : decode cX3_bestCall 68 = .ok (.iload_n 2, 1) := by decide +kernel
theorem dX3_bestCall_69 : decode cX3_bestCall 69 = .ok (.goto 4, 3) := by decide +kernel
theorem dX3_bestCall_72 : decode cX3_bestCall 72 = .ok (.iload_n 3, 1) := by decide +kernel
theorem dX3_bestCall_73 : decode cX3_bestCall 73 = .ok (.ireturn, 1) := by decide +kernel
set_option maxRecDepth 20000 in
theorem ggX3_fewestRounds_X2_remaindersWithUnmetPair : GoodIn wsX3_fewestRounds wsX2_remaindersWithUnmetPair := goodIn_r _ [7, 8, 9, 10, 6, 11, 12, 13, 14, 15, 16, 17, 18, 19, 20, 21, 22, 23, 24, 25, 26, 27, 28, 29, 30, 31, 32, 33, 50, 51, 52, 53, 54, 55, 56, 57, 58, 59, 60, 61, 62] (by decide +kernel) (by decide +kernel)
set_option maxRecDepth 20000 in
theorem gX3_fewestRounds_X2_remaindersWithUnmetPair : GoodIn wsX3_fewestRounds (wsV RX3 150 RX2 yX2_remaindersWithUnmetPair wsX2_remaindersWithUnmetPair) := goodIn_app (goodIn_of _ (by decide +kernel)) ggX3_fewestRounds_X2_remaindersWithUnmetPair
set_option maxRecDepth 20000 in
theorem ggX3_fewestRounds_X2_roundsByTrying : GoodIn wsX3_fewestRounds wsX2_roundsByTrying := goodIn_r _ [37, 22, 23, 24, 6, 25, 26, 27, 28, 29, 30, 31, 32, 13, 33, 16, 17, 18, 19, 20, 21, 38, 39, 40, 41, 42, 43, 44, 50, 51, 52, 53, 54, 55, 56, 57, 58, 59, 60, 61, 62] (by decide +kernel) (by decide +kernel)
set_option maxRecDepth 20000 in
theorem gX3_fewestRounds_X2_roundsByTrying : GoodIn wsX3_fewestRounds (wsV RX3 153 RX2 yX2_roundsByTrying wsX2_roundsByTrying) := goodIn_app (goodIn_of _ (by decide +kernel)) ggX3_fewestRounds_X2_roundsByTrying
theorem dX3_fewestRounds_0 : decode cX3_fewestRounds 0 = .ok (.iload_n 1, 1) := by decide +kernel
theorem dX3_fewestRounds_1 : decode cX3_fewestRounds 1 = .ok (.lookupswitch 43 #[(0, 27), (1, 35)], 27) := by decide +kernel
theorem dX3_fewestRounds_28 : decode cX3_fewestRounds 28 = .ok (.aload_n 0, 1) := by decide +kernel
theorem dX3_fewestRounds_29 : decode cX3_fewestRounds 29 = .ok (.getfield 12, 3) := by decide +kernel
theorem dX3_fewestRounds_32 : decode cX3_fewestRounds 32 = .ok (.invokevirtual 150, 3) := by decide +kernel
theorem dX3_fewestRounds_35 : decode cX3_fewestRounds 35 = .ok (.ireturn, 1) := by decide +kernel
theorem dX3_fewestRounds_36 : decode cX3_fewestRounds 36 = .ok (.aload_n 0, 1) := by decide +kernel
theorem dX3_fewestRounds_37 : decode cX3_fewestRounds 37 = .ok (.getfield 12, 3) := by decide +kernel
theorem dX3_fewestRounds_40 : decode cX3_fewestRounds 40 = .ok (.invokevirtual 153, 3) := by decide +kernel
theorem dX3_fewestRounds_43 : decode cX3_fewestRounds 43 = .ok (.ireturn, 1) := by decide +kernel
theorem dX3_fewestRounds_44 : decode cX3_fewestRounds 44 = .ok (.ldc 37, 2) := by decide +kernel
theorem dX3_fewestRounds_46 : decode cX3_fewestRounds 46 = .ok (.ireturn, 1) := by decide +kernel
set_option maxRecDepth 20000 in
theorem ggX3_untilAllMet_X2_copyFrom : GoodIn wsX3_untilAllMet wsX2_copyFrom := goodIn_r _ [9, 10, 11, 12, 13, 14, 15, 16, 17, 18, 19, 20, 21, 22, 23, 24, 8, 25, 26, 27, 28, 29, 30, 31, 32, 33, 106, 107, 108, 109, 110, 111, 112, 113, 114, 115, 116, 117, 118] (by decide +kernel) (by decide +kernel)
set_option maxRecDepth 20000 in
theorem gX3_untilAllMet_X2_copyFrom : GoodIn wsX3_untilAllMet (wsV RX3 156 RX2 yX2_copyFrom wsX2_copyFrom) := goodIn_app (goodIn_of _ (by decide +kernel)) ggX3_untilAllMet_X2_copyFrom
set_option maxRecDepth 20000 in
theorem ggX3_untilAllMet_X2_unmetPairs : GoodIn wsX3_untilAllMet wsX2_unmetPairs := goodIn_r _ [37, 38, 39, 40, 8, 41, 18, 42, 43, 44, 45, 11, 46, 47, 48, 106, 107, 108, 109, 110, 111, 112, 113, 114, 115, 116, 117, 118] (by decide +kernel) (by decide +kernel)
set_option maxRecDepth 20000 in
theorem gX3_untilAllMet_X2_unmetPairs : GoodIn wsX3_untilAllMet (wsV RX3 137 RX2 yX2_unmetPairs wsX2_unmetPairs) := goodIn_app (goodIn_of _ (by decide +kernel)) ggX3_untilAllMet_X2_unmetPairs
set_option maxRecDepth 20000 in
theorem ggX3_untilAllMet_X3_remainderOf : GoodIn wsX3_untilAllMet wsX3_remainderOf := goodIn_r _ [51, 52, 53, 54, 55] (by decide +kernel) (by decide +kernel)
set_option maxRecDepth 20000 in
theorem gX3_untilAllMet_X3_remainderOf : GoodIn wsX3_untilAllMet (va_wsS RX3 118 yX3_remainderOf wsX3_remainderOf) := goodIn_app (goodIn_of _ (by decide +kernel)) ggX3_untilAllMet_X3_remainderOf
set_option maxRecDepth 20000 in
theorem ggX3_untilAllMet_X2_wouldBring : GoodIn wsX3_untilAllMet wsX2_wouldBring := goodIn_r _ [59, 60, 47, 61, 49, 50, 51, 52, 53, 54, 55, 62, 63, 64, 8, 65, 11, 18, 66, 67, 68, 69, 12, 10, 42, 43, 44, 45, 70, 71, 72, 73, 74, 75, 76, 77, 78, 79, 80, 17, 46, 48, 106, 107, 108, 109, 110, 111, 112, 113, 114, 115, 116, 117, 118] (by decide +kernel) (by decide +kernel)
set_option maxRecDepth 20000 in
theorem gX3_untilAllMet_X2_wouldBring : GoodIn wsX3_untilAllMet (wsV RX3 147 RX2 yX2_wouldBring wsX2_wouldBring) := goodIn_app (goodIn_of _ (by decide +kernel)) ggX3_untilAllMet_X2_wouldBring
set_option maxRecDepth 20000 in
theorem ggX3_untilAllMet_X2_danceRound : GoodIn wsX3_untilAllMet wsX2_danceRound := goodIn_r _ [84, 20, 22, 21, 60, 47, 61, 49, 50, 51, 52, 53, 54, 55, 85, 86, 87, 8, 88, 15, 12, 10, 26, 27, 28, 29, 42, 43, 44, 45, 11, 66, 67, 68, 69, 89, 90, 91, 92, 18, 19, 77, 78, 79, 80, 17, 46, 48, 93, 94, 95, 96, 13, 14, 97, 98, 99, 100, 16, 106, 107, 108, 109, 110, 111, 112, 113, 114, 115, 116, 117, 118] (by decide +kernel) (by decide +kernel)
set_option maxRecDepth 20000 in
theorem gX3_untilAllMet_X2_danceRound : GoodIn wsX3_untilAllMet (wsV RX3 79 RX2 yX2_danceRound wsX2_danceRound) := goodIn_app (goodIn_of _ (by decide +kernel)) ggX3_untilAllMet_X2_danceRound
theorem dX3_untilAllMet_0 : decode cX3_untilAllMet 0 = .ok (.aload_n 0, 1) := by decide +kernel
theorem dX3_untilAllMet_1 : decode cX3_untilAllMet 1 = .ok (.getfield 16, 3) := by decide +kernel
theorem dX3_untilAllMet_4 : decode cX3_untilAllMet 4 = .ok (.aload_n 0, 1) := by decide +kernel
theorem dX3_untilAllMet_5 : decode cX3_untilAllMet 5 = .ok (.getfield 12, 3) := by decide +kernel
theorem dX3_untilAllMet_8 : decode cX3_untilAllMet 8 = .ok (.invokevirtual 156, 3) := by decide +kernel
theorem dX3_untilAllMet_11 : decode cX3_untilAllMet 11 = .ok (.aload_n 0, 1) := by decide +kernel
theorem dX3_untilAllMet_12 : decode cX3_untilAllMet 12 = .ok (.getfield 16, 3) := by decide +kernel
theorem dX3_untilAllMet_15 : decode cX3_untilAllMet 15 = .ok (.invokevirtual 137, 3) := by decide +kernel
theorem dX3_untilAllMet_18 : decode cX3_untilAllMet 18 = .ok (.istore_n 1, 1) := by decide +kernel
theorem dX3_untilAllMet_19 : decode cX3_untilAllMet 19 = .ok (.iconst 0, 1) := by decide +kernel
theorem dX3_untilAllMet_20 : decode cX3_untilAllMet 20 = .ok (.istore_n 2, 1) := by decide +kernel
theorem dX3_untilAllMet_21 : decode cX3_untilAllMet 21 = .ok (.iload_n 2, 1) := by decide +kernel
theorem dX3_untilAllMet_22 : decode cX3_untilAllMet 22 = .ok (.sipush 500, 3) := by decide +kernel
theorem dX3_untilAllMet_25 : decode cX3_untilAllMet 25 = .ok (.if_icmp .ge 39, 3) := by decide +kernel
theorem dX3_untilAllMet_28 : decode cX3_untilAllMet 28 = .ok (.iload_n 1, 1) := by decide +kernel
theorem dX3_untilAllMet_29 : decode cX3_untilAllMet 29 = .ok (.ifCond .le 35, 3) := by decide +kernel
theorem dX3_untilAllMet_32 : decode cX3_untilAllMet 32 = .ok (.iload_n 2, 1) := by decide +kernel
theorem dX3_untilAllMet_33 : decode cX3_untilAllMet 33 = .ok (.invokestatic 118, 3) := by decide +kernel
theorem dX3_untilAllMet_36 : decode cX3_untilAllMet 36 = .ok (.istore_n 3, 1) := by decide +kernel
theorem dX3_untilAllMet_37 : decode cX3_untilAllMet 37 = .ok (.iload_n 1, 1) := by decide +kernel
theorem dX3_untilAllMet_38 : decode cX3_untilAllMet 38 = .ok (.aload_n 0, 1) := by decide +kernel
theorem dX3_untilAllMet_39 : decode cX3_untilAllMet 39 = .ok (.getfield 16, 3) := by decide +kernel
theorem dX3_untilAllMet_42 : decode cX3_untilAllMet 42 = .ok (.iload_n 3, 1) := by decide +kernel
theorem dX3_untilAllMet_43 : decode cX3_untilAllMet 43 = .ok (.iconst 3, 1) := by decide +kernel
theorem dX3_untilAllMet_44 : decode cX3_untilAllMet 44 = .ok (.invokevirtual 147, 3) := by decide +kernel
theorem dX3_untilAllMet_47 : decode cX3_untilAllMet 47 = .ok (.isub, 1) := by decide +kernel
theorem dX3_untilAllMet_48 : decode cX3_untilAllMet 48 = .ok (.istore_n 1, 1) := by decide +kernel
theorem dX3_untilAllMet_49 : decode cX3_untilAllMet 49 = .ok (.aload_n 0, 1) := by decide +kernel
theorem dX3_untilAllMet_50 : decode cX3_untilAllMet 50 = .ok (.getfield 16, 3) := by decide +kernel
theorem dX3_untilAllMet_53 : decode cX3_untilAllMet 53 = .ok (.iload_n 3, 1) := by decide +kernel
theorem dX3_untilAllMet_54 : decode cX3_untilAllMet 54 = .ok (.invokevirtual 79, 3) := by decide +kernel
theorem dX3_untilAllMet_57 : decode cX3_untilAllMet 57 = .ok (.pop, 1) := by decide +kernel
theorem dX3_untilAllMet_58 : decode cX3_untilAllMet 58 = .ok (.iinc 2 1, 3) := by decide +kernel
theorem dX3_untilAllMet_61 : decode cX3_untilAllMet 61 = .ok (.goto (-40), 3) := by decide +kernel
theorem dX3_untilAllMet_64 : decode cX3_untilAllMet 64 = .ok (.iload_n 1, 1) := by decide +kernel
theorem dX3_untilAllMet_65 : decode cX3_untilAllMet 65 = .ok (.ifCond .le 8, 3) := by decide +kernel
theorem dX3_untilAllMet_68 : decode cX3_untilAllMet 68 = .ok (.ldc 86, 2) := by decide +kernel
theorem dX3_untilAllMet_70 : decode cX3_untilAllMet 70 = .ok (.goto 18, 3) := by decide +kernel
theorem dX3_untilAllMet_73 : decode cX3_untilAllMet 73 = .ok (.aload_n 0, 1) := by decide +kernel
theorem dX3_untilAllMet_74 : decode cX3_untilAllMet 74 = .ok (.getfield 16, 3) := by decide +kernel
theorem dX3_untilAllMet_77 : decode cX3_untilAllMet 77 = .ok (.getfield 75, 3) := by decide +kernel
theorem dX3_untilAllMet_80 : decode cX3_untilAllMet 80 = .ok (.aload_n 0, 1) := by decide +kernel
theorem dX3_untilAllMet_81 : decode cX3_untilAllMet 81 = .ok (.getfield 12, 3) := by decide +kernel
theorem dX3_untilAllMet_84 : decode cX3_untilAllMet 84 = .ok (.getfield 75, 3) := by decide +kernel
theorem dX3_untilAllMet_87 : decode cX3_untilAllMet 87 = .ok (.isub, 1) := by decide +kernel
theorem dX3_untilAllMet_88 : decode cX3_untilAllMet 88 = .ok (.ireturn, 1) := by decide +kernel
set_option maxRecDepth 20000 in
theorem ggX3_put_X3_charactersIn : GoodIn wsX3_put wsX3_charactersIn := goodIn_r _ [8, 9, 10, 11] (by decide +kernel) (by decide +kernel)
set_option maxRecDepth 20000 in
theorem gX3_put_X3_charactersIn : GoodIn wsX3_put (va_wsS RX3 159 yX3_charactersIn wsX3_charactersIn) := goodIn_app (goodIn_of _ (by decide +kernel)) ggX3_put_X3_charactersIn
set_option maxRecDepth 20000 in
theorem ggX3_put_X1_append : GoodIn wsX3_put wsX1_append := goodIn_r _ [16, 17, 18, 19, 25, 26] (by decide +kernel) (by decide +kernel)
set_option maxRecDepth 20000 in
theorem gX3_put_X1_append : GoodIn wsX3_put (wsV RX3 163 RX1 yX1_append wsX1_append) := goodIn_app (goodIn_of _ (by decide +kernel)) ggX3_put_X1_append
theorem dX3_put_0 : decode cX3_put 0 = .ok (.lload_n 1, 1) := by decide +kernel
theorem dX3_put_1 : decode cX3_put 1 = .ok (.invokestatic 159, 3) := by decide +kernel
theorem dX3_put_4 : decode cX3_put 4 = .ok (.istore_n 3, 1) := by decide +kernel
theorem dX3_put_5 : decode cX3_put 5 = .ok (.iload_n 3, 1) := by decide +kernel
theorem dX3_put_6 : decode cX3_put 6 = .ok (.ifCond .ne 6, 3) := by decide +kernel
theorem dX3_put_9 : decode cX3_put 9 = .ok (.ldc 37, 2) := by decide +kernel
theorem dX3_put_11 : decode cX3_put 11 = .ok (.ireturn, 1) := by decide +kernel
theorem dX3_put_12 : decode cX3_put 12 = .ok (.aload_n 0, 1) := by decide +kernel
theorem dX3_put_13 : decode cX3_put 13 = .ok (.getfield 22, 3) := by decide +kernel
theorem dX3_put_16 : decode cX3_put 16 = .ok (.getfield 143, 3) := by decide +kernel
theorem dX3_put_19 : decode cX3_put 19 = .ok (.iload_n 3, 1) := by decide +kernel
theorem dX3_put_20 : decode cX3_put 20 = .ok (.iadd, 1) := by decide +kernel
theorem dX3_put_21 : decode cX3_put 21 = .ok (.bipush 60, 2) := by decide +kernel
theorem dX3_put_23 : decode cX3_put 23 = .ok (.if_icmp .le 6, 3) := by decide +kernel
theorem dX3_put_26 : decode cX3_put 26 = .ok (.ldc 78, 2) := by decide +kernel
theorem dX3_put_28 : decode cX3_put 28 = .ok (.ireturn, 1) := by decide +kernel
theorem dX3_put_29 : decode cX3_put 29 = .ok (.aload_n 0, 1) := by decide +kernel
theorem dX3_put_30 : decode cX3_put 30 = .ok (.getfield 22, 3) := by decide +kernel
theorem dX3_put_33 : decode cX3_put 33 = .ok (.lload_n 1, 1) := by decide +kernel
theorem dX3_put_34 : decode cX3_put 34 = .ok (.iload_n 3, 1) := by decide +kernel
theorem dX3_put_35 : decode cX3_put 35 = .ok (.invokevirtual 163, 3) := by decide +kernel
theorem dX3_put_38 : decode cX3_put 38 = .ok (.aload_n 0, 1) := by decide +kernel
theorem dX3_put_39 : decode cX3_put 39 = .ok (.getfield 22, 3) := by decide +kernel
theorem dX3_put_42 : decode cX3_put 42 = .ok (.getfield 143, 3) := by decide +kernel
theorem dX3_put_45 : decode cX3_put 45 = .ok (.ireturn, 1) := by decide +kernel
set_option maxRecDepth 20000 in
theorem ggX3_wipe_X1_empty : GoodIn wsX3_wipe wsX1_empty := goodIn_r _ [6, 7, 13, 14] (by decide +kernel) (by decide +kernel)
set_option maxRecDepth 20000 in
theorem gX3_wipe_X1_empty : GoodIn wsX3_wipe (wsV RX3 94 RX1 yX1_empty wsX1_empty) := goodIn_app (goodIn_of _ (by decide +kernel)) ggX3_wipe_X1_empty
theorem dX3_wipe_0 : decode cX3_wipe 0 = .ok (.aload_n 0, 1) := by decide +kernel
theorem dX3_wipe_1 : decode cX3_wipe 1 = .ok (.getfield 22, 3) := by decide +kernel
theorem dX3_wipe_4 : decode cX3_wipe 4 = .ok (.invokevirtual 94, 3) := by decide +kernel
theorem dX3_wipe_7 : decode cX3_wipe 7 = .ok (.ireturn, 1) := by decide +kernel
set_option maxRecDepth 20000 in
theorem ggX3_undo_X0_takeBackInto : GoodIn wsX3_undo wsX0_takeBackInto := goodIn_r _ [9, 10, 11, 12, 13, 14, 15, 16, 17, 18, 19, 20, 21, 22, 23, 24, 25, 26, 27, 28, 29, 30, 31, 32, 33, 34, 35, 36, 37, 38, 39, 40, 46, 47, 48, 49, 50, 51, 52, 53, 54, 55, 56, 57, 58, 59, 60] (by decide +kernel) (by decide +kernel)
set_option maxRecDepth 20000 in
theorem gX3_undo_X0_takeBackInto : GoodIn wsX3_undo (wsV RX3 167 RX0 yX0_takeBackInto wsX0_takeBackInto) := goodIn_app (goodIn_of _ (by decide +kernel)) ggX3_undo_X0_takeBackInto
theorem dX3_undo_0 : decode cX3_undo 0 = .ok (.aload_n 0, 1) := by decide +kernel
theorem dX3_undo_1 : decode cX3_undo 1 = .ok (.getfield 29, 3) := by decide +kernel
theorem dX3_undo_4 : decode cX3_undo 4 = .ok (.getfield 146, 3) := by decide +kernel
theorem dX3_undo_7 : decode cX3_undo 7 = .ok (.ifCond .ne 6, 3) := by decide +kernel
theorem dX3_undo_10 : decode cX3_undo 10 = .ok (.ldc 61, 2) := by decide +kernel
theorem dX3_undo_12 : decode cX3_undo 12 = .ok (.ireturn, 1) := by decide +kernel
theorem dX3_undo_13 : decode cX3_undo 13 = .ok (.aload_n 0, 1) := by decide +kernel
theorem dX3_undo_14 : decode cX3_undo 14 = .ok (.getfield 29, 3) := by decide +kernel
theorem dX3_undo_17 : decode cX3_undo 17 = .ok (.aload_n 0, 1) := by decide +kernel
theorem dX3_undo_18 : decode cX3_undo 18 = .ok (.getfield 12, 3) := by decide +kernel
theorem dX3_undo_21 : decode cX3_undo 21 = .ok (.invokevirtual 167, 3) := by decide +kernel
theorem dX3_undo_24 : decode cX3_undo 24 = .ok (.aload_n 0, 1) := by decide +kernel
theorem dX3_undo_25 : decode cX3_undo 25 = .ok (.getfield 29, 3) := by decide +kernel
theorem dX3_undo_28 : decode cX3_undo 28 = .ok (.getfield 146, 3) := by decide +kernel
theorem dX3_undo_31 : decode cX3_undo 31 = .ok (.ireturn, 1) := by decide +kernel
set_option maxRecDepth 20000 in
theorem ggX3_save_X3_isSlot : GoodIn wsX3_save wsX3_isSlot := goodIn_r _ [11] (by decide +kernel) (by decide +kernel)
set_option maxRecDepth 20000 in
theorem gX3_save_X3_isSlot : GoodIn wsX3_save (va_wsS RX3 170 yX3_isSlot wsX3_isSlot) := goodIn_app (goodIn_of _ (by decide +kernel)) ggX3_save_X3_isSlot
set_option maxRecDepth 20000 in
theorem ggX3_save_X2_init : GoodIn wsX3_save wsX2_init := goodIn_r _ [14, 15, 16, 17, 18, 19, 20, 21, 22, 23, 24, 25, 26, 27, 28, 29, 30, 31, 32, 33, 34, 35, 36, 57, 58, 59, 60, 61, 62, 63, 64, 65, 66, 67, 68, 69] (by decide +kernel) (by decide +kernel)
set_option maxRecDepth 20000 in
theorem gX3_save_X2_init : GoodIn wsX3_save (wsX2_init) := ggX3_save_X2_init
set_option maxRecDepth 20000 in
theorem ggX3_save_X2_copyFrom : GoodIn wsX3_save wsX2_copyFrom := goodIn_r _ [40, 19, 20, 21, 22, 23, 24, 25, 26, 27, 28, 29, 30, 32, 41, 42, 5, 43, 44, 45, 46, 47, 48, 49, 50, 51, 57, 58, 59, 60, 61, 62, 63, 64, 65, 66, 67, 68, 69] (by decide +kernel) (by decide +kernel)
set_option maxRecDepth 20000 in
theorem gX3_save_X2_copyFrom : GoodIn wsX3_save (wsV RX3 156 RX2 yX2_copyFrom wsX2_copyFrom) := goodIn_app (goodIn_of _ (by decide +kernel)) ggX3_save_X2_copyFrom
theorem dX3_save_0 : decode cX3_save 0 = .ok (.iload_n 1, 1) := by decide +kernel
theorem dX3_save_1 : decode cX3_save 1 = .ok (.invokestatic 170, 3) := by decide +kernel
theorem dX3_save_4 : decode cX3_save 4 = .ok (.ifCond .ne 6, 3) := by decide +kernel
theorem dX3_save_7 : decode cX3_save 7 = .ok (.ldc 37, 2) := by decide +kernel
theorem dX3_save_9 : decode cX3_save 9 = .ok (.ireturn, 1) := by decide +kernel
theorem dX3_save_10 : decode cX3_save 10 = .ok (.aload_n 0, 1) := by decide +kernel
theorem dX3_save_11 : decode cX3_save 11 = .ok (.getfield 33, 3) := by decide +kernel
theorem dX3_save_14 : decode cX3_save 14 = .ok (.iload_n 1, 1) := by decide +kernel
theorem dX3_save_15 : decode cX3_save 15 = .ok (.aaload, 1) := by decide +kernel
theorem dX3_save_16 : decode cX3_save 16 = .ok (.astore_n 2, 1) := by decide +kernel
theorem dX3_save_17 : decode cX3_save 17 = .ok (.aload_n 2, 1) := by decide +kernel
theorem dX3_save_18 : decode cX3_save 18 = .ok (.ifnonnull 18, 3) := by decide +kernel
theorem dX3_save_21 : decode cX3_save 21 = .ok (.new 9, 3) := by decide +kernel
theorem dX3_save_24 : decode cX3_save 24 = .ok (.dup, 1) := by decide +kernel
theorem dX3_save_25 : decode cX3_save 25 = .ok (.invokespecial 11, 3) := by decide +kernel
theorem dX3_save_28 : decode cX3_save 28 = .ok (.astore_n 2, 1) := by decide +kernel
theorem dX3_save_29 : decode cX3_save 29 = .ok (.aload_n 0, 1) := by decide +kernel
theorem dX3_save_30 : decode cX3_save 30 = .ok (.getfield 33, 3) := by decide +kernel
theorem dX3_save_33 : decode cX3_save 33 = .ok (.iload_n 1, 1) := by decide +kernel
theorem dX3_save_34 : decode cX3_save 34 = .ok (.aload_n 2, 1) := by decide +kernel
theorem dX3_save_35 : decode cX3_save 35 = .ok (.aastore, 1) := by decide +kernel
theorem dX3_save_36 : decode cX3_save 36 = .ok (.aload_n 2, 1) := by decide +kernel
theorem dX3_save_37 : decode cX3_save 37 = .ok (.aload_n 0, 1) := by decide +kernel
theorem dX3_save_38 : decode cX3_save 38 = .ok (.getfield 12, 3) := by decide +kernel
theorem dX3_save_41 : decode cX3_save 41 = .ok (.invokevirtual 156, 3) := by decide +kernel
theorem dX3_save_44 : decode cX3_save 44 = .ok (.aload_n 0, 1) := by decide +kernel
theorem dX3_save_45 : decode cX3_save 45 = .ok (.getfield 12, 3) := by decide +kernel
theorem dX3_save_48 : decode cX3_save 48 = .ok (.getfield 75, 3) := by decide +kernel
theorem dX3_save_51 : decode cX3_save 51 = .ok (.ireturn, 1) := by decide +kernel
set_option maxRecDepth 20000 in
theorem ggX3_restore_X3_isSlot : GoodIn wsX3_restore wsX3_isSlot := goodIn_r _ [10] (by decide +kernel) (by decide +kernel)
set_option maxRecDepth 20000 in
theorem gX3_restore_X3_isSlot : GoodIn wsX3_restore (va_wsS RX3 170 yX3_isSlot wsX3_isSlot) := goodIn_app (goodIn_of _ (by decide +kernel)) ggX3_restore_X3_isSlot
set_option maxRecDepth 20000 in
theorem ggX3_restore_X0_remember : GoodIn wsX3_restore wsX0_remember := goodIn_r _ [15, 16, 17, 18, 19, 20, 14, 21, 22, 23, 24, 25, 26, 27, 28, 29, 30, 31, 32, 33, 34, 35, 36, 37, 38, 39, 40, 41, 42, 43, 44, 45, 46, 47, 48, 49, 50, 70, 71, 57, 58, 59, 60, 61, 62, 63, 64, 65, 66, 67, 68, 69] (by decide +kernel) (by decide +kernel)
set_option maxRecDepth 20000 in
theorem gX3_restore_X0_remember : GoodIn wsX3_restore (wsV RX3 38 RX0 yX0_remember wsX0_remember) := goodIn_app (goodIn_of _ (by decide +kernel)) ggX3_restore_X0_remember
set_option maxRecDepth 20000 in
theorem ggX3_restore_X2_copyFrom : GoodIn wsX3_restore wsX2_copyFrom := goodIn_r _ [26, 27, 28, 29, 30, 31, 32, 33, 34, 35, 36, 37, 38, 39, 40, 41, 25, 42, 43, 44, 45, 46, 47, 48, 49, 50, 57, 58, 59, 60, 61, 62, 63, 64, 65, 66, 67, 68, 69] (by decide +kernel) (by decide +kernel)
set_option maxRecDepth 20000 in
theorem gX3_restore_X2_copyFrom : GoodIn wsX3_restore (wsV RX3 156 RX2 yX2_copyFrom wsX2_copyFrom) := goodIn_app (goodIn_of _ (by decide +kernel)) ggX3_restore_X2_copyFrom
theorem dX3_restore_0 : decode cX3_restore 0 = .ok (.iload_n 1, 1) := by decide +kernel
theorem dX3_restore_1 : decode cX3_restore 1 = .ok (.invokestatic 170, 3) := by decide +kernel
theorem dX3_restore_4 : decode cX3_restore 4 = .ok (.ifCond .ne 6, 3) := by decide +kernel
theorem dX3_restore_7 : decode cX3_restore 7 = .ok (.ldc 37, 2) := by decide +kernel
theorem dX3_restore_9 : decode cX3_restore 9 = .ok (.ireturn, 1) := by decide +kernel
theorem dX3_restore_10 : decode cX3_restore 10 = .ok (.aload_n 0, 1) := by decide +kernel
theorem dX3_restore_11 : decode cX3_restore 11 = .ok (.getfield 33, 3) := by decide +kernel
theorem dX3_restore_14 : decode cX3_restore 14 = .ok (.iload_n 1, 1) := by decide +kernel
theorem dX3_restore_15 : decode cX3_restore 15 = .ok (.aaload, 1) := by decide +kernel
theorem dX3_restore_16 : decode cX3_restore 16 = .ok (.astore_n 2, 1) := by decide +kernel
theorem dX3_restore_17 : decode cX3_restore 17 = .ok (.aload_n 2, 1) := by decide +kernel
theorem dX3_restore_18 : decode cX3_restore 18 = .ok (.ifnonnull 6, 3) := by decide +kernel
theorem dX3_restore_21 : decode cX3_restore 21 = .ok (.ldc 61, 2) := by decide +kernel
theorem dX3_restore_23 : decode cX3_restore 23 = .ok (.ireturn, 1) := by decide +kernel
theorem dX3_restore_24 : decode cX3_restore 24 = .ok (.aload_n 0, 1) := by decide +kernel
theorem dX3_restore_25 : decode cX3_restore 25 = .ok (.getfield 29, 3) := by decide +kernel
theorem dX3_restore_28 : decode cX3_restore 28 = .ok (.aload_n 0, 1) := by decide +kernel
theorem dX3_restore_29 : decode cX3_restore 29 = .ok (.getfield 12, 3) := by decide +kernel
theorem dX3_restore_32 : decode cX3_restore 32 = .ok (.invokevirtual 38, 3) := by decide +kernel
theorem dX3_restore_35 : decode cX3_restore 35 = .ok (.aload_n 0, 1) := by decide +kernel
theorem dX3_restore_36 : decode cX3_restore 36 = .ok (.getfield 12, 3) := by decide +kernel
theorem dX3_restore_39 : decode cX3_restore 39 = .ok (.aload_n 2, 1) := by decide +kernel
theorem dX3_restore_40 : decode cX3_restore 40 = .ok (.invokevirtual 156, 3) := by decide +kernel
theorem dX3_restore_43 : decode cX3_restore 43 = .ok (.aload_n 0, 1) := by decide +kernel
theorem dX3_restore_44 : decode cX3_restore 44 = .ok (.getfield 12, 3) := by decide +kernel
theorem dX3_restore_47 : decode cX3_restore 47 = .ok (.getfield 75, 3) := by decide +kernel
theorem dX3_restore_50 : decode cX3_restore 50 = .ok (.ireturn, 1) := by decide +kernel
theorem dX3_isVillager_0 : decode cX3_isVillager 0 = .ok (.iload_n 0, 1) := by decide +kernel
theorem dX3_isVillager_1 : decode cX3_isVillager 1 = .ok (.ifCond .lt 13, 3) := by decide +kernel
theorem dX3_isVillager_4 : decode cX3_isVillager 4 = .ok (.iload_n 0, 1) := by decide +kernel
theorem dX3_isVillager_5 : decode cX3_isVillager 5 = .ok (.bipush 9, 2) := by decide +kernel
theorem dX3_isVillager_7 : decode cX3_isVillager 7 = .ok (.if_icmp .ge 7, 3) := by decide +kernel
theorem dX3_isVillager_10 : decode cX3_isVillager 10 = .ok (.iconst 1, 1) := by decide +kernel
theorem dX3_isVillager_11 : decode cX3_isVillager 11 = .ok (.goto 4, 3) := by decide +kernel
theorem dX3_isVillager_14 : decode cX3_isVillager 14 = .ok (.iconst 0, 1) := by decide +kernel
theorem dX3_isVillager_15 : decode cX3_isVillager 15 = .ok (.ireturn, 1) := by decide +kernel
theorem dX3_isNumber_0 : decode cX3_isNumber 0 = .ok (.iload_n 0, 1) := by decide +kernel
theorem dX3_isNumber_1 : decode cX3_isNumber 1 = .ok (.ifCond .lt 14, 3) := by decide +kernel
theorem dX3_isNumber_4 : decode cX3_isNumber 4 = .ok (.iload_n 0, 1) := by decide +kernel
theorem dX3_isNumber_5 : decode cX3_isNumber 5 = .ok (.sipush 999, 3) := by decide +kernel
theorem dX3_isNumber_8 : decode cX3_isNumber 8 = .ok (.if_icmp .gt 7, 3) := by decide +kernel
theorem dX3_isNumber_11 : decode cX3_isNumber 11 = .ok (.iconst 1, 1) := by decide +kernel
theorem dX3_isNumber_12 : decode cX3_isNumber 12 = .ok (.goto 4, 3) := by decide +kernel
theorem dX3_isNumber_15 : decode cX3_isNumber 15 = .ok (.iconst 0, 1) := by decide +kernel
theorem dX3_isNumber_16 : decode cX3_isNumber 16 = .ok (.ireturn, 1) := by decide +kernel
theorem dX3_isSlot_0 : decode cX3_isSlot 0 = .ok (.iload_n 0, 1) := by decide +kernel
theorem dX3_isSlot_1 : decode cX3_isSlot 1 = .ok (.ifCond .lt 12, 3) := by decide +kernel
theorem dX3_isSlot_4 : decode cX3_isSlot 4 = .ok (.iload_n 0, 1) := by decide +kernel
theorem dX3_isSlot_5 : decode cX3_isSlot 5 = .ok (.iconst 2, 1) := by decide +kernel
theorem dX3_isSlot_6 : decode cX3_isSlot 6 = .ok (.if_icmp .ge 7, 3) := by decide +kernel
theorem dX3_isSlot_9 : decode cX3_isSlot 9 = .ok (.iconst 1, 1) := by decide +kernel
theorem dX3_isSlot_10 : decode cX3_isSlot 10 = .ok (.goto 4, 3) := by decide +kernel
theorem dX3_isSlot_13 : decode cX3_isSlot 13 = .ok (.iconst 0, 1) := by decide +kernel
theorem dX3_isSlot_14 : decode cX3_isSlot 14 = .ok (.ireturn, 1) := by decide +kernel
theorem dX3_pairIndex_0 : decode cX3_pairIndex 0 = .ok (.iload_n 0, 1) := by decide +kernel
theorem dX3_pairIndex_1 : decode cX3_pairIndex 1 = .ok (.iload_n 1, 1) := by decide +kernel
theorem dX3_pairIndex_2 : decode cX3_pairIndex 2 = .ok (.if_icmp .ge 12, 3) := by decide +kernel
theorem dX3_pairIndex_5 : decode cX3_pairIndex 5 = .ok (.iload_n 0, 1) := by decide +kernel
theorem dX3_pairIndex_6 : decode cX3_pairIndex 6 = .ok (.bipush 9, 2) := by decide +kernel
theorem dX3_pairIndex_8 : decode cX3_pairIndex 8 = .ok (.imul, 1) := by decide +kernel
theorem dX3_pairIndex_9 : decode cX3_pairIndex 9 = .ok (.iload_n 1, 1) := by decide +kernel
theorem dX3_pairIndex_10 : decode cX3_pairIndex 10 = .ok (.iadd, 1) := by decide +kernel
theorem dX3_pairIndex_11 : decode cX3_pairIndex 11 = .ok (.goto 9, 3) := by decide +kernel
theorem dX3_pairIndex_14 : decode cX3_pairIndex 14 = .ok (.iload_n 1, 1) := by decide +kernel
theorem dX3_pairIndex_15 : decode cX3_pairIndex 15 = .ok (.bipush 9, 2) := by decide +kernel
theorem dX3_pairIndex_17 : decode cX3_pairIndex 17 = .ok (.imul, 1) := by decide +kernel
theorem dX3_pairIndex_18 : decode cX3_pairIndex 18 = .ok (.iload_n 0, 1) := by decide +kernel
theorem dX3_pairIndex_19 : decode cX3_pairIndex 19 = .ok (.iadd, 1) := by decide +kernel
theorem dX3_pairIndex_20 : decode cX3_pairIndex 20 = .ok (.ireturn, 1) := by decide +kernel
set_option maxRecDepth 20000 in
theorem ggX3_counterpart_X3_remainderOf : GoodIn wsX3_counterpart wsX3_remainderOf := goodIn_r _ [4, 5, 6, 7, 8] (by decide +kernel) (by decide +kernel)
set_option maxRecDepth 20000 in
theorem gX3_counterpart_X3_remainderOf : GoodIn wsX3_counterpart (va_wsS RX3 118 yX3_remainderOf wsX3_remainderOf) := goodIn_app (goodIn_of _ (by decide +kernel)) ggX3_counterpart_X3_remainderOf
theorem dX3_counterpart_0 : decode cX3_counterpart 0 = .ok (.iload_n 1, 1) := by decide +kernel
theorem dX3_counterpart_1 : decode cX3_counterpart 1 = .ok (.iload_n 0, 1) := by decide +kernel
theorem dX3_counterpart_2 : decode cX3_counterpart 2 = .ok (.isub, 1) := by decide +kernel
theorem dX3_counterpart_3 : decode cX3_counterpart 3 = .ok (.invokestatic 118, 3) := by decide +kernel
theorem dX3_counterpart_6 : decode cX3_counterpart 6 = .ok (.ireturn, 1) := by decide +kernel
set_option maxRecDepth 20000 in
theorem ggX3_remainderOf_J9_floorMod_7cf53 : GoodIn wsX3_remainderOf wsJ9_floorMod_7cf53 := goodIn_r _ [4] (by decide +kernel) (by decide +kernel)
set_option maxRecDepth 20000 in
theorem gX3_remainderOf_J9_floorMod_7cf53 : GoodIn wsX3_remainderOf (va_wsS RX3 173 yJ9_floorMod_7cf53 wsJ9_floorMod_7cf53) := goodIn_app (goodIn_of _ (by decide +kernel)) ggX3_remainderOf_J9_floorMod_7cf53
theorem dX3_remainderOf_0 : decode cX3_remainderOf 0 = .ok (.iload_n 0, 1) := by decide +kernel
theorem dX3_remainderOf_1 : decode cX3_remainderOf 1 = .ok (.bipush 9, 2) := by decide +kernel
theorem dX3_remainderOf_3 : decode cX3_remainderOf 3 = .ok (.invokestatic 173, 3) := by decide +kernel
theorem dX3_remainderOf_6 : decode cX3_remainderOf 6 = .ok (.ireturn, 1) := by decide +kernel
theorem dX3_sumOf_0 : decode cX3_sumOf 0 = .ok (.iconst 0, 1) := by decide +kernel
theorem dX3_sumOf_1 : decode cX3_sumOf 1 = .ok (.istore_n 1, 1) := by decide +kernel
theorem dX3_sumOf_2 : decode cX3_sumOf 2 = .ok (.aload_n 0, 1) := by decide +kernel
theorem dX3_sumOf_3 : decode cX3_sumOf 3 = .ok (.astore_n 2, 1) := by decide +kernel
theorem dX3_sumOf_4 : decode cX3_sumOf 4 = .ok (.aload_n 2, 1) := by decide +kernel
theorem dX3_sumOf_5 : decode cX3_sumOf 5 = .ok (.arraylength, 1) := by decide +kernel
theorem dX3_sumOf_6 : decode cX3_sumOf 6 = .ok (.istore_n 3, 1) := by decide +kernel
theorem dX3_sumOf_7 : decode cX3_sumOf 7 = .ok (.iconst 0, 1) := by decide +kernel
theorem dX3_sumOf_8 : decode cX3_sumOf 8 = .ok (.istore 4, 2) := by decide +kernel
theorem dX3_sumOf_10 : decode cX3_sumOf 10 = .ok (.iload 4, 2) := by decide +kernel
theorem dX3_sumOf_12 : decode cX3_sumOf 12 = .ok (.iload_n 3, 1) := by decide +kernel
theorem dX3_sumOf_13 : decode cX3_sumOf 13 = .ok (.if_icmp .ge 20, 3) := by decide +kernel
theorem dX3_sumOf_16 : decode cX3_sumOf 16 = .ok (.aload_n 2, 1) := by decide +kernel
theorem dX3_sumOf_17 : decode cX3_sumOf 17 = .ok (.iload 4, 2) := by decide +kernel
theorem dX3_sumOf_19 : decode cX3_sumOf 19 = .ok (.iaload, 1) := by decide +kernel
theorem dX3_sumOf_20 : decode cX3_sumOf 20 = .ok (.istore 5, 2) := by decide +kernel
theorem dX3_sumOf_22 : decode cX3_sumOf 22 = .ok (.iload_n 1, 1) := by decide +kernel
theorem dX3_sumOf_23 : decode cX3_sumOf 23 = .ok (.iload 5, 2) := by decide +kernel
theorem dX3_sumOf_25 : decode cX3_sumOf 25 = .ok (.iadd, 1) := by decide +kernel
theorem dX3_sumOf_26 : decode cX3_sumOf 26 = .ok (.istore_n 1, 1) := by decide +kernel
theorem dX3_sumOf_27 : decode cX3_sumOf 27 = .ok (.iinc 4 1, 3) := by decide +kernel
theorem dX3_sumOf_30 : decode cX3_sumOf 30 = .ok (.goto (-20), 3) := by decide +kernel
theorem dX3_sumOf_33 : decode cX3_sumOf 33 = .ok (.iload_n 1, 1) := by decide +kernel
theorem dX3_sumOf_34 : decode cX3_sumOf 34 = .ok (.ireturn, 1) := by decide +kernel
theorem dX3_charactersIn_0 : decode cX3_charactersIn 0 = .ok (.lload_n 0, 1) := by decide +kernel
theorem dX3_charactersIn_1 : decode cX3_charactersIn 1 = .ok (.lstore_n 2, 1) := by decide +kernel
theorem dX3_charactersIn_2 : decode cX3_charactersIn 2 = .ok (.iconst 0, 1) := by decide +kernel
theorem dX3_charactersIn_3 : decode cX3_charactersIn 3 = .ok (.istore 4, 2) := by decide +kernel
theorem dX3_charactersIn_5 : decode cX3_charactersIn 5 = .ok (.lload_n 2, 1) := by decide +kernel
theorem dX3_charactersIn_6 : decode cX3_charactersIn 6 = .ok (.lconst 0, 1) := by decide +kernel
theorem dX3_charactersIn_7 : decode cX3_charactersIn 7 = .ok (.lcmp, 1) := by decide +kernel
theorem dX3_charactersIn_8 : decode cX3_charactersIn 8 = .ok (.ifCond .eq 48, 3) := by decide +kernel
theorem dX3_charactersIn_11 : decode cX3_charactersIn 11 = .ok (.iload 4, 2) := by decide +kernel
theorem dX3_charactersIn_13 : decode cX3_charactersIn 13 = .ok (.bipush 8, 2) := by decide +kernel
theorem dX3_charactersIn_15 : decode cX3_charactersIn 15 = .ok (.if_icmp .ge 41, 3) := by decide +kernel
theorem dX3_charactersIn_18 : decode cX3_charactersIn 18 = .ok (.lload_n 2, 1) := by decide +kernel
theorem dX3_charactersIn_19 : decode cX3_charactersIn 19 = .ok (.ldc2_w 178, 3) := by decide +kernel
theorem dX3_charactersIn_22 : decode cX3_charactersIn 22 = .ok (.land, 1) := by decide +kernel
theorem dX3_charactersIn_23 : decode cX3_charactersIn 23 = .ok (.lstore 5, 2) := by decide +kernel
theorem dX3_charactersIn_25 : decode cX3_charactersIn 25 = .ok (.lload 5, 2) := by decide +kernel
theorem dX3_charactersIn_27 : decode cX3_charactersIn 27 = .ok (.ldc2_w 180, 3) := by decide +kernel
theorem dX3_charactersIn_30 : decode cX3_charactersIn 30 = .ok (.lcmp, 1) := by decide +kernel
theorem dX3_charactersIn_31 : decode cX3_charactersIn 31 = .ok (.ifCond .lt 12, 3) := by decide +kernel
theorem dX3_charactersIn_34 : decode cX3_charactersIn 34 = .ok (.lload 5, 2) := by decide +kernel
theorem dX3_charactersIn_36 : decode cX3_charactersIn 36 = .ok (.ldc2_w 182, 3) := by decide +kernel
theorem dX3_charactersIn_39 : decode cX3_charactersIn 39 = .ok (.lcmp, 1) := by decide +kernel
theorem dX3_charactersIn_40 : decode cX3_charactersIn 40 = .ok (.ifCond .le 5, 3) := by decide +kernel
theorem dX3_charactersIn_43 : decode cX3_charactersIn 43 = .ok (.iconst 0, 1) := by decide +kernel
theorem dX3_charactersIn_44 : decode cX3_charactersIn 44 = .ok (.ireturn, 1) := by decide +kernel
theorem dX3_charactersIn_45 : decode cX3_charactersIn 45 = .ok (.lload_n 2, 1) := by decide +kernel
theorem dX3_charactersIn_46 : decode cX3_charactersIn 46 = .ok (.bipush 8, 2) := by decide +kernel
theorem dX3_charactersIn_48 : decode cX3_charactersIn 48 = .ok (.lushr, 1) := by decide +kernel
theorem dX3_charactersIn_49 : decode cX3_charactersIn 49 = .ok (.lstore_n 2, 1) := by decide +kernel
theorem dX3_charactersIn_50 : decode cX3_charactersIn 50 = .ok (.iinc 4 1, 3) := by decide +kernel
theorem dX3_charactersIn_53 : decode cX3_charactersIn 53 = .ok (.goto (-48), 3) := by decide +kernel
theorem dX3_charactersIn_56 : decode cX3_charactersIn 56 = .ok (.iload 4, 2) := by decide +kernel
theorem dX3_charactersIn_58 : decode cX3_charactersIn 58 = .ok (.ireturn, 1) := by decide +kernel
set_option maxRecDepth 20000 in
theorem ggX3_tellNumbersOfPad_X1_startsCall : GoodIn wsX3_tellNumbersOfPad wsX1_startsCall := goodIn_r _ [7, 8, 97, 98] (by decide +kernel) (by decide +kernel)
set_option maxRecDepth 20000 in
theorem gX3_tellNumbersOfPad_X1_startsCall : GoodIn wsX3_tellNumbersOfPad (wsV RX3 184 RX1 yX1_startsCall wsX1_startsCall) := goodIn_app (goodIn_of _ (by decide +kernel)) ggX3_tellNumbersOfPad_X1_startsCall
set_option maxRecDepth 20000 in
theorem ggX3_tellNumbersOfPad_X1_numberAt : GoodIn wsX3_tellNumbersOfPad wsX1_numberAt := goodIn_r _ [12, 13, 8, 14, 15, 16, 6, 17, 18, 19, 20, 97, 98] (by decide +kernel) (by decide +kernel)
set_option maxRecDepth 20000 in
theorem gX3_tellNumbersOfPad_X1_numberAt : GoodIn wsX3_tellNumbersOfPad (wsV RX3 187 RX1 yX1_numberAt wsX1_numberAt) := goodIn_app (goodIn_of _ (by decide +kernel)) ggX3_tellNumbersOfPad_X1_numberAt
set_option maxRecDepth 20000 in
theorem ggX3_tellNumbersOfPad_X1_timesAt : GoodIn wsX3_tellNumbersOfPad wsX1_timesAt := goodIn_r _ [24, 8, 14, 15, 16, 6, 17, 13, 97, 98] (by decide +kernel) (by decide +kernel)
set_option maxRecDepth 20000 in
theorem gX3_tellNumbersOfPad_X1_timesAt : GoodIn wsX3_tellNumbersOfPad (wsV RX3 190 RX1 yX1_timesAt wsX1_timesAt) := goodIn_app (goodIn_of _ (by decide +kernel)) ggX3_tellNumbersOfPad_X1_timesAt
set_option maxRecDepth 20000 in
theorem ggX3_tellNumbersOfPad_X3_tell : GoodIn wsX3_tellNumbersOfPad wsX3_tell := goodIn_r _ [29, 30, 31, 32, 33, 34, 35, 36, 37, 38, 39, 28, 40, 41, 42, 43, 44, 45, 46, 47, 48, 49, 50, 51, 52, 53, 54, 55, 56, 57, 58, 59, 60, 61, 62, 63, 64, 65, 66, 67, 68, 69, 70, 71, 72, 73, 74, 75, 76, 77, 78, 79, 80, 81, 82, 83, 84, 85, 86, 87, 88, 89, 90, 91, 92, 93, 94, 95, 96, 99, 100, 101, 102, 103, 104, 105, 106, 107, 108, 109, 110, 111] (by decide +kernel) (by decide +kernel)
set_option maxRecDepth 20000 in
theorem gX3_tellNumbersOfPad_X3_tell : GoodIn wsX3_tellNumbersOfPad (wsV RX3 193 RX3 yX3_tell wsX3_tell) := goodIn_app (goodIn_of _ (by decide +kernel)) ggX3_tellNumbersOfPad_X3_tell
theorem dX3_tellNumbersOfPad_0 : decode cX3_tellNumbersOfPad 0 = .ok (.iconst 0, 1) := by decide +kernel
theorem dX3_tellNumbersOfPad_1 : decode cX3_tellNumbersOfPad 1 = .ok (.istore_n 1, 1) := by decide +kernel
theorem dX3_tellNumbersOfPad_2 : decode cX3_tellNumbersOfPad 2 = .ok (.iconst 0, 1) := by decide +kernel
theorem dX3_tellNumbersOfPad_3 : decode cX3_tellNumbersOfPad 3 = .ok (.istore_n 2, 1) := by decide +kernel
theorem dX3_tellNumbersOfPad_4 : decode cX3_tellNumbersOfPad 4 = .ok (.iload_n 2, 1) := by decide +kernel
theorem dX3_tellNumbersOfPad_5 : decode cX3_tellNumbersOfPad 5 = .ok (.aload_n 0, 1) := by decide +kernel
theorem dX3_tellNumbersOfPad_6 : decode cX3_tellNumbersOfPad 6 = .ok (.getfield 22, 3) := by decide +kernel
theorem dX3_tellNumbersOfPad_9 : decode cX3_tellNumbersOfPad 9 = .ok (.getfield 143, 3) := by decide +kernel
theorem dX3_tellNumbersOfPad_12 : decode cX3_tellNumbersOfPad 12 = .ok (.if_icmp .ge 43, 3) := by decide +kernel
theorem dX3_tellNumbersOfPad_15 : decode cX3_tellNumbersOfPad 15 = .ok (.aload_n 0, 1) := by decide +kernel
theorem dX3_tellNumbersOfPad_16 : decode cX3_tellNumbersOfPad 16 = .ok (.getfield 22, 3) := by decide +kernel
theorem dX3_tellNumbersOfPad_19 : decode cX3_tellNumbersOfPad 19 = .ok (.iload_n 2, 1) := by decide +kernel
theorem dX3_tellNumbersOfPad_20 : decode cX3_tellNumbersOfPad 20 = .ok (.invokevirtual 184, 3) := by decide +kernel
theorem dX3_tellNumbersOfPad_23 : decode cX3_tellNumbersOfPad 23 = .ok (.ifCond .eq 26, 3) := by decide +kernel
theorem dX3_tellNumbersOfPad_26 : decode cX3_tellNumbersOfPad 26 = .ok (.iload_n 1, 1) := by decide +kernel
theorem dX3_tellNumbersOfPad_27 : decode cX3_tellNumbersOfPad 27 = .ok (.aload_n 0, 1) := by decide +kernel
theorem dX3_tellNumbersOfPad_28 : decode cX3_tellNumbersOfPad 28 = .ok (.aload_n 0, 1) := by decide +kernel
theorem dX3_tellNumbersOfPad_29 : decode cX3_tellNumbersOfPad 29 = .ok (.getfield 22, 3) := by decide +kernel
theorem dX3_tellNumbersOfPad_32 : decode cX3_tellNumbersOfPad 32 = .ok (.iload_n 2, 1) := by decide +kernel
theorem dX3_tellNumbersOfPad_33 : decode cX3_tellNumbersOfPad 33 = .ok (.invokevirtual 187, 3) := by decide +kernel
theorem dX3_tellNumbersOfPad_36 : decode cX3_tellNumbersOfPad 36 = .ok (.aload_n 0, 1) := by decide +kernel
theorem dX3_tellNumbersOfPad_37 : decode cX3_tellNumbersOfPad 37 = .ok (.getfield 22, 3) := by decide +kernel
theorem dX3_tellNumbersOfPad_40 : decode cX3_tellNumbersOfPad 40 = .ok (.iload_n 2, 1) := by decide +kernel
theorem dX3_tellNumbersOfPad_41 : decode cX3_tellNumbersOfPad 41 = .ok (.invokevirtual 190, 3) := by decide +kernel
theorem dX3_tellNumbersOfPad_44 : decode cX3_tellNumbersOfPad 44 = .ok (.invokevirtual 193, 3) := by decide +kernel
theorem dX3_tellNumbersOfPad_47 : decode cX3_tellNumbersOfPad 47 = .ok (.iadd, 1) := by decide +kernel
theorem dX3_tellNumbersOfPad_48 : decode cX3_tellNumbersOfPad 48 = .ok (.istore_n 1, 1) := by decide +kernel
theorem dX3_tellNumbersOfPad_49 : decode cX3_tellNumbersOfPad 49 = .ok (.iinc 2 1, 3) := by decide +kernel
theorem dX3_tellNumbersOfPad_52 : decode cX3_tellNumbersOfPad 52 = .ok (.goto (-48), 3) := by decide +kernel
theorem dX3_tellNumbersOfPad_55 : decode cX3_tellNumbersOfPad 55 = .ok (.iload_n 1, 1) := by decide +kernel
theorem dX3_tellNumbersOfPad_56 : decode cX3_tellNumbersOfPad 56 = .ok (.ireturn, 1) := by decide +kernel
set_option maxRecDepth 20000 in
theorem ggX3_tell_X2_danceRound : GoodIn wsX3_tell wsX2_danceRound := goodIn_r _ [6, 7, 8, 9, 10, 11, 12, 13, 14, 15, 16, 17, 18, 19, 20, 21, 22, 5, 23, 24, 25, 26, 27, 28, 29, 30, 31, 32, 33, 34, 35, 36, 37, 38, 39, 40, 41, 42, 43, 44, 45, 46, 47, 48, 49, 50, 51, 52, 53, 54, 55, 56, 57, 58, 59, 60, 61, 62, 63, 69, 70, 71, 72, 73, 74, 75, 76, 77, 78, 79, 80, 81] (by decide +kernel) (by decide +kernel)
set_option maxRecDepth 20000 in
theorem gX3_tell_X2_danceRound : GoodIn wsX3_tell (wsV RX3 79 RX2 yX2_danceRound wsX2_danceRound) := goodIn_app (goodIn_of _ (by decide +kernel)) ggX3_tell_X2_danceRound
theorem dX3_tell_0 : decode cX3_tell 0 = .ok (.iconst 0, 1) := by decide +kernel
theorem dX3_tell_1 : decode cX3_tell 1 = .ok (.istore_n 3, 1) := by decide +kernel
theorem dX3_tell_2 : decode cX3_tell 2 = .ok (.iconst 0, 1) := by decide +kernel
theorem dX3_tell_3 : decode cX3_tell 3 = .ok (.istore 4, 2) := by decide +kernel
theorem dX3_tell_5 : decode cX3_tell 5 = .ok (.iload 4, 2) := by decide +kernel
theorem dX3_tell_7 : decode cX3_tell 7 = .ok (.iload_n 2, 1) := by decide +kernel
theorem dX3_tell_8 : decode cX3_tell 8 = .ok (.if_icmp .ge 20, 3) := by decide +kernel
theorem dX3_tell_11 : decode cX3_tell 11 = .ok (.iload_n 3, 1) := by decide +kernel
theorem dX3_tell_12 : decode cX3_tell 12 = .ok (.aload_n 0, 1) := by decide +kernel
theorem dX3_tell_13 : decode cX3_tell 13 = .ok (.getfield 12, 3) := by decide +kernel
theorem dX3_tell_16 : decode cX3_tell 16 = .ok (.iload_n 1, 1) := by decide +kernel
theorem dX3_tell_17 : decode cX3_tell 17 = .ok (.invokevirtual 79, 3) := by decide +kernel
theorem dX3_tell_20 : decode cX3_tell 20 = .ok (.iadd, 1) := by decide +kernel
theorem dX3_tell_21 : decode cX3_tell 21 = .ok (.istore_n 3, 1) := by decide +kernel
theorem dX3_tell_22 : decode cX3_tell 22 = .ok (.iinc 4 1, 3) := by decide +kernel
theorem dX3_tell_25 : decode cX3_tell 25 = .ok (.goto (-20), 3) := by decide +kernel
theorem dX3_tell_28 : decode cX3_tell 28 = .ok (.iload_n 3, 1) := by decide +kernel
theorem dX3_tell_29 : decode cX3_tell 29 = .ok (.ireturn, 1) := by decide +kernel
theorem dJ6_bitCount_0f7a4_0 : decode cJ6_bitCount_0f7a4 0 = .ok (.iload_n 0, 1) := by decide +kernel
theorem dJ6_bitCount_0f7a4_1 : decode cJ6_bitCount_0f7a4 1 = .ok (.iload_n 0, 1) := by decide +kernel
theorem dJ6_bitCount_0f7a4_2 : decode cJ6_bitCount_0f7a4 2 = .ok (.iconst 1, 1) := by decide +kernel
theorem dJ6_bitCount_0f7a4_3 : decode cJ6_bitCount_0f7a4 3 = .ok (.iushr, 1) := by decide +kernel
theorem dJ6_bitCount_0f7a4_4 : decode cJ6_bitCount_0f7a4 4 = .ok (.ldc_w 265, 3) := by decide +kernel
theorem dJ6_bitCount_0f7a4_7 : decode cJ6_bitCount_0f7a4 7 = .ok (.iand, 1) := by decide +kernel
theorem dJ6_bitCount_0f7a4_8 : decode cJ6_bitCount_0f7a4 8 = .ok (.isub, 1) := by decide +kernel
theorem dJ6_bitCount_0f7a4_9 : decode cJ6_bitCount_0f7a4 9 = .ok (.istore_n 0, 1) := by decide +kernel
theorem dJ6_bitCount_0f7a4_10 : decode cJ6_bitCount_0f7a4 10 = .ok (.iload_n 0, 1) := by decide +kernel
theorem dJ6_bitCount_0f7a4_11 : decode cJ6_bitCount_0f7a4 11 = .ok (.ldc_w 266, 3) := by decide +kernel
theorem dJ6_bitCount_0f7a4_14 : decode cJ6_bitCount_0f7a4 14 = .ok (.iand, 1) := by decide +kernel
theorem dJ6_bitCount_0f7a4_15 : decode cJ6_bitCount_0f7a4 15 = .ok (.iload_n 0, 1) := by decide +kernel
theorem dJ6_bitCount_0f7a4_16 : decode cJ6_bitCount_0f7a4 16 = .ok (.iconst 2, 1) := by decide +kernel
theorem dJ6_bitCount_0f7a4_17 : decode cJ6_bitCount_0f7a4 17 = .ok (.iushr, 1) := by decide +kernel
theorem dJ6_bitCount_0f7a4_18 : decode cJ6_bitCount_0f7a4 18 = .ok (.ldc_w 266, 3) := by decide +kernel
theorem dJ6_bitCount_0f7a4_21 : decode cJ6_bitCount_0f7a4 21 = .ok (.iand, 1) := by decide +kernel
theorem dJ6_bitCount_0f7a4_22 : decode cJ6_bitCount_0f7a4 22 = .ok (.iadd, 1) := by decide +kernel
theorem dJ6_bitCount_0f7a4_23 : decode cJ6_bitCount_0f7a4 23 = .ok (.istore_n 0, 1) := by decide +kernel
theorem dJ6_bitCount_0f7a4_24 : decode cJ6_bitCount_0f7a4 24 = .ok (.iload_n 0, 1) := by decide +kernel
theorem dJ6_bitCount_0f7a4_25 : decode cJ6_bitCount_0f7a4 25 = .ok (.iload_n 0, 1) := by decide +kernel
theorem dJ6_bitCount_0f7a4_26 : decode cJ6_bitCount_0f7a4 26 = .ok (.iconst 4, 1) := by decide +kernel
theorem dJ6_bitCount_0f7a4_27 : decode cJ6_bitCount_0f7a4 27 = .ok (.iushr, 1) := by decide +kernel
theorem dJ6_bitCount_0f7a4_28 : decode cJ6_bitCount_0f7a4 28 = .ok (.iadd, 1) := by decide +kernel
theorem dJ6_bitCount_0f7a4_29 : decode cJ6_bitCount_0f7a4 29 = .ok (.ldc_w 267, 3) := by decide +kernel
theorem dJ6_bitCount_0f7a4_32 : decode cJ6_bitCount_0f7a4 32 = .ok (.iand, 1) := by decide +kernel
theorem dJ6_bitCount_0f7a4_33 : decode cJ6_bitCount_0f7a4 33 = .ok (.istore_n 0, 1) := by decide +kernel
theorem dJ6_bitCount_0f7a4_34 : decode cJ6_bitCount_0f7a4 34 = .ok (.iload_n 0, 1) := by decide +kernel
theorem dJ6_bitCount_0f7a4_35 : decode cJ6_bitCount_0f7a4 35 = .ok (.iload_n 0, 1) := by decide +kernel
theorem dJ6_bitCount_0f7a4_36 : decode cJ6_bitCount_0f7a4 36 = .ok (.bipush 8, 2) := by decide +kernel
theorem dJ6_bitCount_0f7a4_38 : decode cJ6_bitCount_0f7a4 38 = .ok (.iushr, 1) := by decide +kernel
theorem dJ6_bitCount_0f7a4_39 : decode cJ6_bitCount_0f7a4 39 = .ok (.iadd, 1) := by decide +kernel
theorem dJ6_bitCount_0f7a4_40 : decode cJ6_bitCount_0f7a4 40 = .ok (.istore_n 0, 1) := by decide +kernel
theorem dJ6_bitCount_0f7a4_41 : decode cJ6_bitCount_0f7a4 41 = .ok (.iload_n 0, 1) := by decide +kernel
theorem dJ6_bitCount_0f7a4_42 : decode cJ6_bitCount_0f7a4 42 = .ok (.iload_n 0, 1) := by decide +kernel
theorem dJ6_bitCount_0f7a4_43 : decode cJ6_bitCount_0f7a4 43 = .ok (.bipush 16, 2) := by decide +kernel
theorem dJ6_bitCount_0f7a4_45 : decode cJ6_bitCount_0f7a4 45 = .ok (.iushr, 1) := by decide +kernel
theorem dJ6_bitCount_0f7a4_46 : decode cJ6_bitCount_0f7a4 46 = .ok (.iadd, 1) := by decide +kernel
theorem dJ6_bitCount_0f7a4_47 : decode cJ6_bitCount_0f7a4 47 = .ok (.istore_n 0, 1) := by decide +kernel
theorem dJ6_bitCount_0f7a4_48 : decode cJ6_bitCount_0f7a4 48 = .ok (.iload_n 0, 1) := by decide +kernel
theorem dJ6_bitCount_0f7a4_49 : decode cJ6_bitCount_0f7a4 49 = .ok (.bipush 63, 2) := by decide +kernel
theorem dJ6_bitCount_0f7a4_51 : decode cJ6_bitCount_0f7a4 51 = .ok (.iand, 1) := by decide +kernel
theorem dJ6_bitCount_0f7a4_52 : decode cJ6_bitCount_0f7a4 52 = .ok (.ireturn, 1) := by decide +kernel
theorem dJ9_floorMod_7cf53_0 : decode cJ9_floorMod_7cf53 0 = .ok (.iload_n 0, 1) := by decide +kernel
theorem dJ9_floorMod_7cf53_1 : decode cJ9_floorMod_7cf53 1 = .ok (.iload_n 1, 1) := by decide +kernel
theorem dJ9_floorMod_7cf53_2 : decode cJ9_floorMod_7cf53 2 = .ok (.irem, 1) := by decide +kernel
theorem dJ9_floorMod_7cf53_3 : decode cJ9_floorMod_7cf53 3 = .ok (.istore_n 2, 1) := by decide +kernel
theorem dJ9_floorMod_7cf53_4 : decode cJ9_floorMod_7cf53 4 = .ok (.iload_n 0, 1) := by decide +kernel
theorem dJ9_floorMod_7cf53_5 : decode cJ9_floorMod_7cf53 5 = .ok (.iload_n 1, 1) := by decide +kernel
theorem dJ9_floorMod_7cf53_6 : decode cJ9_floorMod_7cf53 6 = .ok (.ixor, 1) := by decide +kernel
theorem dJ9_floorMod_7cf53_7 : decode cJ9_floorMod_7cf53 7 = .ok (.ifCond .ge 11, 3) := by decide +kernel
theorem dJ9_floorMod_7cf53_10 : decode cJ9_floorMod_7cf53 10 = .ok (.iload_n 2, 1) := by decide +kernel
theorem dJ9_floorMod_7cf53_11 : decode cJ9_floorMod_7cf53 11 = .ok (.ifCond .eq 7, 3) := by decide +kernel
theorem dJ9_floorMod_7cf53_14 : decode cJ9_floorMod_7cf53 14 = .ok (.iload_n 2, 1) := by decide +kernel
theorem dJ9_floorMod_7cf53_15 : decode cJ9_floorMod_7cf53 15 = .ok (.iload_n 1, 1) := by decide +kernel
theorem dJ9_floorMod_7cf53_16 : decode cJ9_floorMod_7cf53 16 = .ok (.iadd, 1) := by decide +kernel
theorem dJ9_floorMod_7cf53_17 : decode cJ9_floorMod_7cf53 17 = .ok (.ireturn, 1) := by decide +kernel
theorem dJ9_floorMod_7cf53_18 : decode cJ9_floorMod_7cf53 18 = .ok (.iload_n 2, 1) := by decide +kernel
theorem dJ9_floorMod_7cf53_19 : decode cJ9_floorMod_7cf53 19 = .ok (.ireturn, 1) := by decide +kernel
theorem dJ9_min_7cf53_0 : decode cJ9_min_7cf53 0 = .ok (.iload_n 0, 1) := by decide +kernel
theorem dJ9_min_7cf53_1 : decode cJ9_min_7cf53 1 = .ok (.iload_n 1, 1) := by decide +kernel
theorem dJ9_min_7cf53_2 : decode cJ9_min_7cf53 2 = .ok (.if_icmp .gt 7, 3) := by decide +kernel
theorem dJ9_min_7cf53_5 : decode cJ9_min_7cf53 5 = .ok (.iload_n 0, 1) := by decide +kernel
theorem dJ9_min_7cf53_6 : decode cJ9_min_7cf53 6 = .ok (.goto 4, 3) := by decide +kernel
theorem dJ9_min_7cf53_9 : decode cJ9_min_7cf53 9 = .ok (.iload_n 1, 1) := by decide +kernel
theorem dJ9_min_7cf53_10 : decode cJ9_min_7cf53 10 = .ok (.ireturn, 1) := by decide +kernel
theorem dJ7_fill_53178_0 : decode cJ7_fill_53178 0 = .ok (.iconst 0, 1) := by decide +kernel
theorem dJ7_fill_53178_1 : decode cJ7_fill_53178 1 = .ok (.istore_n 2, 1) := by decide +kernel
theorem dJ7_fill_53178_2 : decode cJ7_fill_53178 2 = .ok (.aload_n 0, 1) := by decide +kernel
theorem dJ7_fill_53178_3 : decode cJ7_fill_53178 3 = .ok (.arraylength, 1) := by decide +kernel
theorem dJ7_fill_53178_4 : decode cJ7_fill_53178 4 = .ok (.istore_n 3, 1) := by decide +kernel
theorem dJ7_fill_53178_5 : decode cJ7_fill_53178 5 = .ok (.iload_n 2, 1) := by decide +kernel
theorem dJ7_fill_53178_6 : decode cJ7_fill_53178 6 = .ok (.iload_n 3, 1) := by decide +kernel
theorem dJ7_fill_53178_7 : decode cJ7_fill_53178 7 = .ok (.if_icmp .ge 13, 3) := by decide +kernel
theorem dJ7_fill_53178_10 : decode cJ7_fill_53178 10 = .ok (.aload_n 0, 1) := by decide +kernel
theorem dJ7_fill_53178_11 : decode cJ7_fill_53178 11 = .ok (.iload_n 2, 1) := by decide +kernel
theorem dJ7_fill_53178_12 : decode cJ7_fill_53178 12 = .ok (.iload_n 1, 1) := by decide +kernel
theorem dJ7_fill_53178_13 : decode cJ7_fill_53178 13 = .ok (.iastore, 1) := by decide +kernel
theorem dJ7_fill_53178_14 : decode cJ7_fill_53178 14 = .ok (.iinc 2 1, 3) := by decide +kernel
theorem dJ7_fill_53178_17 : decode cJ7_fill_53178 17 = .ok (.goto (-12), 3) := by decide +kernel
theorem dJ7_fill_53178_20 : decode cJ7_fill_53178 20 = .ok (.return_, 1) := by decide +kernel
theorem dL_cell_0 : decode cL_cell 0 = .ok (.iload_n 1, 1) := by decide +kernel
theorem dL_cell_1 : decode cL_cell 1 = .ok (.aload_n 0, 1) := by decide +kernel
theorem dL_cell_2 : decode cL_cell 2 = .ok (.arraylength, 1) := by decide +kernel
theorem dL_cell_3 : decode cL_cell 3 = .ok (.if_icmp .ge 9, 3) := by decide +kernel
theorem dL_cell_6 : decode cL_cell 6 = .ok (.aload_n 0, 1) := by decide +kernel
theorem dL_cell_7 : decode cL_cell 7 = .ok (.iload_n 1, 1) := by decide +kernel
theorem dL_cell_8 : decode cL_cell 8 = .ok (.iaload, 1) := by decide +kernel
theorem dL_cell_9 : decode cL_cell 9 = .ok (.goto 11, 3) := by decide +kernel
theorem dL_cell_12 : decode cL_cell 12 = .ok (.ldc 7, 2) := by decide +kernel
theorem dL_cell_14 : decode cL_cell 14 = .ok (.iload_n 1, 1) := by decide +kernel
theorem dL_cell_15 : decode cL_cell 15 = .ok (.sipush 1451, 3) := by decide +kernel
theorem dL_cell_18 : decode cL_cell 18 = .ok (.iadd, 1) := by decide +kernel
theorem dL_cell_19 : decode cL_cell 19 = .ok (.imul, 1) := by decide +kernel
theorem dL_cell_20 : decode cL_cell 20 = .ok (.ireturn, 1) := by decide +kernel
theorem dL_up_0 : decode cL_up 0 = .ok (.iload_n 0, 1) := by decide +kernel
theorem dL_up_1 : decode cL_up 1 = .ok (.ldc 8, 2) := by decide +kernel
theorem dL_up_3 : decode cL_up 3 = .ok (.iand, 1) := by decide +kernel
theorem dL_up_4 : decode cL_up 4 = .ok (.iload_n 1, 1) := by decide +kernel
theorem dL_up_5 : decode cL_up 5 = .ok (.irem, 1) := by decide +kernel
theorem dL_up_6 : decode cL_up 6 = .ok (.ireturn, 1) := by decide +kernel
theorem dL_there_0 : decode cL_there 0 = .ok (.iconst 2, 1) := by decide +kernel
theorem dL_there_1 : decode cL_there 1 = .ok (.iload_n 0, 1) := by decide +kernel
theorem dL_there_2 : decode cL_there 2 = .ok (.imul, 1) := by decide +kernel
theorem dL_there_3 : decode cL_there 3 = .ok (.bipush 9, 2) := by decide +kernel
theorem dL_there_5 : decode cL_there 5 = .ok (.irem, 1) := by decide +kernel
theorem dL_there_6 : decode cL_there 6 = .ok (.ireturn, 1) := by decide +kernel
theorem dL_twice_0 : decode cL_twice 0 = .ok (.iconst 2, 1) := by decide +kernel
theorem dL_twice_1 : decode cL_twice 1 = .ok (.iload_n 0, 1) := by decide +kernel
theorem dL_twice_2 : decode cL_twice 2 = .ok (.imul, 1) := by decide +kernel
theorem dL_twice_3 : decode cL_twice 3 = .ok (.sipush 999, 3) := by decide +kernel
theorem dL_twice_6 : decode cL_twice 6 = .ok (.if_icmp .le 16, 3) := by decide +kernel
theorem dL_twice_9 : decode cL_twice 9 = .ok (.iconst 2, 1) := by decide +kernel
theorem dL_twice_10 : decode cL_twice 10 = .ok (.iload_n 0, 1) := by decide +kernel
theorem dL_twice_11 : decode cL_twice 11 = .ok (.imul, 1) := by decide +kernel
theorem dL_twice_12 : decode cL_twice 12 = .ok (.sipush 999, 3) := by decide +kernel
theorem dL_twice_15 : decode cL_twice 15 = .ok (.irem, 1) := by decide +kernel
theorem dL_twice_16 : decode cL_twice 16 = .ok (.bipush 9, 2) := by decide +kernel
theorem dL_twice_18 : decode cL_twice 18 = .ok (.irem, 1) := by decide +kernel
theorem dL_twice_19 : decode cL_twice 19 = .ok (.goto 6, 3) := by decide +kernel
theorem dL_twice_22 : decode cL_twice 22 = .ok (.iconst 2, 1) := by decide +kernel
theorem dL_twice_23 : decode cL_twice 23 = .ok (.iload_n 0, 1) := by decide +kernel
theorem dL_twice_24 : decode cL_twice 24 = .ok (.imul, 1) := by decide +kernel
theorem dL_twice_25 : decode cL_twice 25 = .ok (.ireturn, 1) := by decide +kernel
abbrev vwCl : List vw_C := [(RX0, TX0, 2), (RX1, TX1, 2), (RX2, TX2, 13), (RX3, TX3, 5)]
end
section
/-! MY LAYER: a method's contract in one form, its entry, its calls, its ends -/
abbrev YY : Type := ClassId × ClassId × ClassId
def ytys (Y : YY) : List (ClassId × FieldType) := [(Y.1, .int), (Y.2.1, .char), (Y.2.2, .object "NineDancers$Ring")]
def KN (U : State) : Prop := va_Nw (.methodLinkNest RX3 21 yX1_init "NineDancers") U ∧ va_Nw (.methodLinkNest RX2 75 yX3_counterpart "NineDancers") U ∧ va_Nw (.methodLinkNest RX2 107 yX3_pairIndex "NineDancers") U ∧ va_Nw (.methodLinkNest RX2 93 yX3_remainderOf "NineDancers") U ∧ va_AO "NineDancers$Ring" U
theorem KN.warm {s U : State} (hW : s.WarmedH U.vm) (h : KN s) : KN U := ⟨va_Nw.warmM hW h.1, va_Nw.warmM hW h.2.1, va_Nw.warmM hW h.2.2.1, va_Nw.warmM hW h.2.2.2.1, va_AO.moved hW.alike h.2.2.2.2⟩
theorem KN.same {u U : State} (e : u.vm = U.vm) (h : KN u) : KN U := ⟨va_Nw.same rfl e h.1, va_Nw.same rfl e h.2.1, va_Nw.same rfl e h.2.2.1, va_Nw.same rfl e h.2.2.2.1, va_AO.moved (e ▸ Vm.Alike.refl _) h.2.2.2.2⟩
def KK (D : va_G) (Y : YY) (U : State) : Prop := va_K D vwCl (ytys Y) U ∧ KN U
theorem KK.warm {D : va_G} {Y : YY} {s U : State} (hW : s.WarmedH U.vm) (h : KK D Y s) : KK D Y U := ⟨va_K.moved hW.alike h.1, h.2.warm hW⟩
def Pst (D : va_G) (Y : YY) (sz : Nat) (w : va_W) : State → Prop := fun U => U.heap.size = sz ∧ va_P D vwCl w U.heap ∧ KK D Y U ∧ va_D (fun _ => True) w
theorem Pst.blind {D : va_G} {Y : YY} {sz : Nat} {w : va_W} {av : List Value} : FrameBlind (va_Pc av (Pst D Y sz w)) := fun a U g mk q => ⟨q.1, q.2.1, q.2.2.1, ⟨va_K.moved (u := U) (U := U.calling g mk a) (Vm.Alike.refl U.vm) q.2.2.2.1.1, KN.same (u := U) (U := U.calling g mk a) rfl q.2.2.2.1.2⟩, q.2.2.2.2⟩
def Bst (D : va_G) (A : Nat → Prop) (w1 : va_W) (t : State) : Prop := va_P D vwCl w1 t.heap ∧ va_D A w1
abbrev Qsi (D : va_G) (post : Int32 → va_W → Prop) (A : Nat → Prop) : Array Value → State → Outcome → State → Prop := va_Qi post (Bst D A) A
abbrev Qsv (D : va_G) (post : va_W → Prop) (A : Nat → Prop) : Array Value → State → Outcome → State → Prop := va_Qv post (Bst D A) A
theorem ct_in {l : Launch} {y : MethodName} {ws ws' : List Cond} {rm : Room} {D : va_G} {Y : YY} {sz : Nat} {av : List Value} {w : va_W} {Qc : (Nat → Prop) → Array Value → State → Outcome → State → Prop} {mc ms : Nat} {cc : ByteArray} {maxL : Nat} {ret : Option FieldType}
    (hy : plainName y.cls = true) (hw : ws = Cond.code y cc maxL ret :: ws') (hn : (lg_sl av).length ≤ maxL)
    (body : ∀ (p : Program) (e : Env) (s : State) (m : MethodId) (below : List Frame) (meth : Method) (c : Code) (A : Nat → Prop) (ls : Array Slot), p.tables.exec = Jvm.exec → c.code = cc → meth.sig.returnType = ret → (∀ x ∈ ws, x.before av.toArray s = true) → s.vm.findClass y.cls = some m.cls → c.maxLocals = maxL → meth.locks = false → meth.name = y.name →
      s.heap.size = sz → (∀ q : Nat, s.heap.size ≤ q → A q) → va_P D vwCl w s.heap → va_D A w → KK D Y s → va_S A s.heap s.heap [] → lv_has ls maxL (lv_args 0 av) →
      W p l e (headSpec ws rm).room s m av.toArray below meth c s.heap [] 0 0 (MQ below (Qc A) av.toArray s mc ms A) (F0 m 0 ls [])) :
    Met l y ws rm (va_Pc av (Pst D Y sz w)) (Qc (va_A w sz)) mc ms (va_A w sz) := by
  refine Met.ofW (cc := cc) (maxL := maxL) (ret := ret) hy hw ?_
  intro p e s m args below meth c s₁ B hml hv
  obtain ⟨rfl, hsz, hP, hK, hD0⟩ := hv
  have hts := atoms_spec (ws := ws) B.pre
  have hown : s.vm.findClass y.cls = some m.cls := findClass_of_methodNamed B.named
  have hin : meth.name = y.name := (name_of_methodNamed B.named B.method).1
  have hl := lv_entry av (n := maxL) hn
  rw [lg_entry_eq]
  generalize (lg_sl av ++ List.replicate (maxL - (lg_sl av).length) Slot.unset).toArray = ls at hl ⊢
  exact body p e s m below meth c (va_A w sz) ls B.exec B.bytes B.returns hts hown hml B.notSynchronized hin hsz (fun q h => by rw [hsz] at h; exact Or.inr h) hP hD0.self hK va_S.rf hl
section MYW
variable {p : Program} {l : Launch} {e : Env} {R : Room} {s : State} {m : MethodId} {args : Array Value} {below : List Frame} {meth : Method} {c : Code} {H : Heap} {locs : List Loc} {cells slots : Nat} {Q : State → Prop}
variable {cc : ByteArray} {pc : Nat} {ls : Array Slot} {rest st0 : List Value} {D : va_G} {Y : YY} {A : Nat → Prop} {ws wc wr w1 w2 : va_W} {mc ms : Nat}
theorem ret_i {post : Int32 → va_W → Prop} {v : Int32} (hx : p.tables.exec = Jvm.exec) (hb : c.code = cc) (hr : meth.sig.returnType = some .int) (hlk : meth.locks = false) (hP : va_P D vwCl w1 H) (hD : va_D A w1) (hS : va_S A s.heap H locs) (hdg : decode cc pc = .ok (.ireturn, 1)) (hc : cells ≤ mc ∧ slots ≤ ms) (hq : post v w1) :
    W p l e R s m args below meth c H locs cells slots (MQ below (Qsi D post A) args s mc ms A) (F0 m pc ls [.int v]) := by
  refine W.widen hc.1 hc.2 ?_
  exact W.iret (v := v) hx hb hr (fun t ht hW => ⟨⟨v, w1, rfl, hq, by rw [ht]; exact hP, hD⟩, hS.F ht⟩) hS.2.2 hdg hlk
theorem ret_z {post : Int32 → va_W → Prop} {v : Int32} {ty : FieldType} (hx : p.tables.exec = Jvm.exec) (hb : c.code = cc) (hr : meth.sig.returnType = some ty) (hn : narrow ty (.int v) = .int v) (hlk : meth.locks = false) (hP : va_P D vwCl w1 H) (hD : va_D A w1) (hS : va_S A s.heap H locs) (hdg : decode cc pc = .ok (.ireturn, 1)) (hc : cells ≤ mc ∧ slots ≤ ms) (hq : post v w1) :
    W p l e R s m args below meth c H locs cells slots (MQ below (Qsi D post A) args s mc ms A) (F0 m pc ls [.int v]) := by
  refine W.widen hc.1 hc.2 ?_
  exact W.zret (v := v) hx hb hr hn (fun t ht hW => ⟨⟨v, w1, rfl, hq, by rw [ht]; exact hP, hD⟩, hS.F ht⟩) hS.2.2 hdg hlk
theorem ret_v {post : va_W → Prop} (hx : p.tables.exec = Jvm.exec) (hb : c.code = cc) (hr : meth.sig.returnType = none) (hlk : meth.locks = false) (hP : va_P D vwCl w1 H) (hD : va_D A w1) (hS : va_S A s.heap H locs) (hdg : decode cc pc = .ok (.return_, 1)) (hc : cells ≤ mc ∧ slots ≤ ms) (hq : post w1) :
    W p l e R s m args below meth c H locs cells slots (MQ below (Qsv D post A) args s mc ms A) (F0 m pc ls []) := by
  refine W.widen hc.1 hc.2 ?_
  exact W.vret hx hb hr (fun t ht hW => ⟨⟨w1, rfl, hq, by rw [ht]; exact hP, hD⟩, hS.F ht⟩) hS.2.2 hdg hlk
theorem my_pick {is : List Nat} {w : va_W} (hs : is.map (fun i => ws[i]?) = w.map some) (k : Nat) (q : Nat × va_E) (hq : w[k]? = some q) : ∃ i, is[k]? = some i ∧ ws[i]? = some q := by
  have h1 : (is.map (fun i => ws[i]?))[k]? = some (some q) := by rw [hs, List.getElem?_map, hq]; rfl
  rw [List.getElem?_map] at h1
  cases hi : is[k]? with
  | none => rw [hi] at h1; cases h1
  | some i => rw [hi] at h1; exact ⟨i, rfl, Option.some.inj h1⟩
theorem my_sub {is : List Nat} (hP : va_P D vwCl ws H) (hs : is.map (fun i => ws[i]?) = wc.map some) : va_P D vwCl wc H := fun k q hq => by
  obtain ⟨i, -, h⟩ := my_pick hs k q hq
  exact hP i q h
theorem pst_S {av : List Value} (hK : KK D Y s) (hP : va_P D vwCl ws H) (hD : va_D A ws) (isC : List Nat) (hC : isC.map (fun i => ws[i]?) = wc.map some) (hn : va_nd isC = true) : PreS s H (va_Pc av (Pst D Y H.size wc)) av :=
  ⟨Pst.blind, fun U hU hW => ⟨rfl, by rw [hU], by rw [hU]; exact my_sub hP hC, hK.warm hW, (hD.sub isC hn hC).weaken (fun _ _ _ _ => trivial)⟩⟩
theorem pst_V {As : List Value} {C : String} {T : u_T} {N ci b q0 : Nat} {fs : List Value} (hK : KK D Y s) (hP : va_P D vwCl ws H) (hD : va_D A ws) (isC : List Nat) (hC : isC.map (fun i => ws[i]?) = wc.map some) (hn : va_nd isC = true) (he : wc[q0]? = some (b, .inr (ci, fs))) (hc : vwCl[ci]? = some (C, T, N)) : PreV s H C b (va_Pc (.ref b :: As) (Pst D Y H.size wc)) As :=
  ⟨Pst.blind, va_recv hK.1 (my_sub hP hC) hc he, fun U hU hW => ⟨rfl, by rw [hU], by rw [hU]; exact my_sub hP hC, hK.warm hW, (hD.sub isC hn hC).weaken (fun _ _ _ _ => trivial)⟩⟩
/-- behind a call with an int: what it says, and the whole world in an order of yours -/
theorem ck_i {post : Int32 → va_W → Prop} {a : Array Value} (hr : va_Run p l e R s m args below meth c H locs cells slots mc ms (F0 m pc ls st0) rest (Qsi D post (va_A wc H.size) a) (va_A wc H.size))
    (hP : va_P D vwCl ws H) (hD : va_D A ws) (hS : va_S A s.heap H locs) (hA : ∀ q : Nat, s.heap.size ≤ q → A q) (isC isR : List Nat) (hC : isC.map (fun i => ws[i]?) = wc.map some) (hR : isR.map (fun i => ws[i]?) = wr.map some) (hn : va_nd isR = true) (hdis : ∀ i ∈ isR, i ∉ isC)
    (kk : ∀ (r : Int32) (w1 : va_W) (H1 : Heap) (locs1 : List Loc), post r w1 → va_P D vwCl (wr ++ w1) H1 → va_D A (wr ++ w1) → va_S A s.heap H1 locs1 → W p l e R s m args below meth c H1 locs1 (cells + mc) (slots + ms) Q (F0 m (pc + 3) ls (.int r :: rest))) : W p l e R s m args below meth c H locs cells slots Q (F0 m pc ls st0) := by
  have hF := va_free (wc := wc) hD hS hA isC hC
  refine va_calli hr hS (fun q _ h => hF q h) hF (fun r u t H1 locs1 ht hvm hw hB hz1 hk1 hS1 => ?_)
  obtain ⟨hP1, hD1⟩ := hB
  rw [ht] at hP1
  obtain ⟨h1, h2⟩ := va_join (wr := wr) (w1 := u) hP hD isC isR hC hR hn hdis hk1 hF hP1 hD1
  exact kk r u H1 locs1 hw h1 h2 hS1
theorem ck_v {post : va_W → Prop} {a : Array Value} (hr : va_Run p l e R s m args below meth c H locs cells slots mc ms (F0 m pc ls st0) rest (Qsv D post (va_A wc H.size) a) (va_A wc H.size))
    (hP : va_P D vwCl ws H) (hD : va_D A ws) (hS : va_S A s.heap H locs) (hA : ∀ q : Nat, s.heap.size ≤ q → A q) (isC isR : List Nat) (hC : isC.map (fun i => ws[i]?) = wc.map some) (hR : isR.map (fun i => ws[i]?) = wr.map some) (hn : va_nd isR = true) (hdis : ∀ i ∈ isR, i ∉ isC)
    (kk : ∀ (w1 : va_W) (H1 : Heap) (locs1 : List Loc), post w1 → va_P D vwCl (wr ++ w1) H1 → va_D A (wr ++ w1) → va_S A s.heap H1 locs1 → W p l e R s m args below meth c H1 locs1 (cells + mc) (slots + ms) Q (F0 m (pc + 3) ls rest)) : W p l e R s m args below meth c H locs cells slots Q (F0 m pc ls st0) := by
  have hF := va_free (wc := wc) hD hS hA isC hC
  refine va_callv hr hS (fun q _ h => hF q h) hF (fun u t H1 locs1 ht hvm hw hB hz1 hk1 hS1 => ?_)
  obtain ⟨hP1, hD1⟩ := hB
  rw [ht] at hP1
  obtain ⟨h1, h2⟩ := va_join (wr := wr) (w1 := u) hP hD isC isR hC hR hn hdis hk1 hF hP1 hD1
  exact kk u H1 locs1 hw h1 h2 hS1
/-- the same, where the answer and the world behind it are told -/
theorem ck_iD {r0 : Int32} {w0 ws' : va_W} {a : Array Value} (hr : va_Run p l e R s m args below meth c H locs cells slots 0 0 (F0 m pc ls st0) rest (Qsi D (fun r w => r = r0 ∧ w = w0) (va_A wc H.size) a) (va_A wc H.size))
    (hP : va_P D vwCl ws H) (hD : va_D A ws) (hS : va_S A s.heap H locs) (hA : ∀ q : Nat, s.heap.size ≤ q → A q) (isC isR pm : List Nat) (hC : isC.map (fun i => ws[i]?) = wc.map some) (hR : isR.map (fun i => ws[i]?) = wr.map some) (hn : va_nd isR = true) (hdis : ∀ i ∈ isR, i ∉ isC) (hp : pm.map (fun i => (wr ++ w0)[i]?) = ws'.map some) (hpn : va_nd pm = true)
    (kk : ∀ (H1 : Heap) (locs1 : List Loc), va_P D vwCl ws' H1 → va_D A ws' → va_S A s.heap H1 locs1 → W p l e R s m args below meth c H1 locs1 cells slots Q (F0 m (pc + 3) ls (.int r0 :: rest))) : W p l e R s m args below meth c H locs cells slots Q (F0 m pc ls st0) := by
  refine ck_i hr hP hD hS hA isC isR hC hR hn hdis (fun r w1 H1 locs1 hq h1 h2 h3 => ?_)
  obtain ⟨rfl, rfl⟩ := hq
  exact kk H1 locs1 (my_sub h1 hp) (h2.sub pm hpn hp) h3
theorem ck_vD {w0 ws' : va_W} {a : Array Value} (hr : va_Run p l e R s m args below meth c H locs cells slots 0 0 (F0 m pc ls st0) rest (Qsv D (fun w => w = w0) (va_A wc H.size) a) (va_A wc H.size))
    (hP : va_P D vwCl ws H) (hD : va_D A ws) (hS : va_S A s.heap H locs) (hA : ∀ q : Nat, s.heap.size ≤ q → A q) (isC isR pm : List Nat) (hC : isC.map (fun i => ws[i]?) = wc.map some) (hR : isR.map (fun i => ws[i]?) = wr.map some) (hn : va_nd isR = true) (hdis : ∀ i ∈ isR, i ∉ isC) (hp : pm.map (fun i => (wr ++ w0)[i]?) = ws'.map some) (hpn : va_nd pm = true)
    (kk : ∀ (H1 : Heap) (locs1 : List Loc), va_P D vwCl ws' H1 → va_D A ws' → va_S A s.heap H1 locs1 → W p l e R s m args below meth c H1 locs1 cells slots Q (F0 m (pc + 3) ls rest)) : W p l e R s m args below meth c H locs cells slots Q (F0 m pc ls st0) := by
  refine ck_v hr hP hD hS hA isC isR hC hR hn hdis (fun w1 H1 locs1 hq h1 h2 h3 => ?_)
  obtain rfl := hq
  exact kk H1 locs1 (my_sub h1 hp) (h2.sub pm hpn hp) h3
end MYW
/-! STATES AND WORLDS -/
/-- one place of a state's rows -/
def s2 (S : Nat → Nat → Int32) (k i : Nat) (x : Int32) : Nat → Nat → Int32 := fun a => cond (Nat.beq a k) (upd (S a) i x) (S a)
def fR (q : Nat → Nat) (S : Nat → Nat → Int32) : List Value := [.ref (q 0), .int (S 10 0), .ref (q 1), .ref (q 2), .ref (q 3), .ref (q 4), .ref (q 5), .ref (q 6), .ref (q 7), .ref (q 8), .ref (q 9), .int (S 10 1), .int (S 10 2)]
def wR (Y : YY) (r : Nat) (q : Nat → Nat) (S : Nat → Nat → Int32) : va_W := [(r, .inr (2, fR q S)), (q 0, .inl (Y.1, 3, .inl (S 0))), (q 1, .inl (Y.1, 9, .inl (S 1))), (q 2, .inl (Y.1, 9, .inl (S 2))), (q 3, .inl (Y.1, 9, .inl (S 3))), (q 4, .inl (Y.1, 9, .inl (S 4))), (q 5, .inl (Y.1, 9, .inl (S 5))), (q 6, .inl (Y.1, 81, .inl (S 6))), (q 7, .inl (Y.1, 81, .inl (S 7))), (q 8, .inl (Y.1, 81, .inl (S 8))), (q 9, .inl (Y.1, 9, .inl (S 9)))]
def wP (Y : YY) (p t : Nat) (S : Nat → Nat → Int32) : va_W := [(p, .inr (1, [.ref t, .int (S 1 0)])), (t, .inl (Y.2.1, 60, .inl (S 0)))]
def wX (x r tr p h sl : Nat) : va_W := [(x, .inr (3, [.ref r, .ref tr, .ref p, .ref h, .ref sl]))]
def wH (h st : Nat) (n : Int32) : va_W := [(h, .inr (0, [.ref st, .int n]))]
def wA (Y : YY) (a n : Nat) (f : Nat → Option Nat) : va_W := [(a, .inl (Y.2.2, n, .inr (.inr (.inr (.inr f)))))]
def wI (Y : YY) (a n : Nat) (f : Nat → Int32) : va_W := [(a, .inl (Y.1, n, .inl f))]
theorem my_lt {x y : Int32} {k N : Nat} (ex : x = nI k) (ey : y = nI N) (hN : N < 2 ^ 31) (hk : k ≤ N) (c : ¬ y ≤ x) : k < N := by
  rcases Nat.lt_or_ge k N with h | h
  · exact h
  · exact absurd (by rw [ex, ey]; exact nI_le h (by omega)) c
theorem nar01 {v : Int32} (h : v = 0 ∨ v = 1) : narrow .boolean (.int v) = .int v := by rcases h with rfl | rfl <;> rfl
/-- a whole row of a state -/
def sX (S : Nat → Nat → Int32) (k : Nat) (f : Nat → Int32) : Nat → Nat → Int32 := fun a => cond (Nat.beq a k) f (S a)
end
section
/-! MORE OF MY LAYER -/
theorem Met_ofWF {l : Launch} {y : MethodName} {ws ws' : List Cond} {rm : Room} {Pc : Array Value → State → Prop} {Qc : Array Value → State → Outcome → State → Prop} {mc ms : Nat} {free : Addr → Prop} {cc : ByteArray} {maxL : Nat} {ret : Option FieldType}
    (hy : plainFor y = true) (hw : ws = Cond.code y cc maxL ret :: ws')
    (body : ∀ p e s m args below meth c s₁, BodyLoose p l y (headSpec ws rm) cc maxL ret e s m args below meth c s₁ → c.maxLocals = maxL → Pc args s →
      W p l e (headSpec ws rm).room s m args below meth c s.heap [] 0 0 (MQ below Qc args s mc ms free) (entryFrame m args maxL)) : Met l y ws rm Pc Qc mc ms free := by
  refine MetFree.of_bodySF (code := cc) (maxLocals := maxL) (ret := ret) hy ?_ ?_
  · intro args s m h hn
    obtain ⟨meth, c, h1, h2, h3, h4, h5, h6, -, -⟩ := Cond.code_spec hn (atoms_spec (ws := ws) h _ (by rw [hw]; exact List.mem_cons_self))
    exact ⟨meth, c, h1, h2, h3, h4, h5, h6⟩
  · intro p e s m args below meth c s₁ B hml hP _
    have hh0 : s₁.heap = s.heap := by rw [B.state]; rfl
    obtain ⟨t, a1, o, b1, b2, b3⟩ := body p e s m args below meth c s₁ B hml hP s₁ hh0 (Stand.of_body B)
    exact ⟨t, o, a1, b1, b2, ⟨b3.1, b3.2⟩⟩
theorem ct_inF {l : Launch} {y : MethodName} {ws ws' : List Cond} {rm : Room} {D : va_G} {Y : YY} {sz : Nat} {av : List Value} {w : va_W} {Qc : (Nat → Prop) → Array Value → State → Outcome → State → Prop} {mc ms : Nat} {cc : ByteArray} {maxL : Nat} {ret : Option FieldType}
    (hy : plainFor y = true) (hw : ws = Cond.code y cc maxL ret :: ws') (hn : (lg_sl av).length ≤ maxL)
    (body : ∀ (p : Program) (e : Env) (s : State) (m : MethodId) (below : List Frame) (meth : Method) (c : Code) (A : Nat → Prop) (ls : Array Slot), p.tables.exec = Jvm.exec → c.code = cc → meth.sig.returnType = ret → (∀ x ∈ ws, x.before av.toArray s = true) → s.vm.findClass y.cls = some m.cls → c.maxLocals = maxL → meth.locks = false → meth.name = y.name →
      s.heap.size = sz → (∀ q : Nat, s.heap.size ≤ q → A q) → va_P D vwCl w s.heap → va_D A w → KK D Y s → va_S A s.heap s.heap [] → lv_has ls maxL (lv_args 0 av) →
      W p l e (headSpec ws rm).room s m av.toArray below meth c s.heap [] 0 0 (MQ below (Qc A) av.toArray s mc ms A) (F0 m 0 ls [])) :
    Met l y ws rm (va_Pc av (Pst D Y sz w)) (Qc (va_A w sz)) mc ms (va_A w sz) := by
  refine Met_ofWF (cc := cc) (maxL := maxL) (ret := ret) hy hw ?_
  intro p e s m args below meth c s₁ B hml hv
  obtain ⟨rfl, hsz, hP, hK, hD0⟩ := hv
  have hts := atoms_spec (ws := ws) B.pre
  have hown : s.vm.findClass y.cls = some m.cls := findClass_of_methodNamed B.named
  have hin : meth.name = y.name := (name_of_methodNamed B.named B.method).1
  have hl := lv_entry av (n := maxL) hn
  rw [lg_entry_eq]
  generalize (lg_sl av ++ List.replicate (maxL - (lg_sl av).length) Slot.unset).toArray = ls at hl ⊢
  exact body p e s m below meth c (va_A w sz) ls B.exec B.bytes B.returns hts hown hml B.notSynchronized hin hsz (fun q h => by rw [hsz] at h; exact Or.inr h) hP hD0.self hK va_S.rf hl
section MYX
variable {p : Program} {l : Launch} {e : Env} {R : Room} {s : State} {m : MethodId} {args : Array Value} {below : List Frame} {meth : Method} {c : Code} {H : Heap} {locs : List Loc} {cells slots : Nat} {Q : State → Prop}
variable {cc : ByteArray} {pc : Nat} {ls : Array Slot} {rest : List Value} {D : va_G} {cl : List vw_C} {A : Nat → Prop} {a : Nat} {tys : List (ClassId × FieldType)} {ws : va_W} {H0 : Heap}
theorem my_aldq (hexec : p.tables.exec = Jvm.exec) (hb : c.code = cc) (hK : va_K D cl tys s) (hP : va_P D cl ws H) (q0 t0 : Nat) {cA : ClassId} {C : String} {n : Nat} {f : Nat → Option Nat} (ha : ws[q0]? = some (a, .inl (cA, n, .inr (.inr (.inr (.inr f)))))) (ht : tys[t0]? = some (cA, .object C)) {i : Int32} (hin : vp_in i n) {v : Value} (hv : va_rf (f i.toNatClampNeg) = v) (hdg : decode cc pc = .ok (.aaload, 1))
    (kk : W p l e R s m args below meth c H locs cells slots Q (F0 m (pc + 1) ls (v :: rest))) : W p l e R s m args below meth c H locs cells slots Q (F0 m pc ls (.int i :: .ref a :: rest)) := by
  refine va_aldq hexec hb hK hP q0 t0 ha ht hin hdg ?_
  rw [hv]
  exact kk
end MYX
theorem my_wid {x : Int32} {n N : Nat} (h : vp_in x n) (h2 : n ≤ N) (hb : N < 2 ^ 31) : vp_in x N := by
  obtain ⟨j, hj, rfl⟩ := vp_in_of h (by omega)
  exact vp_in_nI (by omega) hb
theorem my_off (k : Nat) {x : Int32} {n N : Nat} (h : vp_in x n) (h2 : k + n ≤ N) (hb : N < 2 ^ 31) : vp_in (nI k + x) N := by
  obtain ⟨j, hj, rfl⟩ := vp_in_of h (by omega)
  rw [nI_add]
  exact vp_in_nI (by omega) hb
theorem my_add {x y : Int32} {n k N : Nat} (hx : vp_in x n) (hy : vp_in y k) (h2 : n + k ≤ N + 1) (hb : N + 1 < 2 ^ 31) : vp_in (x + y) N := by
  obtain ⟨i, hi, rfl⟩ := vp_in_of hx (by omega)
  obtain ⟨j, hj, rfl⟩ := vp_in_of hy (by omega)
  rw [nI_add]
  exact vp_in_nI (by omega) (by omega)
theorem my_rem {x : Int32} {n : Nat} (h : vp_in x n) (hn : n < 2 ^ 31) : vp_in (x - x / 9 * 9) 9 := by
  obtain ⟨i, hi, rfl⟩ := vp_in_of h hn
  rw [show (9 : Int32) = nI 9 from rfl, pk_rem (by omega) (by decide) (by decide)]
  exact vp_in_nI (Nat.mod_lt _ (by decide)) (by decide)
theorem my_lt2 {x y : Int32} {k N : Nat} (ex : x = nI k) (ey : y = nI N) (hN : N + 1 < 2 ^ 31) (hk : k ≤ N + 1) (c : ¬ y < x) : k < N + 1 := by
  rcases Nat.lt_or_ge k (N + 1) with h | h
  · exact h
  · exact absurd (by rw [ex, ey]; exact nI_lt (by omega) (by omega)) c
theorem df_X0 : ∀ j, j < 2 → defaultValue (tyX0 j) = vp_V [.null, .int 0] j := fun j hj => by
  rcases (show j = 0 ∨ j = 1 by omega) with rfl | rfl <;> rfl
theorem df_X1 : ∀ j, j < 2 → defaultValue (tyX1 j) = vp_V [.null, .int 0] j := fun j hj => by
  rcases (show j = 0 ∨ j = 1 by omega) with rfl | rfl <;> rfl
theorem df_X2 : ∀ j, j < 13 → defaultValue (tyX2 j) = vp_V [.null, .int 0, .null, .null, .null, .null, .null, .null, .null, .null, .null, .int 0, .int 0] j := fun j hj => by
  rcases (show j = 0 ∨ j = 1 ∨ j = 2 ∨ j = 3 ∨ j = 4 ∨ j = 5 ∨ j = 6 ∨ j = 7 ∨ j = 8 ∨ j = 9 ∨ j = 10 ∨ j = 11 ∨ j = 12 by omega) with rfl | rfl | rfl | rfl | rfl | rfl | rfl | rfl | rfl | rfl | rfl | rfl | rfl <;> rfl
theorem df_X3 : ∀ j, j < 5 → defaultValue (tyX3 j) = vp_V [.null, .null, .null, .null, .null] j := fun j hj => by
  rcases (show j = 0 ∨ j = 1 ∨ j = 2 ∨ j = 3 ∨ j = 4 by omega) with rfl | rfl | rfl | rfl | rfl <;> rfl
section MYN
variable {p : Program} {l : Launch} {e : Env} {R : Room} {s : State} {m : MethodId} {args : Array Value} {below : List Frame} {meth : Method} {c : Code} {H : Heap} {locs : List Loc} {cells slots : Nat} {Q : State → Prop}
variable {cc : ByteArray} {pc : Nat} {ls : Array Slot} {rest : List Value} {D : va_G} {Y : YY} {A : Nat → Prop} {ws : va_W} {H0 : Heap}
theorem my_newI (hx : p.tables.exec = Jvm.exec) (hb : c.code = cc) (harr : (Cond.arrayClass .int).before args s = true) (hK : KK D Y s) (hP : va_P D vwCl ws H) (hD : va_D A ws) (hS : va_S A H0 H locs) (hA : ∀ q : Nat, H0.size ≤ q → A q) {n : Int32} {N : Nat} (hn : n = nI N) (hN : N < 100000) (hcells : cells + 1 ≤ R.cells) (hslots : slots + N ≤ R.slots) (hdg : decode cc pc = .ok (.newarray .int, 2))
    (kk : ∀ (q : Nat) (H1 : Heap), va_P D vwCl (ws ++ [(q, .inl (Y.1, N, .inl (fun _ => 0)))]) H1 → va_D A (ws ++ [(q, .inl (Y.1, N, .inl (fun _ => 0)))]) → va_S A H0 H1 locs → W p l e R s m args below meth c H1 locs (cells + 1) (slots + N) Q (F0 m (pc + 2) ls (.ref q :: rest))) : W p l e R s m args below meth c H locs cells slots Q (F0 m pc ls (.int n :: rest)) := by
  refine va_newa (atype := .int) hx hb harr (ty := .int) rfl hK.1 hP hD hS hA (a0 := (N, .inl (fun _ => 0))) (fun cA => rfl) (by rw [hn]; exact nI_pos (by omega)) (N' := N) (by rw [hn]; exact nI_clamp (by omega)) (by show N * 4 ≤ _; omega) hcells hslots hdg (fun q cA H1 hK9 hP hD hS => ?_)
  obtain rfl : cA = Y.1 := Option.some.inj ((hK9.2 3 _ rfl).2.symm.trans (hK.1.2 0 _ rfl).2)
  exact kk q H1 hP hD hS
theorem my_newC (hx : p.tables.exec = Jvm.exec) (hb : c.code = cc) (harr : (Cond.arrayClass .char).before args s = true) (hK : KK D Y s) (hP : va_P D vwCl ws H) (hD : va_D A ws) (hS : va_S A H0 H locs) (hA : ∀ q : Nat, H0.size ≤ q → A q) {n : Int32} {N : Nat} (hn : n = nI N) (hN : N < 100000) (hcells : cells + 1 ≤ R.cells) (hslots : slots + N ≤ R.slots) (hdg : decode cc pc = .ok (.newarray .char, 2))
    (kk : ∀ (q : Nat) (H1 : Heap), va_P D vwCl (ws ++ [(q, .inl (Y.2.1, N, .inl (fun _ => 0)))]) H1 → va_D A (ws ++ [(q, .inl (Y.2.1, N, .inl (fun _ => 0)))]) → va_S A H0 H1 locs → W p l e R s m args below meth c H1 locs (cells + 1) (slots + N) Q (F0 m (pc + 2) ls (.ref q :: rest))) : W p l e R s m args below meth c H locs cells slots Q (F0 m pc ls (.int n :: rest)) := by
  refine va_newa (atype := .char) hx hb harr (ty := .char) rfl hK.1 hP hD hS hA (a0 := (N, .inl (fun _ => 0))) (fun cA => rfl) (by rw [hn]; exact nI_pos (by omega)) (N' := N) (by rw [hn]; exact nI_clamp (by omega)) (by show N * 2 ≤ _; omega) hcells hslots hdg (fun q cA H1 hK9 hP hD hS => ?_)
  obtain rfl : cA = Y.2.1 := Option.some.inj ((hK9.2 3 _ rfl).2.symm.trans (hK.1.2 1 _ rfl).2)
  exact kk q H1 hP hD hS
theorem my_newQ (hx : p.tables.exec = Jvm.exec) (hb : c.code = cc) {own : String} {index : Nat} (hown : s.vm.findClass own = some m.cls) (hcl : (Cond.classLink own index "NineDancers$Ring").before args s = true) (hK : KK D Y s) (hP : va_P D vwCl ws H) (hD : va_D A ws) (hS : va_S A H0 H locs) (hA : ∀ q : Nat, H0.size ≤ q → A q) {n : Int32} {N : Nat} (hn : n = nI N) (hN : N < 100000) (hcells : cells + 1 ≤ R.cells) (hslots : slots + N ≤ R.slots) (hdg : decode cc pc = .ok (.anewarray index, 3))
    (kk : ∀ (q : Nat) (H1 : Heap), va_P D vwCl (ws ++ wA Y q N (fun _ => none)) H1 → va_D A (ws ++ wA Y q N (fun _ => none)) → va_S A H0 H1 locs → W p l e R s m args below meth c H1 locs (cells + 1) (slots + N) Q (F0 m (pc + 3) ls (.ref q :: rest))) : W p l e R s m args below meth c H locs cells slots Q (F0 m pc ls (.int n :: rest)) := by
  refine va_newq hx hb hown hcl hK.2.2.2.2.2 hK.1 hP hD hS hA (by rw [hn]; exact nI_pos (by omega)) (N' := N) (by rw [hn]; exact nI_clamp (by omega)) (by omega) hcells hslots hdg (fun q cA H1 hK9 hP hD hS => ?_)
  obtain ⟨k1, c1, -, -, -, e1⟩ := (hK9.2 3 _ rfl).2
  obtain ⟨k2, c2, -, -, -, e2⟩ := (hK.1.2 2 _ rfl).2
  obtain rfl : cA = Y.2.2 := Option.some.inj (e1.symm.trans e2)
  exact kk q H1 hP hD hS
end MYN
end
section
def D_J9_floorMod_7cf53  (x : Int32) (y : Int32) : (Int32) := if 0 ≤ (x ^^^ y) then (x - x / y * y) else (if (x - x / y * y) = 0 then (x - x / y * y) else (x - x / y * y) + y)
set_option maxHeartbeats 4000000 in
set_option maxRecDepth 100000 in
theorem c_J9_floorMod_7cf53 (l : Launch) (D : va_G) (Y : YY) (sz : Nat) (x : Int32) (y : Int32) (hy : ¬ y = 0) : Met l yJ9_floorMod_7cf53 wsJ9_floorMod_7cf53 ({ frames := 0, cells := 0, slots := 0, locals := 0 } : Room) (va_Pc [.int x, .int y] (Pst D Y sz (([] : va_W)))) ((fun A : Nat → Prop => Qsi D (fun r9 w9 => r9 = D_J9_floorMod_7cf53 x y ∧ w9 = ([] : va_W)) A) (va_A (([] : va_W)) sz)) 0 0 (va_A (([] : va_W)) sz) := by
  refine ct_inF (cc := cJ9_floorMod_7cf53) (maxL := 3) (ret := (some .int)) (Qc := fun A : Nat → Prop => Qsi D (fun r9 w9 => r9 = D_J9_floorMod_7cf53 x y ∧ w9 = ([] : va_W)) A) (by decide +kernel) rfl (Nat.le_of_ble_eq_true rfl) ?_
  intro p e s m below meth c A ls hx hb hr hts hown hml hlk hin hsz hA hP hD hK hS hl
  have hown : s.vm.findClass RJ9 = some m.cls := hown
  have hl : lv_has ls 3 [(0, .int x), (1, .int y)] := hl
  show W p l e ({ frames := 0, cells := 0, slots := 0, locals := 0 } : Room) s m ([.int x, .int y] : List Value).toArray below meth c s.heap [] 0 0 (MQ below (Qsi D (fun r9 w9 => r9 = D_J9_floorMod_7cf53 x y ∧ w9 = ([] : va_W)) A) ([.int x, .int y] : List Value).toArray s 0 0 A) (F0 m 0 ls [])
  refine lv_iload_n hx hb dJ9_floorMod_7cf53_0 rfl (lv_at hl 0 rfl) ?_
  refine lv_iload_n hx hb dJ9_floorMod_7cf53_1 rfl (lv_at hl 1 rfl) ?_
  refine lv_irem hx hb dJ9_floorMod_7cf53_2 hy ?_
  refine lv_istore_n (lv' := [(2, .int (x - x / y * y)), (0, .int x), (1, .int y)]) hx hb dJ9_floorMod_7cf53_3 rfl hl (by decide) rfl (fun ls hl => ?_)
  refine lv_iload_n hx hb dJ9_floorMod_7cf53_4 rfl (lv_at hl 1 rfl) ?_
  refine lv_iload_n hx hb dJ9_floorMod_7cf53_5 rfl (lv_at hl 2 rfl) ?_
  refine lv_ixor hx hb dJ9_floorMod_7cf53_6 ?_
  refine lv_if_ge (tgt := 18) hx hb dJ9_floorMod_7cf53_7 (by decide) (fun c_1 => ?_) (fun c_1 => ?_)
  · refine lv_iload_n hx hb dJ9_floorMod_7cf53_18 rfl (lv_at hl 0 rfl) ?_
    have e9 : D_J9_floorMod_7cf53 x y = x - x / y * y := by rw [D_J9_floorMod_7cf53, if_pos c_1]
    exact ret_i hx hb hr hlk hP hD hS dJ9_floorMod_7cf53_19 ⟨Nat.zero_le _, Nat.zero_le _⟩ ⟨e9.symm, rfl⟩
  · refine lv_iload_n hx hb dJ9_floorMod_7cf53_10 rfl (lv_at hl 0 rfl) ?_
    refine lv_if_eq (tgt := 18) hx hb dJ9_floorMod_7cf53_11 (by decide) (fun c_2 => ?_) (fun c_2 => ?_)
    · refine lv_iload_n hx hb dJ9_floorMod_7cf53_18 rfl (lv_at hl 0 rfl) ?_
      have e9 : D_J9_floorMod_7cf53 x y = x - x / y * y := by rw [D_J9_floorMod_7cf53, if_neg c_1, if_pos c_2]
      exact ret_i hx hb hr hlk hP hD hS dJ9_floorMod_7cf53_19 ⟨Nat.zero_le _, Nat.zero_le _⟩ ⟨e9.symm, rfl⟩
    · refine lv_iload_n hx hb dJ9_floorMod_7cf53_14 rfl (lv_at hl 0 rfl) ?_
      refine lv_iload_n hx hb dJ9_floorMod_7cf53_15 rfl (lv_at hl 2 rfl) ?_
      refine lv_iadd hx hb dJ9_floorMod_7cf53_16 ?_
      have e9 : D_J9_floorMod_7cf53 x y = (x - x / y * y) + y := by rw [D_J9_floorMod_7cf53, if_neg c_1, if_neg c_2]
      exact ret_i hx hb hr hlk hP hD hS dJ9_floorMod_7cf53_17 ⟨Nat.zero_le _, Nat.zero_le _⟩ ⟨e9.symm, rfl⟩
def V_J6_bitCount_0f7a4_1 (x : Int32) : Int32 := x - (((x.toUInt32 >>> ((1 : Int32).toUInt32 &&& Int32.toUInt32 31)).toInt32) &&& 1431655765)
def V_J6_bitCount_0f7a4_2 (x : Int32) : Int32 := ((V_J6_bitCount_0f7a4_1 x) &&& 858993459) + ((((V_J6_bitCount_0f7a4_1 x).toUInt32 >>> ((2 : Int32).toUInt32 &&& Int32.toUInt32 31)).toInt32) &&& 858993459)
def V_J6_bitCount_0f7a4_3 (x : Int32) : Int32 := ((V_J6_bitCount_0f7a4_2 x) + (((V_J6_bitCount_0f7a4_2 x).toUInt32 >>> ((4 : Int32).toUInt32 &&& Int32.toUInt32 31)).toInt32)) &&& 252645135
def V_J6_bitCount_0f7a4_4 (x : Int32) : Int32 := (V_J6_bitCount_0f7a4_3 x) + (((V_J6_bitCount_0f7a4_3 x).toUInt32 >>> ((8 : Int32).toUInt32 &&& Int32.toUInt32 31)).toInt32)
def V_J6_bitCount_0f7a4_5 (x : Int32) : Int32 := (V_J6_bitCount_0f7a4_4 x) + (((V_J6_bitCount_0f7a4_4 x).toUInt32 >>> ((16 : Int32).toUInt32 &&& Int32.toUInt32 31)).toInt32)
def D_J6_bitCount_0f7a4  (x : Int32) : (Int32) := (V_J6_bitCount_0f7a4_5 x) &&& 63
set_option maxHeartbeats 4000000 in
set_option maxRecDepth 100000 in
theorem c_J6_bitCount_0f7a4 (l : Launch) (D : va_G) (Y : YY) (sz : Nat) (x : Int32) : Met l yJ6_bitCount_0f7a4 wsJ6_bitCount_0f7a4 ({ frames := 0, cells := 0, slots := 0, locals := 0 } : Room) (va_Pc [.int x] (Pst D Y sz (([] : va_W)))) ((fun A : Nat → Prop => Qsi D (fun r9 w9 => r9 = D_J6_bitCount_0f7a4 x ∧ w9 = ([] : va_W)) A) (va_A (([] : va_W)) sz)) 0 0 (va_A (([] : va_W)) sz) := by
  refine ct_in (cc := cJ6_bitCount_0f7a4) (maxL := 1) (ret := (some .int)) (Qc := fun A : Nat → Prop => Qsi D (fun r9 w9 => r9 = D_J6_bitCount_0f7a4 x ∧ w9 = ([] : va_W)) A) (by decide +kernel) rfl (Nat.le_of_ble_eq_true rfl) ?_
  intro p e s m below meth c A ls hx hb hr hts hown hml hlk hin hsz hA hP hD hK hS hl
  have hown : s.vm.findClass RJ6 = some m.cls := hown
  have hl : lv_has ls 1 [(0, .int x)] := hl
  show W p l e ({ frames := 0, cells := 0, slots := 0, locals := 0 } : Room) s m ([.int x] : List Value).toArray below meth c s.heap [] 0 0 (MQ below (Qsi D (fun r9 w9 => r9 = D_J6_bitCount_0f7a4 x ∧ w9 = ([] : va_W)) A) ([.int x] : List Value).toArray s 0 0 A) (F0 m 0 ls [])
  refine lv_iload_n hx hb dJ6_bitCount_0f7a4_0 rfl (lv_at hl 0 rfl) ?_
  refine lv_iload_n hx hb dJ6_bitCount_0f7a4_1 rfl (lv_at hl 0 rfl) ?_
  refine lv_iconst (v := 1) hx hb dJ6_bitCount_0f7a4_2 (by decide) ?_
  refine lv_iushr (v := (x.toUInt32 >>> ((1 : Int32).toUInt32 &&& Int32.toUInt32 31)).toInt32) hx hb dJ6_bitCount_0f7a4_3 rfl ?_
  refine lv_ldcw (v := 1431655765) hx hb hown (hts (.constant RJ6 265 (1431655765)) (by decide +kernel)) dJ6_bitCount_0f7a4_4 ?_
  refine lv_iand hx hb dJ6_bitCount_0f7a4_7 ?_
  refine lv_isub hx hb dJ6_bitCount_0f7a4_8 ?_
  refine lv_istore_n (lv' := [(0, .int (V_J6_bitCount_0f7a4_1 x))]) hx hb dJ6_bitCount_0f7a4_9 rfl hl (by decide) rfl (fun ls hl => ?_)
  refine lv_iload_n hx hb dJ6_bitCount_0f7a4_10 rfl (lv_at hl 0 rfl) ?_
  refine lv_ldcw (v := 858993459) hx hb hown (hts (.constant RJ6 266 (858993459)) (by decide +kernel)) dJ6_bitCount_0f7a4_11 ?_
  refine lv_iand hx hb dJ6_bitCount_0f7a4_14 ?_
  refine lv_iload_n hx hb dJ6_bitCount_0f7a4_15 rfl (lv_at hl 0 rfl) ?_
  refine lv_iconst (v := 2) hx hb dJ6_bitCount_0f7a4_16 (by decide) ?_
  refine lv_iushr (v := ((V_J6_bitCount_0f7a4_1 x).toUInt32 >>> ((2 : Int32).toUInt32 &&& Int32.toUInt32 31)).toInt32) hx hb dJ6_bitCount_0f7a4_17 rfl ?_
  refine lv_ldcw (v := 858993459) hx hb hown (hts (.constant RJ6 266 (858993459)) (by decide +kernel)) dJ6_bitCount_0f7a4_18 ?_
  refine lv_iand hx hb dJ6_bitCount_0f7a4_21 ?_
  refine lv_iadd hx hb dJ6_bitCount_0f7a4_22 ?_
  refine lv_istore_n (lv' := [(0, .int (V_J6_bitCount_0f7a4_2 x))]) hx hb dJ6_bitCount_0f7a4_23 rfl hl (by decide) rfl (fun ls hl => ?_)
  refine lv_iload_n hx hb dJ6_bitCount_0f7a4_24 rfl (lv_at hl 0 rfl) ?_
  refine lv_iload_n hx hb dJ6_bitCount_0f7a4_25 rfl (lv_at hl 0 rfl) ?_
  refine lv_iconst (v := 4) hx hb dJ6_bitCount_0f7a4_26 (by decide) ?_
  refine lv_iushr (v := ((V_J6_bitCount_0f7a4_2 x).toUInt32 >>> ((4 : Int32).toUInt32 &&& Int32.toUInt32 31)).toInt32) hx hb dJ6_bitCount_0f7a4_27 rfl ?_
  refine lv_iadd hx hb dJ6_bitCount_0f7a4_28 ?_
  refine lv_ldcw (v := 252645135) hx hb hown (hts (.constant RJ6 267 (252645135)) (by decide +kernel)) dJ6_bitCount_0f7a4_29 ?_
  refine lv_iand hx hb dJ6_bitCount_0f7a4_32 ?_
  refine lv_istore_n (lv' := [(0, .int (V_J6_bitCount_0f7a4_3 x))]) hx hb dJ6_bitCount_0f7a4_33 rfl hl (by decide) rfl (fun ls hl => ?_)
  refine lv_iload_n hx hb dJ6_bitCount_0f7a4_34 rfl (lv_at hl 0 rfl) ?_
  refine lv_iload_n hx hb dJ6_bitCount_0f7a4_35 rfl (lv_at hl 0 rfl) ?_
  refine lv_bipush (v := 8) hx hb dJ6_bitCount_0f7a4_36 (by decide) ?_
  refine lv_iushr (v := ((V_J6_bitCount_0f7a4_3 x).toUInt32 >>> ((8 : Int32).toUInt32 &&& Int32.toUInt32 31)).toInt32) hx hb dJ6_bitCount_0f7a4_38 rfl ?_
  refine lv_iadd hx hb dJ6_bitCount_0f7a4_39 ?_
  refine lv_istore_n (lv' := [(0, .int (V_J6_bitCount_0f7a4_4 x))]) hx hb dJ6_bitCount_0f7a4_40 rfl hl (by decide) rfl (fun ls hl => ?_)
  refine lv_iload_n hx hb dJ6_bitCount_0f7a4_41 rfl (lv_at hl 0 rfl) ?_
  refine lv_iload_n hx hb dJ6_bitCount_0f7a4_42 rfl (lv_at hl 0 rfl) ?_
  refine lv_bipush (v := 16) hx hb dJ6_bitCount_0f7a4_43 (by decide) ?_
  refine lv_iushr (v := ((V_J6_bitCount_0f7a4_4 x).toUInt32 >>> ((16 : Int32).toUInt32 &&& Int32.toUInt32 31)).toInt32) hx hb dJ6_bitCount_0f7a4_45 rfl ?_
  refine lv_iadd hx hb dJ6_bitCount_0f7a4_46 ?_
  refine lv_istore_n (lv' := [(0, .int (V_J6_bitCount_0f7a4_5 x))]) hx hb dJ6_bitCount_0f7a4_47 rfl hl (by decide) rfl (fun ls hl => ?_)
  refine lv_iload_n hx hb dJ6_bitCount_0f7a4_48 rfl (lv_at hl 0 rfl) ?_
  refine lv_bipush (v := 63) hx hb dJ6_bitCount_0f7a4_49 (by decide) ?_
  refine lv_iand hx hb dJ6_bitCount_0f7a4_51 ?_
  have e9 : D_J6_bitCount_0f7a4 x = (V_J6_bitCount_0f7a4_5 x) &&& 63 := by rw [D_J6_bitCount_0f7a4]
  exact ret_i hx hb hr hlk hP hD hS dJ6_bitCount_0f7a4_52 ⟨Nat.zero_le _, Nat.zero_le _⟩ ⟨e9.symm, rfl⟩
def T_J7_fill_53178_1 (v : Int32) (i : Int32) (f1 : Nat → Int32) : Nat → Int32 := upd f1 i.toNatClampNeg v
def L_J7_fill_53178_5 (n : Nat) (f : Nat → Int32) (v : Int32) : Nat → (Int32) → (Nat → Int32) → (Nat → Int32)
  | 0, i, f1 => f1
  | n_5 + 1, i, f1 => if (nI n) ≤ i then f1 else (L_J7_fill_53178_5 n f v n_5 (i + 1) (T_J7_fill_53178_1 v i f1))
def D_J7_fill_53178 (n : Nat) (f : Nat → Int32) (v : Int32) : (Nat → Int32) := (L_J7_fill_53178_5 n f v (n + 1) 0 f)
set_option maxHeartbeats 4000000 in
set_option maxRecDepth 100000 in
theorem c_J7_fill_53178 (l : Launch) (D : va_G) (Y : YY) (sz : Nat) (n : Nat) (f : Nat → Int32) (a : Nat) (v : Int32) (hn : n < 2 ^ 31) : Met l yJ7_fill_53178 wsJ7_fill_53178 ({ frames := 0, cells := 0, slots := 0, locals := 0 } : Room) (va_Pc [.ref a, .int v] (Pst D Y sz (wI Y a n f))) ((fun A : Nat → Prop => Qsv D (fun w9 => w9 = wI Y a n (D_J7_fill_53178 n f v)) A) (va_A (wI Y a n f) sz)) 0 0 (va_A (wI Y a n f) sz) := by
  refine ct_in (cc := cJ7_fill_53178) (maxL := 4) (ret := none) (Qc := fun A : Nat → Prop => Qsv D (fun w9 => w9 = wI Y a n (D_J7_fill_53178 n f v)) A) (by decide +kernel) rfl (Nat.le_of_ble_eq_true rfl) ?_
  intro p e s m below meth c A ls hx hb hr hts hown hml hlk hin hsz hA hP hD hK hS hl
  have hown : s.vm.findClass RJ7 = some m.cls := hown
  have hl : lv_has ls 4 [(0, .ref a), (1, .int v)] := hl
  show W p l e ({ frames := 0, cells := 0, slots := 0, locals := 0 } : Room) s m ([.ref a, .int v] : List Value).toArray below meth c s.heap [] 0 0 (MQ below (Qsv D (fun w9 => w9 = wI Y a n (D_J7_fill_53178 n f v)) A) ([.ref a, .int v] : List Value).toArray s 0 0 A) (F0 m 0 ls [])
  refine lv_iconst (v := 0) hx hb dJ7_fill_53178_0 (by decide) ?_
  refine lv_istore_n (lv' := [(2, .int 0), (0, .ref a), (1, .int v)]) hx hb dJ7_fill_53178_1 rfl hl (by decide) rfl (fun ls hl => ?_)
  refine lv_aload_n hx hb dJ7_fill_53178_2 rfl (lv_at hl 1 rfl) ?_
  refine va_alen (D := D) hx hb hK.1 hP 0 0 rfl rfl (v := nI n) rfl dJ7_fill_53178_3 ?_
  refine lv_istore_n (lv' := [(3, .int (nI n)), (2, .int 0), (0, .ref a), (1, .int v)]) hx hb dJ7_fill_53178_4 rfl hl (by decide) rfl (fun ls hl => ?_)
  have loop_5 : ∀ (n_5 k_5 : Nat) (i : Int32) (f1 : Nat → Int32) (H : Heap) (locs : List Loc) (ls : Array Slot), n + 1 ≤ k_5 + n_5 → k_5 ≤ n → i = nI k_5 → va_P D vwCl (wI Y a n f1) H → va_D A (wI Y a n f1) → va_S A s.heap H locs → lv_has ls 4 [(3, .int (nI n)), (2, .int i), (0, .ref a), (1, .int v)] → L_J7_fill_53178_5 n f v n_5 i f1 = L_J7_fill_53178_5 n f v (n + 1) 0 f → W p l e ({ frames := 0, cells := 0, slots := 0, locals := 0 } : Room) s m ([.ref a, .int v] : List Value).toArray below meth c H locs 0 0 (MQ below (Qsv D (fun w9 => w9 = wI Y a n (D_J7_fill_53178 n f v)) A) ([.ref a, .int v] : List Value).toArray s 0 0 A) (F0 m 5 ls []) := by
    intro n_5
    induction n_5 with
    | zero => intro k_5 i f1 H locs ls hkf hkN_5 ex_5 hP hD hS hl hR_5; exact absurd hkf (by omega)
    | succ n_5 ih_5 =>
      intro k_5 i f1 H locs ls hkf hkN_5 ex_5 hP hD hS hl hR_5
      refine lv_iload_n hx hb dJ7_fill_53178_5 rfl (lv_at hl 1 rfl) ?_
      refine lv_iload_n hx hb dJ7_fill_53178_6 rfl (lv_at hl 0 rfl) ?_
      refine lv_icmp_ge (tgt := 20) hx hb dJ7_fill_53178_7 (by decide) (fun c_1 => ?_) (fun c_1 => ?_)
      · have e8 : L_J7_fill_53178_5 n f v (n_5 + 1) i f1 = f1 := by rw [L_J7_fill_53178_5, if_pos c_1]
        have e8 := hR_5.symm.trans e8
        have ef1 : L_J7_fill_53178_5 n f v (n + 1) 0 f = f1 := by rw [e8]
        clear e8 hR_5 ih_5
        subst ef1
        have e9 : D_J7_fill_53178 n f v = (L_J7_fill_53178_5 n f v (n + 1) 0 f) := by rw [D_J7_fill_53178]
        exact ret_v hx hb hr hlk hP hD hS dJ7_fill_53178_20 ⟨Nat.zero_le _, Nat.zero_le _⟩ (by rw [e9])
      · have hk_5 := my_lt ex_5 (show (nI n : Int32) = nI n from rfl) (by omega) hkN_5 c_1
        refine lv_aload_n hx hb dJ7_fill_53178_10 rfl (lv_at hl 2 rfl) ?_
        refine lv_iload_n hx hb dJ7_fill_53178_11 rfl (lv_at hl 1 rfl) ?_
        refine lv_iload_n hx hb dJ7_fill_53178_12 rfl (lv_at hl 3 rfl) ?_
        refine va_iast (D := D) hx hb hK.1 hP hD hS 0 0 rfl rfl (by rw [ex_5]; exact vp_in_nI hk_5 (by omega)) dJ7_fill_53178_13 (fun H locs hP hD hS => ?_)
        have hP : va_P D vwCl (wI Y a n (T_J7_fill_53178_1 v i f1)) H := hP
        have hD : va_D A (wI Y a n (T_J7_fill_53178_1 v i f1)) := hD
        obtain ⟨S_1, eS_1⟩ : ∃ z9, T_J7_fill_53178_1 v i f1 = z9 := ⟨_, rfl⟩
        rw [eS_1] at hP hD
        refine lv_iinc (v := i + 1) (lv' := [(2, .int (i + 1)), (3, .int (nI n)), (0, .ref a), (1, .int v)]) hx hb dJ7_fill_53178_14 hl (k := 1) rfl rfl (by decide) rfl (fun ls hl => ?_)
        refine lv_goto (tgt := 5) hx hb dJ7_fill_53178_17 (by decide) ?_
        subst eS_1
        exact ih_5 (k_5 + 1) (i + 1) (T_J7_fill_53178_1 v i f1) _ _ _ (by omega) (by omega) (by rw [ex_5]; exact nI_1 k_5)  hP hD hS (lv_sub hl [1, 0, 2, 3] rfl) (by rw [L_J7_fill_53178_5, if_neg c_1] at hR_5; exact hR_5)
  exact loop_5 (n + 1) 0 0 f _ _ _ (by omega) (Nat.zero_le _) nI_0.symm  hP hD hS (lv_sub hl [0, 1, 2, 3] rfl) rfl
def D_X3_isVillager  (v : Int32) : (Int32) := if v < 0 then 0 else (if 9 ≤ v then 0 else 1)
set_option maxHeartbeats 4000000 in
set_option maxRecDepth 100000 in
theorem c_X3_isVillager (l : Launch) (D : va_G) (Y : YY) (sz : Nat) (v : Int32) : Met l yX3_isVillager wsX3_isVillager ({ frames := 0, cells := 0, slots := 0, locals := 0 } : Room) (va_Pc [.int v] (Pst D Y sz (([] : va_W)))) ((fun A : Nat → Prop => Qsi D (fun r9 w9 => r9 = D_X3_isVillager v ∧ w9 = ([] : va_W)) A) (va_A (([] : va_W)) sz)) 0 0 (va_A (([] : va_W)) sz) := by
  refine ct_in (cc := cX3_isVillager) (maxL := 1) (ret := (some .boolean)) (Qc := fun A : Nat → Prop => Qsi D (fun r9 w9 => r9 = D_X3_isVillager v ∧ w9 = ([] : va_W)) A) (by decide +kernel) rfl (Nat.le_of_ble_eq_true rfl) ?_
  intro p e s m below meth c A ls hx hb hr hts hown hml hlk hin hsz hA hP hD hK hS hl
  have hown : s.vm.findClass RX3 = some m.cls := hown
  have hl : lv_has ls 1 [(0, .int v)] := hl
  show W p l e ({ frames := 0, cells := 0, slots := 0, locals := 0 } : Room) s m ([.int v] : List Value).toArray below meth c s.heap [] 0 0 (MQ below (Qsi D (fun r9 w9 => r9 = D_X3_isVillager v ∧ w9 = ([] : va_W)) A) ([.int v] : List Value).toArray s 0 0 A) (F0 m 0 ls [])
  refine lv_iload_n hx hb dX3_isVillager_0 rfl (lv_at hl 0 rfl) ?_
  refine lv_if_lt (tgt := 14) hx hb dX3_isVillager_1 (by decide) (fun c_1 => ?_) (fun c_1 => ?_)
  · refine lv_iconst (v := 0) hx hb dX3_isVillager_14 (by decide) ?_
    have e9 : D_X3_isVillager v = 0 := by rw [D_X3_isVillager, if_pos c_1]
    exact ret_z hx hb hr rfl hlk hP hD hS dX3_isVillager_15 ⟨Nat.zero_le _, Nat.zero_le _⟩ ⟨e9.symm, rfl⟩
  · refine lv_iload_n hx hb dX3_isVillager_4 rfl (lv_at hl 0 rfl) ?_
    refine lv_bipush (v := 9) hx hb dX3_isVillager_5 (by decide) ?_
    refine lv_icmp_ge (tgt := 14) hx hb dX3_isVillager_7 (by decide) (fun c_2 => ?_) (fun c_2 => ?_)
    · refine lv_iconst (v := 0) hx hb dX3_isVillager_14 (by decide) ?_
      have e9 : D_X3_isVillager v = 0 := by rw [D_X3_isVillager, if_neg c_1, if_pos c_2]
      exact ret_z hx hb hr rfl hlk hP hD hS dX3_isVillager_15 ⟨Nat.zero_le _, Nat.zero_le _⟩ ⟨e9.symm, rfl⟩
    · refine lv_iconst (v := 1) hx hb dX3_isVillager_10 (by decide) ?_
      refine lv_goto (tgt := 15) hx hb dX3_isVillager_11 (by decide) ?_
      have e9 : D_X3_isVillager v = 1 := by rw [D_X3_isVillager, if_neg c_1, if_neg c_2]
      exact ret_z hx hb hr rfl hlk hP hD hS dX3_isVillager_15 ⟨Nat.zero_le _, Nat.zero_le _⟩ ⟨e9.symm, rfl⟩
theorem z_X3_isVillager  (v : Int32) : D_X3_isVillager v = 0 ∨ D_X3_isVillager v = 1 := by unfold D_X3_isVillager; (repeat' split) <;> simp
def D_X3_isNumber  (v : Int32) : (Int32) := if v < 0 then 0 else (if 999 < v then 0 else 1)
set_option maxHeartbeats 4000000 in
set_option maxRecDepth 100000 in
theorem c_X3_isNumber (l : Launch) (D : va_G) (Y : YY) (sz : Nat) (v : Int32) : Met l yX3_isNumber wsX3_isNumber ({ frames := 0, cells := 0, slots := 0, locals := 0 } : Room) (va_Pc [.int v] (Pst D Y sz (([] : va_W)))) ((fun A : Nat → Prop => Qsi D (fun r9 w9 => r9 = D_X3_isNumber v ∧ w9 = ([] : va_W)) A) (va_A (([] : va_W)) sz)) 0 0 (va_A (([] : va_W)) sz) := by
  refine ct_in (cc := cX3_isNumber) (maxL := 1) (ret := (some .boolean)) (Qc := fun A : Nat → Prop => Qsi D (fun r9 w9 => r9 = D_X3_isNumber v ∧ w9 = ([] : va_W)) A) (by decide +kernel) rfl (Nat.le_of_ble_eq_true rfl) ?_
  intro p e s m below meth c A ls hx hb hr hts hown hml hlk hin hsz hA hP hD hK hS hl
  have hown : s.vm.findClass RX3 = some m.cls := hown
  have hl : lv_has ls 1 [(0, .int v)] := hl
  show W p l e ({ frames := 0, cells := 0, slots := 0, locals := 0 } : Room) s m ([.int v] : List Value).toArray below meth c s.heap [] 0 0 (MQ below (Qsi D (fun r9 w9 => r9 = D_X3_isNumber v ∧ w9 = ([] : va_W)) A) ([.int v] : List Value).toArray s 0 0 A) (F0 m 0 ls [])
  refine lv_iload_n hx hb dX3_isNumber_0 rfl (lv_at hl 0 rfl) ?_
  refine lv_if_lt (tgt := 15) hx hb dX3_isNumber_1 (by decide) (fun c_1 => ?_) (fun c_1 => ?_)
  · refine lv_iconst (v := 0) hx hb dX3_isNumber_15 (by decide) ?_
    have e9 : D_X3_isNumber v = 0 := by rw [D_X3_isNumber, if_pos c_1]
    exact ret_z hx hb hr rfl hlk hP hD hS dX3_isNumber_16 ⟨Nat.zero_le _, Nat.zero_le _⟩ ⟨e9.symm, rfl⟩
  · refine lv_iload_n hx hb dX3_isNumber_4 rfl (lv_at hl 0 rfl) ?_
    refine lv_sipush (v := 999) hx hb dX3_isNumber_5 (by decide) ?_
    refine lv_icmp_gt (tgt := 15) hx hb dX3_isNumber_8 (by decide) (fun c_2 => ?_) (fun c_2 => ?_)
    · refine lv_iconst (v := 0) hx hb dX3_isNumber_15 (by decide) ?_
      have e9 : D_X3_isNumber v = 0 := by rw [D_X3_isNumber, if_neg c_1, if_pos c_2]
      exact ret_z hx hb hr rfl hlk hP hD hS dX3_isNumber_16 ⟨Nat.zero_le _, Nat.zero_le _⟩ ⟨e9.symm, rfl⟩
    · refine lv_iconst (v := 1) hx hb dX3_isNumber_11 (by decide) ?_
      refine lv_goto (tgt := 16) hx hb dX3_isNumber_12 (by decide) ?_
      have e9 : D_X3_isNumber v = 1 := by rw [D_X3_isNumber, if_neg c_1, if_neg c_2]
      exact ret_z hx hb hr rfl hlk hP hD hS dX3_isNumber_16 ⟨Nat.zero_le _, Nat.zero_le _⟩ ⟨e9.symm, rfl⟩
theorem z_X3_isNumber  (v : Int32) : D_X3_isNumber v = 0 ∨ D_X3_isNumber v = 1 := by unfold D_X3_isNumber; (repeat' split) <;> simp
def D_X3_isSlot  (v : Int32) : (Int32) := if v < 0 then 0 else (if 2 ≤ v then 0 else 1)
set_option maxHeartbeats 4000000 in
set_option maxRecDepth 100000 in
theorem c_X3_isSlot (l : Launch) (D : va_G) (Y : YY) (sz : Nat) (v : Int32) : Met l yX3_isSlot wsX3_isSlot ({ frames := 0, cells := 0, slots := 0, locals := 0 } : Room) (va_Pc [.int v] (Pst D Y sz (([] : va_W)))) ((fun A : Nat → Prop => Qsi D (fun r9 w9 => r9 = D_X3_isSlot v ∧ w9 = ([] : va_W)) A) (va_A (([] : va_W)) sz)) 0 0 (va_A (([] : va_W)) sz) := by
  refine ct_in (cc := cX3_isSlot) (maxL := 1) (ret := (some .boolean)) (Qc := fun A : Nat → Prop => Qsi D (fun r9 w9 => r9 = D_X3_isSlot v ∧ w9 = ([] : va_W)) A) (by decide +kernel) rfl (Nat.le_of_ble_eq_true rfl) ?_
  intro p e s m below meth c A ls hx hb hr hts hown hml hlk hin hsz hA hP hD hK hS hl
  have hown : s.vm.findClass RX3 = some m.cls := hown
  have hl : lv_has ls 1 [(0, .int v)] := hl
  show W p l e ({ frames := 0, cells := 0, slots := 0, locals := 0 } : Room) s m ([.int v] : List Value).toArray below meth c s.heap [] 0 0 (MQ below (Qsi D (fun r9 w9 => r9 = D_X3_isSlot v ∧ w9 = ([] : va_W)) A) ([.int v] : List Value).toArray s 0 0 A) (F0 m 0 ls [])
  refine lv_iload_n hx hb dX3_isSlot_0 rfl (lv_at hl 0 rfl) ?_
  refine lv_if_lt (tgt := 13) hx hb dX3_isSlot_1 (by decide) (fun c_1 => ?_) (fun c_1 => ?_)
  · refine lv_iconst (v := 0) hx hb dX3_isSlot_13 (by decide) ?_
    have e9 : D_X3_isSlot v = 0 := by rw [D_X3_isSlot, if_pos c_1]
    exact ret_z hx hb hr rfl hlk hP hD hS dX3_isSlot_14 ⟨Nat.zero_le _, Nat.zero_le _⟩ ⟨e9.symm, rfl⟩
  · refine lv_iload_n hx hb dX3_isSlot_4 rfl (lv_at hl 0 rfl) ?_
    refine lv_iconst (v := 2) hx hb dX3_isSlot_5 (by decide) ?_
    refine lv_icmp_ge (tgt := 13) hx hb dX3_isSlot_6 (by decide) (fun c_2 => ?_) (fun c_2 => ?_)
    · refine lv_iconst (v := 0) hx hb dX3_isSlot_13 (by decide) ?_
      have e9 : D_X3_isSlot v = 0 := by rw [D_X3_isSlot, if_neg c_1, if_pos c_2]
      exact ret_z hx hb hr rfl hlk hP hD hS dX3_isSlot_14 ⟨Nat.zero_le _, Nat.zero_le _⟩ ⟨e9.symm, rfl⟩
    · refine lv_iconst (v := 1) hx hb dX3_isSlot_9 (by decide) ?_
      refine lv_goto (tgt := 14) hx hb dX3_isSlot_10 (by decide) ?_
      have e9 : D_X3_isSlot v = 1 := by rw [D_X3_isSlot, if_neg c_1, if_neg c_2]
      exact ret_z hx hb hr rfl hlk hP hD hS dX3_isSlot_14 ⟨Nat.zero_le _, Nat.zero_le _⟩ ⟨e9.symm, rfl⟩
theorem z_X3_isSlot  (v : Int32) : D_X3_isSlot v = 0 ∨ D_X3_isSlot v = 1 := by unfold D_X3_isSlot; (repeat' split) <;> simp
def D_X3_remainderOf  (x : Int32) : (Int32) := D_J9_floorMod_7cf53 x 9
set_option maxHeartbeats 4000000 in
set_option maxRecDepth 100000 in
theorem c_X3_remainderOf (l : Launch) (D : va_G) (Y : YY) (sz : Nat) (x : Int32) : Met l yX3_remainderOf wsX3_remainderOf ({ frames := 1, cells := 0, slots := 0, locals := 22 } : Room) (va_Pc [.int x] (Pst D Y sz (([] : va_W)))) ((fun A : Nat → Prop => Qsi D (fun r9 w9 => r9 = D_X3_remainderOf x ∧ w9 = ([] : va_W)) A) (va_A (([] : va_W)) sz)) 0 0 (va_A (([] : va_W)) sz) := by
  refine ct_in (cc := cX3_remainderOf) (maxL := 1) (ret := (some .int)) (Qc := fun A : Nat → Prop => Qsi D (fun r9 w9 => r9 = D_X3_remainderOf x ∧ w9 = ([] : va_W)) A) (by decide +kernel) rfl (Nat.le_of_ble_eq_true rfl) ?_
  intro p e s m below meth c A ls hx hb hr hts hown hml hlk hin hsz hA hP hD hK hS hl
  have hown : s.vm.findClass RX3 = some m.cls := hown
  have hl : lv_has ls 1 [(0, .int x)] := hl
  show W p l e ({ frames := 1, cells := 0, slots := 0, locals := 22 } : Room) s m ([.int x] : List Value).toArray below meth c s.heap [] 0 0 (MQ below (Qsi D (fun r9 w9 => r9 = D_X3_remainderOf x ∧ w9 = ([] : va_W)) A) ([.int x] : List Value).toArray s 0 0 A) (F0 m 0 ls [])
  refine lv_iload_n hx hb dX3_remainderOf_0 rfl (lv_at hl 0 rfl) ?_
  refine lv_bipush (v := 9) hx hb dX3_remainderOf_1 (by decide) ?_
  refine ck_iD (wr := ([] : va_W)) (ws' := ([] : va_W)) (va_runS (As := [.int x, .int 9]) (rest := []) ⟨hx, hb, hml, hown, hts⟩ (c_J9_floorMod_7cf53 l D Y s.heap.size x 9 (by decide)) (va_cwS 2 hts gX3_remainderOf_J9_floorMod_7cf53 rfl rfl rfl (by decide +kernel) ⟨Nat.le_of_ble_eq_true rfl, Nat.le_of_ble_eq_true rfl⟩) (pst_S hK hP hD [] rfl (by decide)) rfl rfl hl.1 rfl (lv_room (Nat.le_of_ble_eq_true rfl)) dX3_remainderOf_3 ⟨Nat.zero_le _, Nat.zero_le _⟩) hP hD hS hA [] [] [] rfl rfl (by decide) (by decide) rfl (by decide) (fun H locs hP hD hS => ?_)
  have e9 : D_X3_remainderOf x = D_J9_floorMod_7cf53 x 9 := by rw [D_X3_remainderOf]
  exact ret_i hx hb hr hlk hP hD hS dX3_remainderOf_6 ⟨Nat.zero_le _, Nat.zero_le _⟩ ⟨e9.symm, rfl⟩
theorem sg0 (y : Int32) : 0 ≤ y ↔ y.toBitVec.msb = false := by
  rw [Int32.le_iff_toInt_le, BitVec.msb_eq_toInt, decide_eq_false_iff_not, Int.not_lt]
  exact Iff.rfl
theorem sgx (x : Int32) : 0 ≤ x ^^^ 9 ↔ 0 ≤ x.toInt := by
  rw [sg0, Int32.toBitVec_xor, BitVec.msb_xor, show (9 : Int32).toBitVec.msb = false from by decide, Bool.xor_false, BitVec.msb_eq_toInt, decide_eq_false_iff_not, Int.not_lt]
  exact Iff.rfl
theorem ti_fm (x : Int32) : (D_J9_floorMod_7cf53 x 9).toInt = x.toInt % 9 := by
  unfold D_J9_floorMod_7cf53
  rw [irem_eq_mod]
  have hm : (x % 9).toInt = x.toInt.tmod 9 := by rw [Int32.toInt_mod]; rfl
  by_cases h : 0 ≤ x ^^^ 9
  · rw [if_pos h, hm]
    have h1 := (sgx x).mp h
    rw [Int.tmod_eq_emod_of_nonneg h1]
  · rw [if_neg h]
    have h1 : ¬ 0 ≤ x.toInt := fun q => h ((sgx x).mpr q)
    have h2 : x.toInt.tmod 9 = -((-x.toInt) % 9) := by
      rw [← Int.tmod_eq_emod_of_nonneg (by omega : (0 : Int) ≤ -x.toInt), Int.neg_tmod, Int.neg_neg]
    by_cases h0 : x % 9 = 0
    · rw [if_pos h0, hm]
      have h3 : (x % 9).toInt = 0 := by rw [h0]; rfl
      rw [hm] at h3
      omega
    · rw [if_neg h0, Int32.toInt_add, hm, show (9 : Int32).toInt = 9 from rfl]
      have h3 : ¬ x.toInt.tmod 9 = 0 := fun q => h0 (Int32.toInt_inj.mp (by rw [hm, q]; rfl))
      rw [Int.bmod_eq_of_le_mul_two (by omega) (by omega)]
      omega
theorem ti_remainderOf (x : Int32) : (D_X3_remainderOf x).toInt = x.toInt % 9 := ti_fm x
theorem in_remainderOf (x : Int32) : vp_in (D_X3_remainderOf x) 9 := by
  rw [vp_in_iff, ti_remainderOf]
  omega
def D_X3_counterpart  (v : Int32) (n : Int32) : (Int32) := D_X3_remainderOf (n - v)
set_option maxHeartbeats 4000000 in
set_option maxRecDepth 100000 in
theorem c_X3_counterpart (l : Launch) (D : va_G) (Y : YY) (sz : Nat) (v : Int32) (n : Int32) : Met l yX3_counterpart wsX3_counterpart ({ frames := 2, cells := 0, slots := 0, locals := 42 } : Room) (va_Pc [.int v, .int n] (Pst D Y sz (([] : va_W)))) ((fun A : Nat → Prop => Qsi D (fun r9 w9 => r9 = D_X3_counterpart v n ∧ w9 = ([] : va_W)) A) (va_A (([] : va_W)) sz)) 0 0 (va_A (([] : va_W)) sz) := by
  refine ct_in (cc := cX3_counterpart) (maxL := 2) (ret := (some .int)) (Qc := fun A : Nat → Prop => Qsi D (fun r9 w9 => r9 = D_X3_counterpart v n ∧ w9 = ([] : va_W)) A) (by decide +kernel) rfl (Nat.le_of_ble_eq_true rfl) ?_
  intro p e s m below meth c A ls hx hb hr hts hown hml hlk hin hsz hA hP hD hK hS hl
  have hown : s.vm.findClass RX3 = some m.cls := hown
  have hl : lv_has ls 2 [(0, .int v), (1, .int n)] := hl
  show W p l e ({ frames := 2, cells := 0, slots := 0, locals := 42 } : Room) s m ([.int v, .int n] : List Value).toArray below meth c s.heap [] 0 0 (MQ below (Qsi D (fun r9 w9 => r9 = D_X3_counterpart v n ∧ w9 = ([] : va_W)) A) ([.int v, .int n] : List Value).toArray s 0 0 A) (F0 m 0 ls [])
  refine lv_iload_n hx hb dX3_counterpart_0 rfl (lv_at hl 1 rfl) ?_
  refine lv_iload_n hx hb dX3_counterpart_1 rfl (lv_at hl 0 rfl) ?_
  refine lv_isub hx hb dX3_counterpart_2 ?_
  refine ck_iD (wr := ([] : va_W)) (ws' := ([] : va_W)) (va_runS (As := [.int (n - v)]) (rest := []) ⟨hx, hb, hml, hown, hts⟩ (c_X3_remainderOf l D Y s.heap.size (n - v)) (va_cwS 1 hts gX3_counterpart_X3_remainderOf rfl rfl rfl (by decide +kernel) ⟨Nat.le_of_ble_eq_true rfl, Nat.le_of_ble_eq_true rfl⟩) (pst_S hK hP hD [] rfl (by decide)) rfl rfl hl.1 rfl (lv_room (Nat.le_of_ble_eq_true rfl)) dX3_counterpart_3 ⟨Nat.zero_le _, Nat.zero_le _⟩) hP hD hS hA [] [] [] rfl rfl (by decide) (by decide) rfl (by decide) (fun H locs hP hD hS => ?_)
  have e9 : D_X3_counterpart v n = D_X3_remainderOf (n - v) := by rw [D_X3_counterpart]
  exact ret_i hx hb hr hlk hP hD hS dX3_counterpart_6 ⟨Nat.zero_le _, Nat.zero_le _⟩ ⟨e9.symm, rfl⟩
theorem in_counterpart (v n : Int32) : vp_in (D_X3_counterpart v n) 9 := in_remainderOf _
def D_X3_pairIndex  (a : Int32) (b : Int32) : (Int32) := if b ≤ a then (b * 9) + a else (a * 9) + b
set_option maxHeartbeats 4000000 in
set_option maxRecDepth 100000 in
theorem c_X3_pairIndex (l : Launch) (D : va_G) (Y : YY) (sz : Nat) (a : Int32) (b : Int32) : Met l yX3_pairIndex wsX3_pairIndex ({ frames := 0, cells := 0, slots := 0, locals := 0 } : Room) (va_Pc [.int a, .int b] (Pst D Y sz (([] : va_W)))) ((fun A : Nat → Prop => Qsi D (fun r9 w9 => r9 = D_X3_pairIndex a b ∧ w9 = ([] : va_W)) A) (va_A (([] : va_W)) sz)) 0 0 (va_A (([] : va_W)) sz) := by
  refine ct_in (cc := cX3_pairIndex) (maxL := 2) (ret := (some .int)) (Qc := fun A : Nat → Prop => Qsi D (fun r9 w9 => r9 = D_X3_pairIndex a b ∧ w9 = ([] : va_W)) A) (by decide +kernel) rfl (Nat.le_of_ble_eq_true rfl) ?_
  intro p e s m below meth c A ls hx hb hr hts hown hml hlk hin hsz hA hP hD hK hS hl
  have hown : s.vm.findClass RX3 = some m.cls := hown
  have hl : lv_has ls 2 [(0, .int a), (1, .int b)] := hl
  show W p l e ({ frames := 0, cells := 0, slots := 0, locals := 0 } : Room) s m ([.int a, .int b] : List Value).toArray below meth c s.heap [] 0 0 (MQ below (Qsi D (fun r9 w9 => r9 = D_X3_pairIndex a b ∧ w9 = ([] : va_W)) A) ([.int a, .int b] : List Value).toArray s 0 0 A) (F0 m 0 ls [])
  refine lv_iload_n hx hb dX3_pairIndex_0 rfl (lv_at hl 0 rfl) ?_
  refine lv_iload_n hx hb dX3_pairIndex_1 rfl (lv_at hl 1 rfl) ?_
  refine lv_icmp_ge (tgt := 14) hx hb dX3_pairIndex_2 (by decide) (fun c_1 => ?_) (fun c_1 => ?_)
  · refine lv_iload_n hx hb dX3_pairIndex_14 rfl (lv_at hl 1 rfl) ?_
    refine lv_bipush (v := 9) hx hb dX3_pairIndex_15 (by decide) ?_
    refine lv_imul hx hb dX3_pairIndex_17 ?_
    refine lv_iload_n hx hb dX3_pairIndex_18 rfl (lv_at hl 0 rfl) ?_
    refine lv_iadd hx hb dX3_pairIndex_19 ?_
    have e9 : D_X3_pairIndex a b = (b * 9) + a := by rw [D_X3_pairIndex, if_pos c_1]
    exact ret_i hx hb hr hlk hP hD hS dX3_pairIndex_20 ⟨Nat.zero_le _, Nat.zero_le _⟩ ⟨e9.symm, rfl⟩
  · refine lv_iload_n hx hb dX3_pairIndex_5 rfl (lv_at hl 0 rfl) ?_
    refine lv_bipush (v := 9) hx hb dX3_pairIndex_6 (by decide) ?_
    refine lv_imul hx hb dX3_pairIndex_8 ?_
    refine lv_iload_n hx hb dX3_pairIndex_9 rfl (lv_at hl 1 rfl) ?_
    refine lv_iadd hx hb dX3_pairIndex_10 ?_
    refine lv_goto (tgt := 20) hx hb dX3_pairIndex_11 (by decide) ?_
    have e9 : D_X3_pairIndex a b = (a * 9) + b := by rw [D_X3_pairIndex, if_neg c_1]
    exact ret_i hx hb hr hlk hP hD hS dX3_pairIndex_20 ⟨Nat.zero_le _, Nat.zero_le _⟩ ⟨e9.symm, rfl⟩
theorem in_pairIndex {a b : Int32} (ha : vp_in a 9) (hb : vp_in b 9) : vp_in (D_X3_pairIndex a b) 81 := by
  obtain ⟨j, hj, rfl⟩ := vp_in_of ha (by decide)
  obtain ⟨k, hk, rfl⟩ := vp_in_of hb (by decide)
  unfold D_X3_pairIndex
  split <;> (rw [show (9 : Int32) = nI 9 from rfl, pk_mul, nI_add]; exact vp_in_nI (by omega) (by decide))
theorem my_mul (k : Nat) {x : Int32} {n N : Nat} (h : vp_in x n) (h2 : k * (n - 1) < N) (hb : N < 2 ^ 31) : vp_in (nI k * x) N := by
  rw [vp_in_iff] at h
  obtain ⟨j, hj, rfl⟩ : ∃ j : Nat, j < n ∧ x = nI j := ⟨x.toInt.toNat, by omega, Int32.toInt_inj.mp (by rw [nI_toInt (by have := Int32.toInt_lt x; omega)]; omega)⟩
  rw [pk_mul]
  refine vp_in_nI (Nat.lt_of_le_of_lt (Nat.mul_le_mul_left k (by omega)) h2) hb
theorem my_rgA {x K : Int32} {n : Nat} (h0 : ¬ x < 0) (h1 : x < K) (hK : K.toInt = n) (hn : n < 2 ^ 31) : vp_in x n := by
  rw [vp_in_iff]
  rw [Int32.lt_iff_toInt_lt] at h0 h1
  have : (0 : Int32).toInt = 0 := rfl
  omega
theorem my_rgB {x K : Int32} {n : Nat} (h0 : ¬ x < 0) (h1 : x ≤ K) (hK : K.toInt + 1 = n) (hn : n < 2 ^ 31) : vp_in x n := by
  rw [vp_in_iff]
  rw [Int32.lt_iff_toInt_lt] at h0
  rw [Int32.le_iff_toInt_le] at h1
  have : (0 : Int32).toInt = 0 := rfl
  omega
theorem my_rgC {x K : Int32} {n : Nat} (h0 : ¬ x < 0) (h1 : ¬ K ≤ x) (hK : K.toInt = n) (hn : n < 2 ^ 31) : vp_in x n := my_rgA h0 (Int32.not_le.mp h1) hK hn
theorem my_rgD {x K : Int32} {n : Nat} (h0 : ¬ x < 0) (h1 : ¬ K < x) (hK : K.toInt + 1 = n) (hn : n < 2 ^ 31) : vp_in x n := my_rgB h0 (Int32.not_lt.mp h1) hK hn
theorem f3_isVillager {x : Int32} (h : ¬ D_X3_isVillager x = 0) : vp_in x 9 := by
  unfold D_X3_isVillager at h
  rw [vp_in_iff]
  simp only [Int32.lt_iff_toInt_lt, Int32.le_iff_toInt_le] at h
  have : (0 : Int32).toInt = 0 := rfl
  have : (9 : Int32).toInt = 9 := rfl
  split at h
  · exact absurd rfl h
  · split at h
    · exact absurd rfl h
    · omega
theorem f3_isNumber {x : Int32} (h : ¬ D_X3_isNumber x = 0) : vp_in x 1000 := by
  unfold D_X3_isNumber at h
  rw [vp_in_iff]
  simp only [Int32.lt_iff_toInt_lt, Int32.le_iff_toInt_le] at h
  have : (0 : Int32).toInt = 0 := rfl
  have : (999 : Int32).toInt = 999 := rfl
  split at h
  · exact absurd rfl h
  · split at h
    · exact absurd rfl h
    · omega
theorem f3_isSlot {x : Int32} (h : ¬ D_X3_isSlot x = 0) : vp_in x 2 := by
  unfold D_X3_isSlot at h
  rw [vp_in_iff]
  simp only [Int32.lt_iff_toInt_lt, Int32.le_iff_toInt_le] at h
  have : (0 : Int32).toInt = 0 := rfl
  have : (2 : Int32).toInt = 2 := rfl
  split at h
  · exact absurd rfl h
  · split at h
    · exact absurd rfl h
    · omega
end
section
def D_X2_isThere (S : Nat → Nat → Int32) (v : Int32) : (Int32) := if ((S 10 0) &&& (1 <<< (v &&& 31))) = 0 then 0 else 1
set_option maxRecDepth 100000 in
theorem in_X2_isThere_RX2 : ∀ w ∈ u_ws RX2 TX2 13, w ∈ wsX2_isThere := by decide +kernel
set_option maxHeartbeats 4000000 in
set_option maxRecDepth 100000 in
theorem c_X2_isThere (l : Launch) (D : va_G) (Y : YY) (sz : Nat) (q : Nat → Nat) (S : Nat → Nat → Int32) (r : Nat) (v : Int32) : Met l yX2_isThere wsX2_isThere ({ frames := 0, cells := 0, slots := 0, locals := 0 } : Room) (va_Pc [.ref r, .int v] (Pst D Y sz (wR Y r q S))) ((fun A : Nat → Prop => Qsi D (fun r9 w9 => r9 = D_X2_isThere S v ∧ w9 = wR Y r q S) A) (va_A (wR Y r q S) sz)) 0 0 (va_A (wR Y r q S) sz) := by
  refine ct_in (cc := cX2_isThere) (maxL := 2) (ret := (some .boolean)) (Qc := fun A : Nat → Prop => Qsi D (fun r9 w9 => r9 = D_X2_isThere S v ∧ w9 = wR Y r q S) A) (by decide +kernel) rfl (Nat.le_of_ble_eq_true rfl) ?_
  intro p e s m below meth c A ls hx hb hr hts hown hml hlk hin hsz hA hP hD hK hS hl
  have hown : s.vm.findClass RX2 = some m.cls := hown
  have hl : lv_has ls 2 [(0, .ref r), (1, .int v)] := hl
  show W p l e ({ frames := 0, cells := 0, slots := 0, locals := 0 } : Room) s m ([.ref r, .int v] : List Value).toArray below meth c s.heap [] 0 0 (MQ below (Qsi D (fun r9 w9 => r9 = D_X2_isThere S v ∧ w9 = wR Y r q S) A) ([.ref r, .int v] : List Value).toArray s 0 0 A) (F0 m 0 ls [])
  refine lv_aload_n hx hb dX2_isThere_0 rfl (lv_at hl 0 rfl) ?_
  refine va_get (D := D) (ci := 2) (v := .int (S 10 0)) (C := RX2) (T := TX2) (N := 13) hx hb hts in_X2_isThere_RX2 hown hK.1 hP 0 rfl rfl 1 (by decide) (hts (.fieldLink RX2 15 "NineDancers$Ring" "there" "I") (by decide +kernel)) (fun _ h9 => h9) rfl dX2_isThere_1 ?_
  refine lv_iconst (v := 1) hx hb dX2_isThere_4 (by decide) ?_
  refine lv_iload_n hx hb dX2_isThere_5 rfl (lv_at hl 1 rfl) ?_
  refine lv_ishl hx hb dX2_isThere_6 ?_
  refine lv_iand hx hb dX2_isThere_7 ?_
  refine lv_if_eq (tgt := 15) hx hb dX2_isThere_8 (by decide) (fun c_1 => ?_) (fun c_1 => ?_)
  · refine lv_iconst (v := 0) hx hb dX2_isThere_15 (by decide) ?_
    have e9 : D_X2_isThere S v = 0 := by rw [D_X2_isThere, if_pos c_1]
    exact ret_z hx hb hr rfl hlk hP hD hS dX2_isThere_16 ⟨Nat.zero_le _, Nat.zero_le _⟩ ⟨e9.symm, rfl⟩
  · refine lv_iconst (v := 1) hx hb dX2_isThere_11 (by decide) ?_
    refine lv_goto (tgt := 16) hx hb dX2_isThere_12 (by decide) ?_
    have e9 : D_X2_isThere S v = 1 := by rw [D_X2_isThere, if_neg c_1]
    exact ret_z hx hb hr rfl hlk hP hD hS dX2_isThere_16 ⟨Nat.zero_le _, Nat.zero_le _⟩ ⟨e9.symm, rfl⟩
theorem z_X2_isThere (S : Nat → Nat → Int32) (v : Int32) : D_X2_isThere S v = 0 ∨ D_X2_isThere S v = 1 := by unfold D_X2_isThere; (repeat' split) <;> simp
def D_X2_wouldDance (S : Nat → Nat → Int32) (a : Int32) (b : Int32) : (Int32) := if (D_X2_isThere S a) = 0 then 0 else (if (D_X2_isThere S b) = 0 then 0 else (if (S 1 a.toNatClampNeg) < (S 0 (0 : Int32).toNatClampNeg) then 0 else (if (S 1 b.toNatClampNeg) < (S 0 (0 : Int32).toNatClampNeg) then 0 else 1)))
set_option maxRecDepth 100000 in
theorem in_X2_wouldDance_RX2 : ∀ w ∈ u_ws RX2 TX2 13, w ∈ wsX2_wouldDance := by decide +kernel
set_option maxHeartbeats 4000000 in
set_option maxRecDepth 100000 in
theorem c_X2_wouldDance (l : Launch) (D : va_G) (Y : YY) (sz : Nat) (q : Nat → Nat) (S : Nat → Nat → Int32) (r : Nat) (a : Int32) (b : Int32) (h_a : vp_in a 9) (h_b : vp_in b 9) : Met l yX2_wouldDance wsX2_wouldDance ({ frames := 1, cells := 0, slots := 0, locals := 21 } : Room) (va_Pc [.ref r, .int a, .int b] (Pst D Y sz (wR Y r q S))) ((fun A : Nat → Prop => Qsi D (fun r9 w9 => r9 = D_X2_wouldDance S a b ∧ w9 = wR Y r q S) A) (va_A (wR Y r q S) sz)) 0 0 (va_A (wR Y r q S) sz) := by
  refine ct_in (cc := cX2_wouldDance) (maxL := 3) (ret := (some .boolean)) (Qc := fun A : Nat → Prop => Qsi D (fun r9 w9 => r9 = D_X2_wouldDance S a b ∧ w9 = wR Y r q S) A) (by decide +kernel) rfl (Nat.le_of_ble_eq_true rfl) ?_
  intro p e s m below meth c A ls hx hb hr hts hown hml hlk hin hsz hA hP hD hK hS hl
  have hown : s.vm.findClass RX2 = some m.cls := hown
  have hl : lv_has ls 3 [(0, .ref r), (1, .int a), (2, .int b)] := hl
  show W p l e ({ frames := 1, cells := 0, slots := 0, locals := 21 } : Room) s m ([.ref r, .int a, .int b] : List Value).toArray below meth c s.heap [] 0 0 (MQ below (Qsi D (fun r9 w9 => r9 = D_X2_wouldDance S a b ∧ w9 = wR Y r q S) A) ([.ref r, .int a, .int b] : List Value).toArray s 0 0 A) (F0 m 0 ls [])
  refine lv_aload_n hx hb dX2_wouldDance_0 rfl (lv_at hl 0 rfl) ?_
  refine lv_iload_n hx hb dX2_wouldDance_1 rfl (lv_at hl 1 rfl) ?_
  refine ck_iD (wr := ([] : va_W)) (ws' := wR Y r q S) (va_runV (As := [.int a]) (rest := []) ⟨hx, hb, hml, hown, hts⟩ (c_X2_isThere l D Y s.heap.size q S r a) (cwV 1 hts gX2_wouldDance_X2_isThere rfl rfl rfl (by decide +kernel) ⟨Nat.le_of_ble_eq_true rfl, Nat.le_of_ble_eq_true rfl⟩) (pst_V hK hP hD [0, 1, 2, 3, 4, 5, 6, 7, 8, 9, 10] rfl (by decide) (q0 := 0) rfl rfl) rfl rfl hl.1 rfl (lv_room (Nat.le_of_ble_eq_true rfl)) dX2_wouldDance_2 ⟨Nat.zero_le _, Nat.zero_le _⟩) hP hD hS hA [0, 1, 2, 3, 4, 5, 6, 7, 8, 9, 10] [] [0, 1, 2, 3, 4, 5, 6, 7, 8, 9, 10] rfl rfl (by decide) (by decide) rfl (by decide) (fun H locs hP hD hS => ?_)
  refine lv_if_eq (tgt := 50) hx hb dX2_wouldDance_5 (by decide) (fun c_1 => ?_) (fun c_1 => ?_)
  · refine lv_iconst (v := 0) hx hb dX2_wouldDance_50 (by decide) ?_
    have e9 : D_X2_wouldDance S a b = 0 := by rw [D_X2_wouldDance, if_pos c_1]
    exact ret_z hx hb hr rfl hlk hP hD hS dX2_wouldDance_51 ⟨Nat.zero_le _, Nat.zero_le _⟩ ⟨e9.symm, rfl⟩
  · refine lv_aload_n hx hb dX2_wouldDance_8 rfl (lv_at hl 0 rfl) ?_
    refine lv_iload_n hx hb dX2_wouldDance_9 rfl (lv_at hl 2 rfl) ?_
    refine ck_iD (wr := ([] : va_W)) (ws' := wR Y r q S) (va_runV (As := [.int b]) (rest := []) ⟨hx, hb, hml, hown, hts⟩ (c_X2_isThere l D Y H.size q S r b) (cwV 1 hts gX2_wouldDance_X2_isThere rfl rfl rfl (by decide +kernel) ⟨Nat.le_of_ble_eq_true rfl, Nat.le_of_ble_eq_true rfl⟩) (pst_V hK hP hD [0, 1, 2, 3, 4, 5, 6, 7, 8, 9, 10] rfl (by decide) (q0 := 0) rfl rfl) rfl rfl hl.1 rfl (lv_room (Nat.le_of_ble_eq_true rfl)) dX2_wouldDance_10 ⟨Nat.zero_le _, Nat.zero_le _⟩) hP hD hS hA [0, 1, 2, 3, 4, 5, 6, 7, 8, 9, 10] [] [0, 1, 2, 3, 4, 5, 6, 7, 8, 9, 10] rfl rfl (by decide) (by decide) rfl (by decide) (fun H locs hP hD hS => ?_)
    refine lv_if_eq (tgt := 50) hx hb dX2_wouldDance_13 (by decide) (fun c_2 => ?_) (fun c_2 => ?_)
    · refine lv_iconst (v := 0) hx hb dX2_wouldDance_50 (by decide) ?_
      have e9 : D_X2_wouldDance S a b = 0 := by rw [D_X2_wouldDance, if_neg c_1, if_pos c_2]
      exact ret_z hx hb hr rfl hlk hP hD hS dX2_wouldDance_51 ⟨Nat.zero_le _, Nat.zero_le _⟩ ⟨e9.symm, rfl⟩
    · refine lv_aload_n hx hb dX2_wouldDance_16 rfl (lv_at hl 0 rfl) ?_
      refine va_get (D := D) (ci := 2) (v := .ref (q 1)) (C := RX2) (T := TX2) (N := 13) hx hb hts in_X2_wouldDance_RX2 hown hK.1 hP 0 rfl rfl 2 (by decide) (hts (.fieldLink RX2 19 "NineDancers$Ring" "strengths" "[I") (by decide +kernel)) (fun _ h9 => h9) rfl dX2_wouldDance_17 ?_
      refine lv_iload_n hx hb dX2_wouldDance_20 rfl (lv_at hl 1 rfl) ?_
      refine va_iald (D := D) hx hb hK.1 hP 2 0 rfl rfl h_a dX2_wouldDance_21 ?_
      refine lv_aload_n hx hb dX2_wouldDance_22 rfl (lv_at hl 0 rfl) ?_
      refine va_get (D := D) (ci := 2) (v := .ref (q 0)) (C := RX2) (T := TX2) (N := 13) hx hb hts in_X2_wouldDance_RX2 hown hK.1 hP 0 rfl rfl 0 (by decide) (hts (.fieldLink RX2 9 "NineDancers$Ring" "settings" "[I") (by decide +kernel)) (fun _ h9 => h9) rfl dX2_wouldDance_23 ?_
      refine lv_iconst (v := 0) hx hb dX2_wouldDance_26 (by decide) ?_
      refine va_iald (D := D) hx hb hK.1 hP 1 0 rfl rfl (by unfold vp_in; decide) dX2_wouldDance_27 ?_
      refine lv_icmp_lt (tgt := 50) hx hb dX2_wouldDance_28 (by decide) (fun c_3 => ?_) (fun c_3 => ?_)
      · refine lv_iconst (v := 0) hx hb dX2_wouldDance_50 (by decide) ?_
        have e9 : D_X2_wouldDance S a b = 0 := by rw [D_X2_wouldDance, if_neg c_1, if_neg c_2, if_pos c_3]
        exact ret_z hx hb hr rfl hlk hP hD hS dX2_wouldDance_51 ⟨Nat.zero_le _, Nat.zero_le _⟩ ⟨e9.symm, rfl⟩
      · refine lv_aload_n hx hb dX2_wouldDance_31 rfl (lv_at hl 0 rfl) ?_
        refine va_get (D := D) (ci := 2) (v := .ref (q 1)) (C := RX2) (T := TX2) (N := 13) hx hb hts in_X2_wouldDance_RX2 hown hK.1 hP 0 rfl rfl 2 (by decide) (hts (.fieldLink RX2 19 "NineDancers$Ring" "strengths" "[I") (by decide +kernel)) (fun _ h9 => h9) rfl dX2_wouldDance_32 ?_
        refine lv_iload_n hx hb dX2_wouldDance_35 rfl (lv_at hl 2 rfl) ?_
        refine va_iald (D := D) hx hb hK.1 hP 2 0 rfl rfl h_b dX2_wouldDance_36 ?_
        refine lv_aload_n hx hb dX2_wouldDance_37 rfl (lv_at hl 0 rfl) ?_
        refine va_get (D := D) (ci := 2) (v := .ref (q 0)) (C := RX2) (T := TX2) (N := 13) hx hb hts in_X2_wouldDance_RX2 hown hK.1 hP 0 rfl rfl 0 (by decide) (hts (.fieldLink RX2 9 "NineDancers$Ring" "settings" "[I") (by decide +kernel)) (fun _ h9 => h9) rfl dX2_wouldDance_38 ?_
        refine lv_iconst (v := 0) hx hb dX2_wouldDance_41 (by decide) ?_
        refine va_iald (D := D) hx hb hK.1 hP 1 0 rfl rfl (by unfold vp_in; decide) dX2_wouldDance_42 ?_
        refine lv_icmp_lt (tgt := 50) hx hb dX2_wouldDance_43 (by decide) (fun c_4 => ?_) (fun c_4 => ?_)
        · refine lv_iconst (v := 0) hx hb dX2_wouldDance_50 (by decide) ?_
          have e9 : D_X2_wouldDance S a b = 0 := by rw [D_X2_wouldDance, if_neg c_1, if_neg c_2, if_neg c_3, if_pos c_4]
          exact ret_z hx hb hr rfl hlk hP hD hS dX2_wouldDance_51 ⟨Nat.zero_le _, Nat.zero_le _⟩ ⟨e9.symm, rfl⟩
        · refine lv_iconst (v := 1) hx hb dX2_wouldDance_46 (by decide) ?_
          refine lv_goto (tgt := 51) hx hb dX2_wouldDance_47 (by decide) ?_
          have e9 : D_X2_wouldDance S a b = 1 := by rw [D_X2_wouldDance, if_neg c_1, if_neg c_2, if_neg c_3, if_neg c_4]
          exact ret_z hx hb hr rfl hlk hP hD hS dX2_wouldDance_51 ⟨Nat.zero_le _, Nat.zero_le _⟩ ⟨e9.symm, rfl⟩
theorem z_X2_wouldDance (S : Nat → Nat → Int32) (a : Int32) (b : Int32) : D_X2_wouldDance S a b = 0 ∨ D_X2_wouldDance S a b = 1 := by unfold D_X2_wouldDance; (repeat' split) <;> simp
def D_X2_joyOfEach (S : Nat → Nat → Int32) (a : Int32) (b : Int32) : (Int32) := (S 0 (2 : Int32).toNatClampNeg) + (S 6 (D_X3_pairIndex a b).toNatClampNeg)
set_option maxRecDepth 100000 in
theorem in_X2_joyOfEach_RX2 : ∀ w ∈ u_ws RX2 TX2 13, w ∈ wsX2_joyOfEach := by decide +kernel
set_option maxHeartbeats 4000000 in
set_option maxRecDepth 100000 in
theorem c_X2_joyOfEach (l : Launch) (D : va_G) (Y : YY) (sz : Nat) (q : Nat → Nat) (S : Nat → Nat → Int32) (r : Nat) (a : Int32) (b : Int32) (h_a : vp_in a 9) (h_b : vp_in b 9) : Met l yX2_joyOfEach wsX2_joyOfEach ({ frames := 1, cells := 0, slots := 0, locals := 21 } : Room) (va_Pc [.ref r, .int a, .int b] (Pst D Y sz (wR Y r q S))) ((fun A : Nat → Prop => Qsi D (fun r9 w9 => r9 = D_X2_joyOfEach S a b ∧ w9 = wR Y r q S) A) (va_A (wR Y r q S) sz)) 0 0 (va_A (wR Y r q S) sz) := by
  refine ct_in (cc := cX2_joyOfEach) (maxL := 3) (ret := (some .int)) (Qc := fun A : Nat → Prop => Qsi D (fun r9 w9 => r9 = D_X2_joyOfEach S a b ∧ w9 = wR Y r q S) A) (by decide +kernel) rfl (Nat.le_of_ble_eq_true rfl) ?_
  intro p e s m below meth c A ls hx hb hr hts hown hml hlk hin hsz hA hP hD hK hS hl
  have hown : s.vm.findClass RX2 = some m.cls := hown
  have hl : lv_has ls 3 [(0, .ref r), (1, .int a), (2, .int b)] := hl
  show W p l e ({ frames := 1, cells := 0, slots := 0, locals := 21 } : Room) s m ([.ref r, .int a, .int b] : List Value).toArray below meth c s.heap [] 0 0 (MQ below (Qsi D (fun r9 w9 => r9 = D_X2_joyOfEach S a b ∧ w9 = wR Y r q S) A) ([.ref r, .int a, .int b] : List Value).toArray s 0 0 A) (F0 m 0 ls [])
  refine lv_aload_n hx hb dX2_joyOfEach_0 rfl (lv_at hl 0 rfl) ?_
  refine va_get (D := D) (ci := 2) (v := .ref (q 0)) (C := RX2) (T := TX2) (N := 13) hx hb hts in_X2_joyOfEach_RX2 hown hK.1 hP 0 rfl rfl 0 (by decide) (hts (.fieldLink RX2 9 "NineDancers$Ring" "settings" "[I") (by decide +kernel)) (fun _ h9 => h9) rfl dX2_joyOfEach_1 ?_
  refine lv_iconst (v := 2) hx hb dX2_joyOfEach_4 (by decide) ?_
  refine va_iald (D := D) hx hb hK.1 hP 1 0 rfl rfl (by unfold vp_in; decide) dX2_joyOfEach_5 ?_
  refine lv_aload_n hx hb dX2_joyOfEach_6 rfl (lv_at hl 0 rfl) ?_
  refine va_get (D := D) (ci := 2) (v := .ref (q 6)) (C := RX2) (T := TX2) (N := 13) hx hb hts in_X2_joyOfEach_RX2 hown hK.1 hP 0 rfl rfl 7 (by decide) (hts (.fieldLink RX2 34 "NineDancers$Ring" "likings" "[I") (by decide +kernel)) (fun _ h9 => h9) rfl dX2_joyOfEach_7 ?_
  refine lv_iload_n hx hb dX2_joyOfEach_10 rfl (lv_at hl 1 rfl) ?_
  refine lv_iload_n hx hb dX2_joyOfEach_11 rfl (lv_at hl 2 rfl) ?_
  refine ck_iD (wr := wR Y r q S) (ws' := wR Y r q S) (va_runSN (As := [.int a, .int b]) (rest := [.ref (q 6), .int (S 0 (2 : Int32).toNatClampNeg)]) ⟨hx, hb, hml, hown, hts⟩ (c_X3_pairIndex l D Y s.heap.size a b) ⟨va_cnB 2 hts gX2_joyOfEach_X3_pairIndex_n107 rfl rfl rfl hK.2.2.2.1 (hts (.initialized RX3) (by decide +kernel)) (by decide +kernel) ⟨Nat.le_of_ble_eq_true rfl, Nat.le_of_ble_eq_true rfl⟩, hts (.static yX3_pairIndex) (by decide +kernel), trivial⟩ (pst_S hK hP hD [] rfl (by decide)) rfl rfl hl.1 rfl (lv_room (Nat.le_of_ble_eq_true rfl)) dX2_joyOfEach_12 ⟨Nat.zero_le _, Nat.zero_le _⟩) hP hD hS hA [] [0, 1, 2, 3, 4, 5, 6, 7, 8, 9, 10] [0, 1, 2, 3, 4, 5, 6, 7, 8, 9, 10] rfl rfl (by decide) (by decide) rfl (by decide) (fun H locs hP hD hS => ?_)
  refine va_iald (D := D) hx hb hK.1 hP 7 0 rfl rfl (in_pairIndex h_a h_b) dX2_joyOfEach_15 ?_
  refine lv_iadd hx hb dX2_joyOfEach_16 ?_
  have e9 : D_X2_joyOfEach S a b = (S 0 (2 : Int32).toNatClampNeg) + (S 6 (D_X3_pairIndex a b).toNatClampNeg) := by rw [D_X2_joyOfEach]
  exact ret_i hx hb hr hlk hP hD hS dX2_joyOfEach_17 ⟨Nat.zero_le _, Nat.zero_le _⟩ ⟨e9.symm, rfl⟩
def T_X2_takePart_1 (S : Nat → Nat → Int32) (v : Int32) (j : Int32) : Nat → Nat → Int32 := s2 S 2 v.toNatClampNeg ((S 2 v.toNatClampNeg) + j)
def T_X2_takePart_2 (v : Int32) (S_1 : Nat → Nat → Int32) : Nat → Nat → Int32 := s2 S_1 1 v.toNatClampNeg ((S_1 1 v.toNatClampNeg) - (S_1 0 (0 : Int32).toNatClampNeg))
def T_X2_takePart_3 (v : Int32) (S_2 : Nat → Nat → Int32) : Nat → Nat → Int32 := s2 S_2 3 v.toNatClampNeg ((S_2 3 v.toNatClampNeg) + 1)
def D_X2_takePart (S : Nat → Nat → Int32) (v : Int32) (j : Int32) : (Nat → Nat → Int32) := (T_X2_takePart_3 v (T_X2_takePart_2 v (T_X2_takePart_1 S v j)))
set_option maxRecDepth 100000 in
theorem in_X2_takePart_RX2 : ∀ w ∈ u_ws RX2 TX2 13, w ∈ wsX2_takePart := by decide +kernel
set_option maxHeartbeats 4000000 in
set_option maxRecDepth 100000 in
theorem c_X2_takePart (l : Launch) (D : va_G) (Y : YY) (sz : Nat) (q : Nat → Nat) (S : Nat → Nat → Int32) (r : Nat) (v : Int32) (j : Int32) (h_v : vp_in v 9) : Met l yX2_takePart wsX2_takePart ({ frames := 0, cells := 0, slots := 0, locals := 0 } : Room) (va_Pc [.ref r, .int v, .int j] (Pst D Y sz (wR Y r q S))) ((fun A : Nat → Prop => Qsv D (fun w9 => w9 = wR Y r q (D_X2_takePart S v j)) A) (va_A (wR Y r q S) sz)) 0 0 (va_A (wR Y r q S) sz) := by
  refine ct_in (cc := cX2_takePart) (maxL := 3) (ret := none) (Qc := fun A : Nat → Prop => Qsv D (fun w9 => w9 = wR Y r q (D_X2_takePart S v j)) A) (by decide +kernel) rfl (Nat.le_of_ble_eq_true rfl) ?_
  intro p e s m below meth c A ls hx hb hr hts hown hml hlk hin hsz hA hP hD hK hS hl
  have hown : s.vm.findClass RX2 = some m.cls := hown
  have hl : lv_has ls 3 [(0, .ref r), (1, .int v), (2, .int j)] := hl
  show W p l e ({ frames := 0, cells := 0, slots := 0, locals := 0 } : Room) s m ([.ref r, .int v, .int j] : List Value).toArray below meth c s.heap [] 0 0 (MQ below (Qsv D (fun w9 => w9 = wR Y r q (D_X2_takePart S v j)) A) ([.ref r, .int v, .int j] : List Value).toArray s 0 0 A) (F0 m 0 ls [])
  refine lv_aload_n hx hb dX2_takePart_0 rfl (lv_at hl 0 rfl) ?_
  refine va_get (D := D) (ci := 2) (v := .ref (q 2)) (C := RX2) (T := TX2) (N := 13) hx hb hts in_X2_takePart_RX2 hown hK.1 hP 0 rfl rfl 3 (by decide) (hts (.fieldLink RX2 22 "NineDancers$Ring" "joys" "[I") (by decide +kernel)) (fun _ h9 => h9) rfl dX2_takePart_1 ?_
  refine lv_iload_n hx hb dX2_takePart_4 rfl (lv_at hl 1 rfl) ?_
  refine lv_dup2_11 hx hb dX2_takePart_5 rfl rfl ?_
  refine va_iald (D := D) hx hb hK.1 hP 3 0 rfl rfl h_v dX2_takePart_6 ?_
  refine lv_iload_n hx hb dX2_takePart_7 rfl (lv_at hl 2 rfl) ?_
  refine lv_iadd hx hb dX2_takePart_8 ?_
  refine va_iast (D := D) hx hb hK.1 hP hD hS 3 0 rfl rfl h_v dX2_takePart_9 (fun H locs hP hD hS => ?_)
  have hP : va_P D vwCl (wR Y r q (T_X2_takePart_1 S v j)) H := hP
  have hD : va_D A (wR Y r q (T_X2_takePart_1 S v j)) := hD
  obtain ⟨S_1, eS_1⟩ : ∃ z9, T_X2_takePart_1 S v j = z9 := ⟨_, rfl⟩
  rw [eS_1] at hP hD
  refine lv_aload_n hx hb dX2_takePart_10 rfl (lv_at hl 0 rfl) ?_
  refine va_get (D := D) (ci := 2) (v := .ref (q 1)) (C := RX2) (T := TX2) (N := 13) hx hb hts in_X2_takePart_RX2 hown hK.1 hP 0 rfl rfl 2 (by decide) (hts (.fieldLink RX2 19 "NineDancers$Ring" "strengths" "[I") (by decide +kernel)) (fun _ h9 => h9) rfl dX2_takePart_11 ?_
  refine lv_iload_n hx hb dX2_takePart_14 rfl (lv_at hl 1 rfl) ?_
  refine lv_dup2_11 hx hb dX2_takePart_15 rfl rfl ?_
  refine va_iald (D := D) hx hb hK.1 hP 2 0 rfl rfl h_v dX2_takePart_16 ?_
  refine lv_aload_n hx hb dX2_takePart_17 rfl (lv_at hl 0 rfl) ?_
  refine va_get (D := D) (ci := 2) (v := .ref (q 0)) (C := RX2) (T := TX2) (N := 13) hx hb hts in_X2_takePart_RX2 hown hK.1 hP 0 rfl rfl 0 (by decide) (hts (.fieldLink RX2 9 "NineDancers$Ring" "settings" "[I") (by decide +kernel)) (fun _ h9 => h9) rfl dX2_takePart_18 ?_
  refine lv_iconst (v := 0) hx hb dX2_takePart_21 (by decide) ?_
  refine va_iald (D := D) hx hb hK.1 hP 1 0 rfl rfl (by unfold vp_in; decide) dX2_takePart_22 ?_
  refine lv_isub hx hb dX2_takePart_23 ?_
  refine va_iast (D := D) hx hb hK.1 hP hD hS 2 0 rfl rfl h_v dX2_takePart_24 (fun H locs hP hD hS => ?_)
  have hP : va_P D vwCl (wR Y r q (T_X2_takePart_2 v S_1)) H := hP
  have hD : va_D A (wR Y r q (T_X2_takePart_2 v S_1)) := hD
  obtain ⟨S_2, eS_2⟩ : ∃ z9, T_X2_takePart_2 v S_1 = z9 := ⟨_, rfl⟩
  rw [eS_2] at hP hD
  refine lv_aload_n hx hb dX2_takePart_25 rfl (lv_at hl 0 rfl) ?_
  refine va_get (D := D) (ci := 2) (v := .ref (q 3)) (C := RX2) (T := TX2) (N := 13) hx hb hts in_X2_takePart_RX2 hown hK.1 hP 0 rfl rfl 4 (by decide) (hts (.fieldLink RX2 25 "NineDancers$Ring" "roundsDanced" "[I") (by decide +kernel)) (fun _ h9 => h9) rfl dX2_takePart_26 ?_
  refine lv_iload_n hx hb dX2_takePart_29 rfl (lv_at hl 1 rfl) ?_
  refine lv_dup2_11 hx hb dX2_takePart_30 rfl rfl ?_
  refine va_iald (D := D) hx hb hK.1 hP 4 0 rfl rfl h_v dX2_takePart_31 ?_
  refine lv_iconst (v := 1) hx hb dX2_takePart_32 (by decide) ?_
  refine lv_iadd hx hb dX2_takePart_33 ?_
  refine va_iast (D := D) hx hb hK.1 hP hD hS 4 0 rfl rfl h_v dX2_takePart_34 (fun H locs hP hD hS => ?_)
  have hP : va_P D vwCl (wR Y r q (T_X2_takePart_3 v S_2)) H := hP
  have hD : va_D A (wR Y r q (T_X2_takePart_3 v S_2)) := hD
  obtain ⟨S_3, eS_3⟩ : ∃ z9, T_X2_takePart_3 v S_2 = z9 := ⟨_, rfl⟩
  rw [eS_3] at hP hD
  subst eS_3
  subst eS_2
  subst eS_1
  have e9 : D_X2_takePart S v j = (T_X2_takePart_3 v (T_X2_takePart_2 v (T_X2_takePart_1 S v j))) := by rw [D_X2_takePart]
  exact ret_v hx hb hr hlk hP hD hS dX2_takePart_35 ⟨Nat.zero_le _, Nat.zero_le _⟩ (by rw [e9])
def T_X2_rest_1 (S : Nat → Nat → Int32) (v : Int32) : Nat → Nat → Int32 := s2 S 4 v.toNatClampNeg ((S 4 v.toNatClampNeg) + 1)
def T_X2_rest_2 (v : Int32) (S_1 : Nat → Nat → Int32) : Nat → Nat → Int32 := s2 S_1 1 v.toNatClampNeg (if 20 < ((S_1 1 v.toNatClampNeg) + (S_1 0 (1 : Int32).toNatClampNeg)) then 20 else ((S_1 1 v.toNatClampNeg) + (S_1 0 (1 : Int32).toNatClampNeg)))
def D_X2_rest (S : Nat → Nat → Int32) (v : Int32) : (Nat → Nat → Int32) := if (D_X2_isThere S v) = 0 then S else (T_X2_rest_2 v (T_X2_rest_1 S v))
set_option maxRecDepth 100000 in
theorem in_X2_rest_RX2 : ∀ w ∈ u_ws RX2 TX2 13, w ∈ wsX2_rest := by decide +kernel
set_option maxHeartbeats 4000000 in
set_option maxRecDepth 100000 in
theorem c_X2_rest (l : Launch) (D : va_G) (Y : YY) (sz : Nat) (q : Nat → Nat) (S : Nat → Nat → Int32) (r : Nat) (v : Int32) (h_v : vp_in v 9) : Met l yX2_rest wsX2_rest ({ frames := 1, cells := 0, slots := 0, locals := 21 } : Room) (va_Pc [.ref r, .int v] (Pst D Y sz (wR Y r q S))) ((fun A : Nat → Prop => Qsv D (fun w9 => w9 = wR Y r q (D_X2_rest S v)) A) (va_A (wR Y r q S) sz)) 0 0 (va_A (wR Y r q S) sz) := by
  refine ct_in (cc := cX2_rest) (maxL := 2) (ret := none) (Qc := fun A : Nat → Prop => Qsv D (fun w9 => w9 = wR Y r q (D_X2_rest S v)) A) (by decide +kernel) rfl (Nat.le_of_ble_eq_true rfl) ?_
  intro p e s m below meth c A ls hx hb hr hts hown hml hlk hin hsz hA hP hD hK hS hl
  have hown : s.vm.findClass RX2 = some m.cls := hown
  have hl : lv_has ls 2 [(0, .ref r), (1, .int v)] := hl
  show W p l e ({ frames := 1, cells := 0, slots := 0, locals := 21 } : Room) s m ([.ref r, .int v] : List Value).toArray below meth c s.heap [] 0 0 (MQ below (Qsv D (fun w9 => w9 = wR Y r q (D_X2_rest S v)) A) ([.ref r, .int v] : List Value).toArray s 0 0 A) (F0 m 0 ls [])
  refine lv_aload_n hx hb dX2_rest_0 rfl (lv_at hl 0 rfl) ?_
  refine lv_iload_n hx hb dX2_rest_1 rfl (lv_at hl 1 rfl) ?_
  refine ck_iD (wr := ([] : va_W)) (ws' := wR Y r q S) (va_runV (As := [.int v]) (rest := []) ⟨hx, hb, hml, hown, hts⟩ (c_X2_isThere l D Y s.heap.size q S r v) (cwV 1 hts gX2_rest_X2_isThere rfl rfl rfl (by decide +kernel) ⟨Nat.le_of_ble_eq_true rfl, Nat.le_of_ble_eq_true rfl⟩) (pst_V hK hP hD [0, 1, 2, 3, 4, 5, 6, 7, 8, 9, 10] rfl (by decide) (q0 := 0) rfl rfl) rfl rfl hl.1 rfl (lv_room (Nat.le_of_ble_eq_true rfl)) dX2_rest_2 ⟨Nat.zero_le _, Nat.zero_le _⟩) hP hD hS hA [0, 1, 2, 3, 4, 5, 6, 7, 8, 9, 10] [] [0, 1, 2, 3, 4, 5, 6, 7, 8, 9, 10] rfl rfl (by decide) (by decide) rfl (by decide) (fun H locs hP hD hS => ?_)
  refine lv_if_eq (tgt := 42) hx hb dX2_rest_5 (by decide) (fun c_1 => ?_) (fun c_1 => ?_)
  · have e9 : D_X2_rest S v = S := by rw [D_X2_rest, if_pos c_1]
    exact ret_v hx hb hr hlk hP hD hS dX2_rest_42 ⟨Nat.zero_le _, Nat.zero_le _⟩ (by rw [e9])
  · refine lv_aload_n hx hb dX2_rest_8 rfl (lv_at hl 0 rfl) ?_
    refine va_get (D := D) (ci := 2) (v := .ref (q 4)) (C := RX2) (T := TX2) (N := 13) hx hb hts in_X2_rest_RX2 hown hK.1 hP 0 rfl rfl 5 (by decide) (hts (.fieldLink RX2 28 "NineDancers$Ring" "roundsRested" "[I") (by decide +kernel)) (fun _ h9 => h9) rfl dX2_rest_9 ?_
    refine lv_iload_n hx hb dX2_rest_12 rfl (lv_at hl 1 rfl) ?_
    refine lv_dup2_11 hx hb dX2_rest_13 rfl rfl ?_
    refine va_iald (D := D) hx hb hK.1 hP 5 0 rfl rfl h_v dX2_rest_14 ?_
    refine lv_iconst (v := 1) hx hb dX2_rest_15 (by decide) ?_
    refine lv_iadd hx hb dX2_rest_16 ?_
    refine va_iast (D := D) hx hb hK.1 hP hD hS 5 0 rfl rfl h_v dX2_rest_17 (fun H locs hP hD hS => ?_)
    have hP : va_P D vwCl (wR Y r q (T_X2_rest_1 S v)) H := hP
    have hD : va_D A (wR Y r q (T_X2_rest_1 S v)) := hD
    obtain ⟨S_1, eS_1⟩ : ∃ z9, T_X2_rest_1 S v = z9 := ⟨_, rfl⟩
    rw [eS_1] at hP hD
    refine lv_aload_n hx hb dX2_rest_18 rfl (lv_at hl 0 rfl) ?_
    refine va_get (D := D) (ci := 2) (v := .ref (q 1)) (C := RX2) (T := TX2) (N := 13) hx hb hts in_X2_rest_RX2 hown hK.1 hP 0 rfl rfl 2 (by decide) (hts (.fieldLink RX2 19 "NineDancers$Ring" "strengths" "[I") (by decide +kernel)) (fun _ h9 => h9) rfl dX2_rest_19 ?_
    refine lv_iload_n hx hb dX2_rest_22 rfl (lv_at hl 1 rfl) ?_
    refine lv_aload_n hx hb dX2_rest_23 rfl (lv_at hl 0 rfl) ?_
    refine va_get (D := D) (ci := 2) (v := .ref (q 1)) (C := RX2) (T := TX2) (N := 13) hx hb hts in_X2_rest_RX2 hown hK.1 hP 0 rfl rfl 2 (by decide) (hts (.fieldLink RX2 19 "NineDancers$Ring" "strengths" "[I") (by decide +kernel)) (fun _ h9 => h9) rfl dX2_rest_24 ?_
    refine lv_iload_n hx hb dX2_rest_27 rfl (lv_at hl 1 rfl) ?_
    refine va_iald (D := D) hx hb hK.1 hP 2 0 rfl rfl h_v dX2_rest_28 ?_
    refine lv_aload_n hx hb dX2_rest_29 rfl (lv_at hl 0 rfl) ?_
    refine va_get (D := D) (ci := 2) (v := .ref (q 0)) (C := RX2) (T := TX2) (N := 13) hx hb hts in_X2_rest_RX2 hown hK.1 hP 0 rfl rfl 0 (by decide) (hts (.fieldLink RX2 9 "NineDancers$Ring" "settings" "[I") (by decide +kernel)) (fun _ h9 => h9) rfl dX2_rest_30 ?_
    refine lv_iconst (v := 1) hx hb dX2_rest_33 (by decide) ?_
    refine va_iald (D := D) hx hb hK.1 hP 1 0 rfl rfl (by unfold vp_in; decide) dX2_rest_34 ?_
    refine lv_iadd hx hb dX2_rest_35 ?_
    refine lv_bipush (v := 20) hx hb dX2_rest_36 (by decide) ?_
    refine va_mmin hx hb (by rw [hml]; exact hl.1.symm) hown (hts (.methodLink RX2 63 Lib.Math.min.name) (by decide +kernel)) (hts (.static Lib.Math.min.name) (by decide +kernel)) (hts (.initialized "java/lang/Math") (by decide +kernel)) (hts (.code Lib.Math.min.name Lib.Math.min.code 2 (some .int)) (by decide +kernel)) (Nat.le_of_ble_eq_true rfl) (Nat.le_of_ble_eq_true rfl) (Nat.zero_le _) (Nat.zero_le _) dX2_rest_38 ?_
    refine va_iast (D := D) hx hb hK.1 hP hD hS 2 0 rfl rfl h_v dX2_rest_41 (fun H locs hP hD hS => ?_)
    have hP : va_P D vwCl (wR Y r q (T_X2_rest_2 v S_1)) H := hP
    have hD : va_D A (wR Y r q (T_X2_rest_2 v S_1)) := hD
    obtain ⟨S_2, eS_2⟩ : ∃ z9, T_X2_rest_2 v S_1 = z9 := ⟨_, rfl⟩
    rw [eS_2] at hP hD
    subst eS_2
    subst eS_1
    have e9 : D_X2_rest S v = (T_X2_rest_2 v (T_X2_rest_1 S v)) := by rw [D_X2_rest, if_neg c_1]
    exact ret_v hx hb hr hlk hP hD hS dX2_rest_42 ⟨Nat.zero_le _, Nat.zero_le _⟩ (by rw [e9])
def T_X2_leaveAlone_1 (S : Nat → Nat → Int32) (v : Int32) : Nat → Nat → Int32 := s2 S 5 v.toNatClampNeg ((S 5 v.toNatClampNeg) + 1)
def D_X2_leaveAlone (S : Nat → Nat → Int32) (v : Int32) : (Nat → Nat → Int32) := if (D_X2_isThere S v) = 0 then S else (D_X2_rest (T_X2_leaveAlone_1 S v) v)
set_option maxRecDepth 100000 in
theorem in_X2_leaveAlone_RX2 : ∀ w ∈ u_ws RX2 TX2 13, w ∈ wsX2_leaveAlone := by decide +kernel
set_option maxHeartbeats 4000000 in
set_option maxRecDepth 100000 in
theorem c_X2_leaveAlone (l : Launch) (D : va_G) (Y : YY) (sz : Nat) (q : Nat → Nat) (S : Nat → Nat → Int32) (r : Nat) (v : Int32) (h_v : vp_in v 9) : Met l yX2_leaveAlone wsX2_leaveAlone ({ frames := 2, cells := 0, slots := 0, locals := 42 } : Room) (va_Pc [.ref r, .int v] (Pst D Y sz (wR Y r q S))) ((fun A : Nat → Prop => Qsv D (fun w9 => w9 = wR Y r q (D_X2_leaveAlone S v)) A) (va_A (wR Y r q S) sz)) 0 0 (va_A (wR Y r q S) sz) := by
  refine ct_in (cc := cX2_leaveAlone) (maxL := 2) (ret := none) (Qc := fun A : Nat → Prop => Qsv D (fun w9 => w9 = wR Y r q (D_X2_leaveAlone S v)) A) (by decide +kernel) rfl (Nat.le_of_ble_eq_true rfl) ?_
  intro p e s m below meth c A ls hx hb hr hts hown hml hlk hin hsz hA hP hD hK hS hl
  have hown : s.vm.findClass RX2 = some m.cls := hown
  have hl : lv_has ls 2 [(0, .ref r), (1, .int v)] := hl
  show W p l e ({ frames := 2, cells := 0, slots := 0, locals := 42 } : Room) s m ([.ref r, .int v] : List Value).toArray below meth c s.heap [] 0 0 (MQ below (Qsv D (fun w9 => w9 = wR Y r q (D_X2_leaveAlone S v)) A) ([.ref r, .int v] : List Value).toArray s 0 0 A) (F0 m 0 ls [])
  refine lv_aload_n hx hb dX2_leaveAlone_0 rfl (lv_at hl 0 rfl) ?_
  refine lv_iload_n hx hb dX2_leaveAlone_1 rfl (lv_at hl 1 rfl) ?_
  refine ck_iD (wr := ([] : va_W)) (ws' := wR Y r q S) (va_runV (As := [.int v]) (rest := []) ⟨hx, hb, hml, hown, hts⟩ (c_X2_isThere l D Y s.heap.size q S r v) (cwV 1 hts gX2_leaveAlone_X2_isThere rfl rfl rfl (by decide +kernel) ⟨Nat.le_of_ble_eq_true rfl, Nat.le_of_ble_eq_true rfl⟩) (pst_V hK hP hD [0, 1, 2, 3, 4, 5, 6, 7, 8, 9, 10] rfl (by decide) (q0 := 0) rfl rfl) rfl rfl hl.1 rfl (lv_room (Nat.le_of_ble_eq_true rfl)) dX2_leaveAlone_2 ⟨Nat.zero_le _, Nat.zero_le _⟩) hP hD hS hA [0, 1, 2, 3, 4, 5, 6, 7, 8, 9, 10] [] [0, 1, 2, 3, 4, 5, 6, 7, 8, 9, 10] rfl rfl (by decide) (by decide) rfl (by decide) (fun H locs hP hD hS => ?_)
  refine lv_if_eq (tgt := 23) hx hb dX2_leaveAlone_5 (by decide) (fun c_1 => ?_) (fun c_1 => ?_)
  · have e9 : D_X2_leaveAlone S v = S := by rw [D_X2_leaveAlone, if_pos c_1]
    exact ret_v hx hb hr hlk hP hD hS dX2_leaveAlone_23 ⟨Nat.zero_le _, Nat.zero_le _⟩ (by rw [e9])
  · refine lv_aload_n hx hb dX2_leaveAlone_8 rfl (lv_at hl 0 rfl) ?_
    refine va_get (D := D) (ci := 2) (v := .ref (q 5)) (C := RX2) (T := TX2) (N := 13) hx hb hts in_X2_leaveAlone_RX2 hown hK.1 hP 0 rfl rfl 6 (by decide) (hts (.fieldLink RX2 31 "NineDancers$Ring" "roundsAlone" "[I") (by decide +kernel)) (fun _ h9 => h9) rfl dX2_leaveAlone_9 ?_
    refine lv_iload_n hx hb dX2_leaveAlone_12 rfl (lv_at hl 1 rfl) ?_
    refine lv_dup2_11 hx hb dX2_leaveAlone_13 rfl rfl ?_
    refine va_iald (D := D) hx hb hK.1 hP 6 0 rfl rfl h_v dX2_leaveAlone_14 ?_
    refine lv_iconst (v := 1) hx hb dX2_leaveAlone_15 (by decide) ?_
    refine lv_iadd hx hb dX2_leaveAlone_16 ?_
    refine va_iast (D := D) hx hb hK.1 hP hD hS 6 0 rfl rfl h_v dX2_leaveAlone_17 (fun H locs hP hD hS => ?_)
    have hP : va_P D vwCl (wR Y r q (T_X2_leaveAlone_1 S v)) H := hP
    have hD : va_D A (wR Y r q (T_X2_leaveAlone_1 S v)) := hD
    obtain ⟨S_1, eS_1⟩ : ∃ z9, T_X2_leaveAlone_1 S v = z9 := ⟨_, rfl⟩
    rw [eS_1] at hP hD
    refine lv_aload_n hx hb dX2_leaveAlone_18 rfl (lv_at hl 0 rfl) ?_
    refine lv_iload_n hx hb dX2_leaveAlone_19 rfl (lv_at hl 1 rfl) ?_
    refine ck_vD (wr := ([] : va_W)) (ws' := wR Y r q (D_X2_rest S_1 v)) (va_runV (As := [.int v]) (rest := []) ⟨hx, hb, hml, hown, hts⟩ (c_X2_rest l D Y H.size q S_1 r v h_v) (cwV 1 hts gX2_leaveAlone_X2_rest rfl rfl rfl (by decide +kernel) ⟨Nat.le_of_ble_eq_true rfl, Nat.le_of_ble_eq_true rfl⟩) (pst_V hK hP hD [0, 1, 2, 3, 4, 5, 6, 7, 8, 9, 10] rfl (by decide) (q0 := 0) rfl rfl) rfl rfl hl.1 rfl (lv_room (Nat.le_of_ble_eq_true rfl)) dX2_leaveAlone_20 ⟨Nat.zero_le _, Nat.zero_le _⟩) hP hD hS hA [0, 1, 2, 3, 4, 5, 6, 7, 8, 9, 10] [] [0, 1, 2, 3, 4, 5, 6, 7, 8, 9, 10] rfl rfl (by decide) (by decide) rfl (by decide) (fun H locs hP hD hS => ?_)
    obtain ⟨S_2, eS_2⟩ : ∃ z9, (D_X2_rest S_1 v) = z9 := ⟨_, rfl⟩
    rw [eS_2] at hP hD
    subst eS_2
    subst eS_1
    have e9 : D_X2_leaveAlone S v = (D_X2_rest (T_X2_leaveAlone_1 S v) v) := by rw [D_X2_leaveAlone, if_neg c_1]
    exact ret_v hx hb hr hlk hP hD hS dX2_leaveAlone_23 ⟨Nat.zero_le _, Nat.zero_le _⟩ (by rw [e9])
def T_X2_dance_1 (a : Int32) (b : Int32) (S_2 : Nat → Nat → Int32) : Nat → Nat → Int32 := s2 S_2 7 (D_X3_pairIndex a b).toNatClampNeg ((S_2 7 (D_X3_pairIndex a b).toNatClampNeg) + 1)
def T_X2_dance_2 (a : Int32) (b : Int32) (S_3 : Nat → Nat → Int32) : Nat → Nat → Int32 := s2 S_3 8 (D_X3_pairIndex a b).toNatClampNeg (S_3 10 1)
def D_X2_dance (S : Nat → Nat → Int32) (a : Int32) (b : Int32) : (Nat → Nat → Int32) := (T_X2_dance_2 a b (T_X2_dance_1 a b (D_X2_takePart (D_X2_takePart S a (D_X2_joyOfEach S a b)) b (D_X2_joyOfEach S a b))))
set_option maxRecDepth 100000 in
theorem in_X2_dance_RX2 : ∀ w ∈ u_ws RX2 TX2 13, w ∈ wsX2_dance := by decide +kernel
set_option maxHeartbeats 4000000 in
set_option maxRecDepth 100000 in
theorem c_X2_dance (l : Launch) (D : va_G) (Y : YY) (sz : Nat) (q : Nat → Nat) (S : Nat → Nat → Int32) (r : Nat) (a : Int32) (b : Int32) (h_a : vp_in a 9) (h_b : vp_in b 9) : Met l yX2_dance wsX2_dance ({ frames := 2, cells := 0, slots := 0, locals := 43 } : Room) (va_Pc [.ref r, .int a, .int b] (Pst D Y sz (wR Y r q S))) ((fun A : Nat → Prop => Qsv D (fun w9 => w9 = wR Y r q (D_X2_dance S a b)) A) (va_A (wR Y r q S) sz)) 0 0 (va_A (wR Y r q S) sz) := by
  refine ct_in (cc := cX2_dance) (maxL := 5) (ret := none) (Qc := fun A : Nat → Prop => Qsv D (fun w9 => w9 = wR Y r q (D_X2_dance S a b)) A) (by decide +kernel) rfl (Nat.le_of_ble_eq_true rfl) ?_
  intro p e s m below meth c A ls hx hb hr hts hown hml hlk hin hsz hA hP hD hK hS hl
  have hown : s.vm.findClass RX2 = some m.cls := hown
  have hl : lv_has ls 5 [(0, .ref r), (1, .int a), (2, .int b)] := hl
  show W p l e ({ frames := 2, cells := 0, slots := 0, locals := 43 } : Room) s m ([.ref r, .int a, .int b] : List Value).toArray below meth c s.heap [] 0 0 (MQ below (Qsv D (fun w9 => w9 = wR Y r q (D_X2_dance S a b)) A) ([.ref r, .int a, .int b] : List Value).toArray s 0 0 A) (F0 m 0 ls [])
  refine lv_aload_n hx hb dX2_dance_0 rfl (lv_at hl 0 rfl) ?_
  refine lv_iload_n hx hb dX2_dance_1 rfl (lv_at hl 1 rfl) ?_
  refine lv_iload_n hx hb dX2_dance_2 rfl (lv_at hl 2 rfl) ?_
  refine ck_iD (wr := ([] : va_W)) (ws' := wR Y r q S) (va_runV (As := [.int a, .int b]) (rest := []) ⟨hx, hb, hml, hown, hts⟩ (c_X2_joyOfEach l D Y s.heap.size q S r a b h_a h_b) (cwV 2 hts gX2_dance_X2_joyOfEach rfl rfl rfl (by decide +kernel) ⟨Nat.le_of_ble_eq_true rfl, Nat.le_of_ble_eq_true rfl⟩) (pst_V hK hP hD [0, 1, 2, 3, 4, 5, 6, 7, 8, 9, 10] rfl (by decide) (q0 := 0) rfl rfl) rfl rfl hl.1 rfl (lv_room (Nat.le_of_ble_eq_true rfl)) dX2_dance_3 ⟨Nat.zero_le _, Nat.zero_le _⟩) hP hD hS hA [0, 1, 2, 3, 4, 5, 6, 7, 8, 9, 10] [] [0, 1, 2, 3, 4, 5, 6, 7, 8, 9, 10] rfl rfl (by decide) (by decide) rfl (by decide) (fun H locs hP hD hS => ?_)
  refine lv_istore_n (lv' := [(3, .int (D_X2_joyOfEach S a b)), (0, .ref r), (1, .int a), (2, .int b)]) hx hb dX2_dance_6 rfl hl (by decide) rfl (fun ls hl => ?_)
  refine lv_aload_n hx hb dX2_dance_7 rfl (lv_at hl 1 rfl) ?_
  refine lv_iload_n hx hb dX2_dance_8 rfl (lv_at hl 2 rfl) ?_
  refine lv_iload_n hx hb dX2_dance_9 rfl (lv_at hl 0 rfl) ?_
  refine ck_vD (wr := ([] : va_W)) (ws' := wR Y r q (D_X2_takePart S a (D_X2_joyOfEach S a b))) (va_runV (As := [.int a, .int (D_X2_joyOfEach S a b)]) (rest := []) ⟨hx, hb, hml, hown, hts⟩ (c_X2_takePart l D Y H.size q S r a (D_X2_joyOfEach S a b) h_a) (cwV 2 hts gX2_dance_X2_takePart rfl rfl rfl (by decide +kernel) ⟨Nat.le_of_ble_eq_true rfl, Nat.le_of_ble_eq_true rfl⟩) (pst_V hK hP hD [0, 1, 2, 3, 4, 5, 6, 7, 8, 9, 10] rfl (by decide) (q0 := 0) rfl rfl) rfl rfl hl.1 rfl (lv_room (Nat.le_of_ble_eq_true rfl)) dX2_dance_10 ⟨Nat.zero_le _, Nat.zero_le _⟩) hP hD hS hA [0, 1, 2, 3, 4, 5, 6, 7, 8, 9, 10] [] [0, 1, 2, 3, 4, 5, 6, 7, 8, 9, 10] rfl rfl (by decide) (by decide) rfl (by decide) (fun H locs hP hD hS => ?_)
  obtain ⟨S_1, eS_1⟩ : ∃ z9, (D_X2_takePart S a (D_X2_joyOfEach S a b)) = z9 := ⟨_, rfl⟩
  rw [eS_1] at hP hD
  refine lv_aload_n hx hb dX2_dance_13 rfl (lv_at hl 1 rfl) ?_
  refine lv_iload_n hx hb dX2_dance_14 rfl (lv_at hl 3 rfl) ?_
  refine lv_iload_n hx hb dX2_dance_15 rfl (lv_at hl 0 rfl) ?_
  refine ck_vD (wr := ([] : va_W)) (ws' := wR Y r q (D_X2_takePart S_1 b (D_X2_joyOfEach S a b))) (va_runV (As := [.int b, .int (D_X2_joyOfEach S a b)]) (rest := []) ⟨hx, hb, hml, hown, hts⟩ (c_X2_takePart l D Y H.size q S_1 r b (D_X2_joyOfEach S a b) h_b) (cwV 2 hts gX2_dance_X2_takePart rfl rfl rfl (by decide +kernel) ⟨Nat.le_of_ble_eq_true rfl, Nat.le_of_ble_eq_true rfl⟩) (pst_V hK hP hD [0, 1, 2, 3, 4, 5, 6, 7, 8, 9, 10] rfl (by decide) (q0 := 0) rfl rfl) rfl rfl hl.1 rfl (lv_room (Nat.le_of_ble_eq_true rfl)) dX2_dance_16 ⟨Nat.zero_le _, Nat.zero_le _⟩) hP hD hS hA [0, 1, 2, 3, 4, 5, 6, 7, 8, 9, 10] [] [0, 1, 2, 3, 4, 5, 6, 7, 8, 9, 10] rfl rfl (by decide) (by decide) rfl (by decide) (fun H locs hP hD hS => ?_)
  obtain ⟨S_2, eS_2⟩ : ∃ z9, (D_X2_takePart S_1 b (D_X2_joyOfEach S a b)) = z9 := ⟨_, rfl⟩
  rw [eS_2] at hP hD
  refine lv_iload_n hx hb dX2_dance_19 rfl (lv_at hl 2 rfl) ?_
  refine lv_iload_n hx hb dX2_dance_20 rfl (lv_at hl 3 rfl) ?_
  refine ck_iD (wr := wR Y r q S_2) (ws' := wR Y r q S_2) (va_runSN (As := [.int a, .int b]) (rest := []) ⟨hx, hb, hml, hown, hts⟩ (c_X3_pairIndex l D Y H.size a b) ⟨va_cnB 2 hts gX2_dance_X3_pairIndex_n107 rfl rfl rfl hK.2.2.2.1 (hts (.initialized RX3) (by decide +kernel)) (by decide +kernel) ⟨Nat.le_of_ble_eq_true rfl, Nat.le_of_ble_eq_true rfl⟩, hts (.static yX3_pairIndex) (by decide +kernel), trivial⟩ (pst_S hK hP hD [] rfl (by decide)) rfl rfl hl.1 rfl (lv_room (Nat.le_of_ble_eq_true rfl)) dX2_dance_21 ⟨Nat.zero_le _, Nat.zero_le _⟩) hP hD hS hA [] [0, 1, 2, 3, 4, 5, 6, 7, 8, 9, 10] [0, 1, 2, 3, 4, 5, 6, 7, 8, 9, 10] rfl rfl (by decide) (by decide) rfl (by decide) (fun H locs hP hD hS => ?_)
  refine lv_istore (lv' := [(4, .int (D_X3_pairIndex a b)), (3, .int (D_X2_joyOfEach S a b)), (0, .ref r), (1, .int a), (2, .int b)]) hx hb dX2_dance_24 hl (by decide) rfl (fun ls hl => ?_)
  refine lv_aload_n hx hb dX2_dance_26 rfl (lv_at hl 2 rfl) ?_
  refine va_get (D := D) (ci := 2) (v := .ref (q 7)) (C := RX2) (T := TX2) (N := 13) hx hb hts in_X2_dance_RX2 hown hK.1 hP 0 rfl rfl 8 (by decide) (hts (.fieldLink RX2 37 "NineDancers$Ring" "dances" "[I") (by decide +kernel)) (fun _ h9 => h9) rfl dX2_dance_27 ?_
  refine lv_iload hx hb dX2_dance_30 (lv_at hl 0 rfl) ?_
  refine lv_dup2_11 hx hb dX2_dance_32 rfl rfl ?_
  refine va_iald (D := D) hx hb hK.1 hP 8 0 rfl rfl (in_pairIndex h_a h_b) dX2_dance_33 ?_
  refine lv_iconst (v := 1) hx hb dX2_dance_34 (by decide) ?_
  refine lv_iadd hx hb dX2_dance_35 ?_
  refine va_iast (D := D) hx hb hK.1 hP hD hS 8 0 rfl rfl (in_pairIndex h_a h_b) dX2_dance_36 (fun H locs hP hD hS => ?_)
  have hP : va_P D vwCl (wR Y r q (T_X2_dance_1 a b S_2)) H := hP
  have hD : va_D A (wR Y r q (T_X2_dance_1 a b S_2)) := hD
  obtain ⟨S_3, eS_3⟩ : ∃ z9, T_X2_dance_1 a b S_2 = z9 := ⟨_, rfl⟩
  rw [eS_3] at hP hD
  refine lv_aload_n hx hb dX2_dance_37 rfl (lv_at hl 2 rfl) ?_
  refine va_get (D := D) (ci := 2) (v := .ref (q 8)) (C := RX2) (T := TX2) (N := 13) hx hb hts in_X2_dance_RX2 hown hK.1 hP 0 rfl rfl 9 (by decide) (hts (.fieldLink RX2 40 "NineDancers$Ring" "lastDances" "[I") (by decide +kernel)) (fun _ h9 => h9) rfl dX2_dance_38 ?_
  refine lv_iload hx hb dX2_dance_41 (lv_at hl 0 rfl) ?_
  refine lv_aload_n hx hb dX2_dance_43 rfl (lv_at hl 2 rfl) ?_
  refine va_get (D := D) (ci := 2) (v := .int (S_3 10 1)) (C := RX2) (T := TX2) (N := 13) hx hb hts in_X2_dance_RX2 hown hK.1 hP 0 rfl rfl 11 (by decide) (hts (.fieldLink RX2 46 "NineDancers$Ring" "rounds" "I") (by decide +kernel)) (fun _ h9 => h9) rfl dX2_dance_44 ?_
  refine va_iast (D := D) hx hb hK.1 hP hD hS 9 0 rfl rfl (in_pairIndex h_a h_b) dX2_dance_47 (fun H locs hP hD hS => ?_)
  have hP : va_P D vwCl (wR Y r q (T_X2_dance_2 a b S_3)) H := hP
  have hD : va_D A (wR Y r q (T_X2_dance_2 a b S_3)) := hD
  obtain ⟨S_4, eS_4⟩ : ∃ z9, T_X2_dance_2 a b S_3 = z9 := ⟨_, rfl⟩
  rw [eS_4] at hP hD
  subst eS_4
  subst eS_3
  subst eS_2
  subst eS_1
  have e9 : D_X2_dance S a b = (T_X2_dance_2 a b (T_X2_dance_1 a b (D_X2_takePart (D_X2_takePart S a (D_X2_joyOfEach S a b)) b (D_X2_joyOfEach S a b)))) := by rw [D_X2_dance]
  exact ret_v hx hb hr hlk hP hD hS dX2_dance_48 ⟨Nat.zero_le _, Nat.zero_le _⟩ (by rw [e9])
def L_X2_danceRound_4 (S : Nat → Nat → Int32) (n : Int32) : Nat → (Int32) → (Int32) → (Nat → Nat → Int32) → (Int32) × (Nat → Nat → Int32)
  | 0, i, pz, S1 => (pz, S1)
  | n_4 + 1, i, pz, S1 => if 9 ≤ i then (pz, S1) else (if i = (D_X3_counterpart i n) then (L_X2_danceRound_4 S n n_4 (i + 1) pz (D_X2_rest S1 i)) else (if (D_X3_counterpart i n) ≤ i then (if (D_X3_counterpart i n) ≤ i then (L_X2_danceRound_4 S n n_4 (i + 1) pz S1) else (L_X2_danceRound_4 S n n_4 (i + 1) pz (D_X2_leaveAlone (D_X2_leaveAlone S1 i) (D_X3_counterpart i n)))) else (if (D_X2_wouldDance S1 i (D_X3_counterpart i n)) = 0 then (if (D_X3_counterpart i n) ≤ i then (L_X2_danceRound_4 S n n_4 (i + 1) pz S1) else (L_X2_danceRound_4 S n n_4 (i + 1) pz (D_X2_leaveAlone (D_X2_leaveAlone S1 i) (D_X3_counterpart i n)))) else (L_X2_danceRound_4 S n n_4 (i + 1) (pz + 1) (D_X2_dance S1 i (D_X3_counterpart i n))))))
def T_X2_danceRound_1 (n : Int32) (S1 : Nat → Nat → Int32) : Nat → Nat → Int32 := s2 S1 9 (D_X3_remainderOf n).toNatClampNeg ((S1 9 (D_X3_remainderOf n).toNatClampNeg) + 1)
def T_X2_danceRound_2 (n : Int32) (S_1 : Nat → Nat → Int32) : Nat → Nat → Int32 := s2 S_1 10 2 n
def T_X2_danceRound_3 (S_2 : Nat → Nat → Int32) : Nat → Nat → Int32 := s2 S_2 10 1 ((S_2 10 1) + 1)
def D_X2_danceRound (S : Nat → Nat → Int32) (n : Int32) : (Int32) × (Nat → Nat → Int32) := (((L_X2_danceRound_4 S n 10 0 0 S).1), (T_X2_danceRound_3 (T_X2_danceRound_2 n (T_X2_danceRound_1 n ((L_X2_danceRound_4 S n 10 0 0 S).2)))))
set_option maxRecDepth 100000 in
theorem in_X2_danceRound_RX2 : ∀ w ∈ u_ws RX2 TX2 13, w ∈ wsX2_danceRound := by decide +kernel
set_option maxHeartbeats 4000000 in
set_option maxRecDepth 100000 in
theorem c_X2_danceRound (l : Launch) (D : va_G) (Y : YY) (sz : Nat) (q : Nat → Nat) (S : Nat → Nat → Int32) (r : Nat) (n : Int32) : Met l yX2_danceRound wsX2_danceRound ({ frames := 3, cells := 0, slots := 0, locals := 67 } : Room) (va_Pc [.ref r, .int n] (Pst D Y sz (wR Y r q S))) ((fun A : Nat → Prop => Qsi D (fun r9 w9 => r9 = (D_X2_danceRound S n).1 ∧ w9 = wR Y r q ((D_X2_danceRound S n).2)) A) (va_A (wR Y r q S) sz)) 0 0 (va_A (wR Y r q S) sz) := by
  refine ct_in (cc := cX2_danceRound) (maxL := 5) (ret := (some .int)) (Qc := fun A : Nat → Prop => Qsi D (fun r9 w9 => r9 = (D_X2_danceRound S n).1 ∧ w9 = wR Y r q ((D_X2_danceRound S n).2)) A) (by decide +kernel) rfl (Nat.le_of_ble_eq_true rfl) ?_
  intro p e s m below meth c A ls hx hb hr hts hown hml hlk hin hsz hA hP hD hK hS hl
  have hown : s.vm.findClass RX2 = some m.cls := hown
  have hl : lv_has ls 5 [(0, .ref r), (1, .int n)] := hl
  show W p l e ({ frames := 3, cells := 0, slots := 0, locals := 67 } : Room) s m ([.ref r, .int n] : List Value).toArray below meth c s.heap [] 0 0 (MQ below (Qsi D (fun r9 w9 => r9 = (D_X2_danceRound S n).1 ∧ w9 = wR Y r q ((D_X2_danceRound S n).2)) A) ([.ref r, .int n] : List Value).toArray s 0 0 A) (F0 m 0 ls [])
  refine lv_iconst (v := 0) hx hb dX2_danceRound_0 (by decide) ?_
  refine lv_istore_n (lv' := [(2, .int 0), (0, .ref r), (1, .int n)]) hx hb dX2_danceRound_1 rfl hl (by decide) rfl (fun ls hl => ?_)
  refine lv_iconst (v := 0) hx hb dX2_danceRound_2 (by decide) ?_
  refine lv_istore_n (lv' := [(3, .int 0), (2, .int 0), (0, .ref r), (1, .int n)]) hx hb dX2_danceRound_3 rfl hl (by decide) rfl (fun ls hl => ?_)
  have loop_4 : ∀ (n_4 k_4 : Nat) (i : Int32) (pz : Int32) (S1 : Nat → Nat → Int32) (H : Heap) (locs : List Loc) (ls : Array Slot), 10 ≤ k_4 + n_4 → k_4 ≤ 9 → i = nI k_4 → va_P D vwCl (wR Y r q S1) H → va_D A (wR Y r q S1) → va_S A s.heap H locs → lv_has ls 5 [(3, .int i), (2, .int pz), (0, .ref r), (1, .int n)] → L_X2_danceRound_4 S n n_4 i pz S1 = L_X2_danceRound_4 S n 10 0 0 S → W p l e ({ frames := 3, cells := 0, slots := 0, locals := 67 } : Room) s m ([.ref r, .int n] : List Value).toArray below meth c H locs 0 0 (MQ below (Qsi D (fun r9 w9 => r9 = (D_X2_danceRound S n).1 ∧ w9 = wR Y r q ((D_X2_danceRound S n).2)) A) ([.ref r, .int n] : List Value).toArray s 0 0 A) (F0 m 4 ls []) := by
    intro n_4
    induction n_4 with
    | zero => intro k_4 i pz S1 H locs ls hkf hkN_4 ex_4 hP hD hS hl hR_4; exact absurd hkf (by omega)
    | succ n_4 ih_4 =>
      intro k_4 i pz S1 H locs ls hkf hkN_4 ex_4 hP hD hS hl hR_4
      refine lv_iload_n hx hb dX2_danceRound_4 rfl (lv_at hl 0 rfl) ?_
      refine lv_bipush (v := 9) hx hb dX2_danceRound_5 (by decide) ?_
      refine lv_icmp_ge (tgt := 83) hx hb dX2_danceRound_7 (by decide) (fun c_1 => ?_) (fun c_1 => ?_)
      · have e8 : L_X2_danceRound_4 S n (n_4 + 1) i pz S1 = (pz, S1) := by rw [L_X2_danceRound_4, if_pos c_1]
        have e8 := hR_4.symm.trans e8
        have epz : (L_X2_danceRound_4 S n 10 0 0 S).1 = pz := by rw [e8]
        have eS1 : (L_X2_danceRound_4 S n 10 0 0 S).2 = S1 := by rw [e8]
        clear e8 hR_4 ih_4
        refine lv_aload_n hx hb dX2_danceRound_83 rfl (lv_at hl 2 rfl) ?_
        refine va_get (D := D) (ci := 2) (v := .ref (q 9)) (C := RX2) (T := TX2) (N := 13) hx hb hts in_X2_danceRound_RX2 hown hK.1 hP 0 rfl rfl 10 (by decide) (hts (.fieldLink RX2 43 "NineDancers$Ring" "timesTold" "[I") (by decide +kernel)) (fun _ h9 => h9) rfl dX2_danceRound_84 ?_
        refine lv_iload_n hx hb dX2_danceRound_87 rfl (lv_at hl 3 rfl) ?_
        refine ck_iD (wr := wR Y r q S1) (ws' := wR Y r q S1) (va_runSN (As := [.int n]) (rest := [.ref (q 9)]) ⟨hx, hb, hml, hown, hts⟩ (c_X3_remainderOf l D Y H.size n) ⟨va_cnB 1 hts gX2_danceRound_X3_remainderOf_n93 rfl rfl rfl hK.2.2.2.2.1 (hts (.initialized RX3) (by decide +kernel)) (by decide +kernel) ⟨Nat.le_of_ble_eq_true rfl, Nat.le_of_ble_eq_true rfl⟩, hts (.static yX3_remainderOf) (by decide +kernel), trivial⟩ (pst_S hK hP hD [] rfl (by decide)) rfl rfl hl.1 rfl (lv_room (Nat.le_of_ble_eq_true rfl)) dX2_danceRound_88 ⟨Nat.zero_le _, Nat.zero_le _⟩) hP hD hS hA [] [0, 1, 2, 3, 4, 5, 6, 7, 8, 9, 10] [0, 1, 2, 3, 4, 5, 6, 7, 8, 9, 10] rfl rfl (by decide) (by decide) rfl (by decide) (fun H locs hP hD hS => ?_)
        refine lv_dup2_11 hx hb dX2_danceRound_91 rfl rfl ?_
        refine va_iald (D := D) hx hb hK.1 hP 10 0 rfl rfl (in_remainderOf _) dX2_danceRound_92 ?_
        refine lv_iconst (v := 1) hx hb dX2_danceRound_93 (by decide) ?_
        refine lv_iadd hx hb dX2_danceRound_94 ?_
        refine va_iast (D := D) hx hb hK.1 hP hD hS 10 0 rfl rfl (in_remainderOf _) dX2_danceRound_95 (fun H locs hP hD hS => ?_)
        have hP : va_P D vwCl (wR Y r q (T_X2_danceRound_1 n S1)) H := hP
        have hD : va_D A (wR Y r q (T_X2_danceRound_1 n S1)) := hD
        obtain ⟨S_1, eS_1⟩ : ∃ z9, T_X2_danceRound_1 n S1 = z9 := ⟨_, rfl⟩
        rw [eS_1] at hP hD
        refine lv_aload_n hx hb dX2_danceRound_96 rfl (lv_at hl 2 rfl) ?_
        refine lv_iload_n hx hb dX2_danceRound_97 rfl (lv_at hl 3 rfl) ?_
        refine va_put (D := D) (ci := 2) (v := .int n) (ty := .int) (C := RX2) (T := TX2) (N := 13) hx hb hts in_X2_danceRound_RX2 tyX2 tyX2_ok nmX2 hown hK.1 hP hD hS 0 rfl rfl 12 (by decide) (hts (.fieldLink RX2 50 "NineDancers$Ring" "lastNumber" "I") (by decide +kernel)) (fun _ h9 => h9) rfl (by decide +kernel) rfl rfl (Nat.le_of_ble_eq_true rfl) dX2_danceRound_98 (fun H locs hP hD hS => ?_)
        have hP : va_P D vwCl (wR Y r q (T_X2_danceRound_2 n S_1)) H := hP
        have hD : va_D A (wR Y r q (T_X2_danceRound_2 n S_1)) := hD
        obtain ⟨S_2, eS_2⟩ : ∃ z9, T_X2_danceRound_2 n S_1 = z9 := ⟨_, rfl⟩
        rw [eS_2] at hP hD
        refine lv_aload_n hx hb dX2_danceRound_101 rfl (lv_at hl 2 rfl) ?_
        refine lv_dup hx hb dX2_danceRound_102 rfl ?_
        refine va_get (D := D) (ci := 2) (v := .int (S_2 10 1)) (C := RX2) (T := TX2) (N := 13) hx hb hts in_X2_danceRound_RX2 hown hK.1 hP 0 rfl rfl 11 (by decide) (hts (.fieldLink RX2 46 "NineDancers$Ring" "rounds" "I") (by decide +kernel)) (fun _ h9 => h9) rfl dX2_danceRound_103 ?_
        refine lv_iconst (v := 1) hx hb dX2_danceRound_106 (by decide) ?_
        refine lv_iadd hx hb dX2_danceRound_107 ?_
        refine va_put (D := D) (ci := 2) (v := .int ((S_2 10 1) + 1)) (ty := .int) (C := RX2) (T := TX2) (N := 13) hx hb hts in_X2_danceRound_RX2 tyX2 tyX2_ok nmX2 hown hK.1 hP hD hS 0 rfl rfl 11 (by decide) (hts (.fieldLink RX2 46 "NineDancers$Ring" "rounds" "I") (by decide +kernel)) (fun _ h9 => h9) rfl (by decide +kernel) rfl rfl (Nat.le_of_ble_eq_true rfl) dX2_danceRound_108 (fun H locs hP hD hS => ?_)
        have hP : va_P D vwCl (wR Y r q (T_X2_danceRound_3 S_2)) H := hP
        have hD : va_D A (wR Y r q (T_X2_danceRound_3 S_2)) := hD
        obtain ⟨S_3, eS_3⟩ : ∃ z9, T_X2_danceRound_3 S_2 = z9 := ⟨_, rfl⟩
        rw [eS_3] at hP hD
        refine lv_iload_n hx hb dX2_danceRound_111 rfl (lv_at hl 1 rfl) ?_
        subst eS_3
        subst eS_2
        subst eS_1
        subst eS1
        subst epz
        have e9 : D_X2_danceRound S n = (((L_X2_danceRound_4 S n 10 0 0 S).1), (T_X2_danceRound_3 (T_X2_danceRound_2 n (T_X2_danceRound_1 n ((L_X2_danceRound_4 S n 10 0 0 S).2))))) := by rw [D_X2_danceRound]
        exact ret_i hx hb hr hlk hP hD hS dX2_danceRound_112 ⟨Nat.zero_le _, Nat.zero_le _⟩ ⟨by rw [e9], by rw [e9]⟩
      · have hk_4 := my_lt ex_4 (show (9 : Int32) = nI 9 from rfl) (by decide) hkN_4 c_1
        refine lv_iload_n hx hb dX2_danceRound_10 rfl (lv_at hl 0 rfl) ?_
        refine lv_iload_n hx hb dX2_danceRound_11 rfl (lv_at hl 3 rfl) ?_
        refine ck_iD (wr := wR Y r q S1) (ws' := wR Y r q S1) (va_runSN (As := [.int i, .int n]) (rest := []) ⟨hx, hb, hml, hown, hts⟩ (c_X3_counterpart l D Y H.size i n) ⟨va_cnB 2 hts gX2_danceRound_X3_counterpart_n75 rfl rfl rfl hK.2.2.1 (hts (.initialized RX3) (by decide +kernel)) (by decide +kernel) ⟨Nat.le_of_ble_eq_true rfl, Nat.le_of_ble_eq_true rfl⟩, hts (.static yX3_counterpart) (by decide +kernel), trivial⟩ (pst_S hK hP hD [] rfl (by decide)) rfl rfl hl.1 rfl (lv_room (Nat.le_of_ble_eq_true rfl)) dX2_danceRound_12 ⟨Nat.zero_le _, Nat.zero_le _⟩) hP hD hS hA [] [0, 1, 2, 3, 4, 5, 6, 7, 8, 9, 10] [0, 1, 2, 3, 4, 5, 6, 7, 8, 9, 10] rfl rfl (by decide) (by decide) rfl (by decide) (fun H locs hP hD hS => ?_)
        refine lv_istore (lv' := [(4, .int (D_X3_counterpart i n)), (3, .int i), (2, .int pz), (0, .ref r), (1, .int n)]) hx hb dX2_danceRound_15 hl (by decide) rfl (fun ls hl => ?_)
        refine lv_iload_n hx hb dX2_danceRound_17 rfl (lv_at hl 1 rfl) ?_
        refine lv_iload hx hb dX2_danceRound_18 (lv_at hl 0 rfl) ?_
        refine lv_icmp_ne (tgt := 31) hx hb dX2_danceRound_20 (by decide) (fun c_2 => ?_) (fun c_2 => ?_)
        · refine lv_iload_n hx hb dX2_danceRound_31 rfl (lv_at hl 1 rfl) ?_
          refine lv_iload hx hb dX2_danceRound_32 (lv_at hl 0 rfl) ?_
          refine lv_icmp_ge (tgt := 60) hx hb dX2_danceRound_34 (by decide) (fun c_3 => ?_) (fun c_3 => ?_)
          · refine lv_iload_n hx hb dX2_danceRound_60 rfl (lv_at hl 1 rfl) ?_
            refine lv_iload hx hb dX2_danceRound_61 (lv_at hl 0 rfl) ?_
            refine lv_icmp_ge (tgt := 77) hx hb dX2_danceRound_63 (by decide) (fun c_4 => ?_) (fun c_4 => ?_)
            · refine lv_iinc (v := i + 1) (lv' := [(3, .int (i + 1)), (4, .int (D_X3_counterpart i n)), (2, .int pz), (0, .ref r), (1, .int n)]) hx hb dX2_danceRound_77 hl (k := 1) rfl rfl (by decide) rfl (fun ls hl => ?_)
              refine lv_goto (tgt := 4) hx hb dX2_danceRound_80 (by decide) ?_
              exact ih_4 (k_4 + 1) (i + 1) pz S1 _ _ _ (by omega) (by omega) (by rw [ex_4]; exact nI_1 k_4)  hP hD hS (lv_sub hl [0, 2, 3, 4] rfl) (by rw [L_X2_danceRound_4, if_neg c_1, if_neg c_2, if_pos c_3, if_pos c_4] at hR_4; exact hR_4)
            · refine lv_aload_n hx hb dX2_danceRound_66 rfl (lv_at hl 3 rfl) ?_
              refine lv_iload_n hx hb dX2_danceRound_67 rfl (lv_at hl 1 rfl) ?_
              refine ck_vD (wr := ([] : va_W)) (ws' := wR Y r q (D_X2_leaveAlone S1 i)) (va_runV (As := [.int i]) (rest := []) ⟨hx, hb, hml, hown, hts⟩ (c_X2_leaveAlone l D Y H.size q S1 r i (by rw [ex_4]; exact vp_in_nI hk_4 (by decide))) (cwV 1 hts gX2_danceRound_X2_leaveAlone rfl rfl rfl (by decide +kernel) ⟨Nat.le_of_ble_eq_true rfl, Nat.le_of_ble_eq_true rfl⟩) (pst_V hK hP hD [0, 1, 2, 3, 4, 5, 6, 7, 8, 9, 10] rfl (by decide) (q0 := 0) rfl rfl) rfl rfl hl.1 rfl (lv_room (Nat.le_of_ble_eq_true rfl)) dX2_danceRound_68 ⟨Nat.zero_le _, Nat.zero_le _⟩) hP hD hS hA [0, 1, 2, 3, 4, 5, 6, 7, 8, 9, 10] [] [0, 1, 2, 3, 4, 5, 6, 7, 8, 9, 10] rfl rfl (by decide) (by decide) rfl (by decide) (fun H locs hP hD hS => ?_)
              obtain ⟨S_4, eS_4⟩ : ∃ z9, (D_X2_leaveAlone S1 i) = z9 := ⟨_, rfl⟩
              rw [eS_4] at hP hD
              refine lv_aload_n hx hb dX2_danceRound_71 rfl (lv_at hl 3 rfl) ?_
              refine lv_iload hx hb dX2_danceRound_72 (lv_at hl 0 rfl) ?_
              refine ck_vD (wr := ([] : va_W)) (ws' := wR Y r q (D_X2_leaveAlone S_4 (D_X3_counterpart i n))) (va_runV (As := [.int (D_X3_counterpart i n)]) (rest := []) ⟨hx, hb, hml, hown, hts⟩ (c_X2_leaveAlone l D Y H.size q S_4 r (D_X3_counterpart i n) (in_counterpart _ _)) (cwV 1 hts gX2_danceRound_X2_leaveAlone rfl rfl rfl (by decide +kernel) ⟨Nat.le_of_ble_eq_true rfl, Nat.le_of_ble_eq_true rfl⟩) (pst_V hK hP hD [0, 1, 2, 3, 4, 5, 6, 7, 8, 9, 10] rfl (by decide) (q0 := 0) rfl rfl) rfl rfl hl.1 rfl (lv_room (Nat.le_of_ble_eq_true rfl)) dX2_danceRound_74 ⟨Nat.zero_le _, Nat.zero_le _⟩) hP hD hS hA [0, 1, 2, 3, 4, 5, 6, 7, 8, 9, 10] [] [0, 1, 2, 3, 4, 5, 6, 7, 8, 9, 10] rfl rfl (by decide) (by decide) rfl (by decide) (fun H locs hP hD hS => ?_)
              obtain ⟨S_5, eS_5⟩ : ∃ z9, (D_X2_leaveAlone S_4 (D_X3_counterpart i n)) = z9 := ⟨_, rfl⟩
              rw [eS_5] at hP hD
              refine lv_iinc (v := i + 1) (lv' := [(3, .int (i + 1)), (4, .int (D_X3_counterpart i n)), (2, .int pz), (0, .ref r), (1, .int n)]) hx hb dX2_danceRound_77 hl (k := 1) rfl rfl (by decide) rfl (fun ls hl => ?_)
              refine lv_goto (tgt := 4) hx hb dX2_danceRound_80 (by decide) ?_
              subst eS_5
              subst eS_4
              exact ih_4 (k_4 + 1) (i + 1) pz (D_X2_leaveAlone (D_X2_leaveAlone S1 i) (D_X3_counterpart i n)) _ _ _ (by omega) (by omega) (by rw [ex_4]; exact nI_1 k_4)  hP hD hS (lv_sub hl [0, 2, 3, 4] rfl) (by rw [L_X2_danceRound_4, if_neg c_1, if_neg c_2, if_pos c_3, if_neg c_4] at hR_4; exact hR_4)
          · refine lv_aload_n hx hb dX2_danceRound_37 rfl (lv_at hl 3 rfl) ?_
            refine lv_iload_n hx hb dX2_danceRound_38 rfl (lv_at hl 1 rfl) ?_
            refine lv_iload hx hb dX2_danceRound_39 (lv_at hl 0 rfl) ?_
            refine ck_iD (wr := ([] : va_W)) (ws' := wR Y r q S1) (va_runV (As := [.int i, .int (D_X3_counterpart i n)]) (rest := []) ⟨hx, hb, hml, hown, hts⟩ (c_X2_wouldDance l D Y H.size q S1 r i (D_X3_counterpart i n) (by rw [ex_4]; exact vp_in_nI hk_4 (by decide)) (in_counterpart _ _)) (cwV 2 hts gX2_danceRound_X2_wouldDance rfl rfl rfl (by decide +kernel) ⟨Nat.le_of_ble_eq_true rfl, Nat.le_of_ble_eq_true rfl⟩) (pst_V hK hP hD [0, 1, 2, 3, 4, 5, 6, 7, 8, 9, 10] rfl (by decide) (q0 := 0) rfl rfl) rfl rfl hl.1 rfl (lv_room (Nat.le_of_ble_eq_true rfl)) dX2_danceRound_41 ⟨Nat.zero_le _, Nat.zero_le _⟩) hP hD hS hA [0, 1, 2, 3, 4, 5, 6, 7, 8, 9, 10] [] [0, 1, 2, 3, 4, 5, 6, 7, 8, 9, 10] rfl rfl (by decide) (by decide) rfl (by decide) (fun H locs hP hD hS => ?_)
            refine lv_if_eq (tgt := 60) hx hb dX2_danceRound_44 (by decide) (fun c_5 => ?_) (fun c_5 => ?_)
            · refine lv_iload_n hx hb dX2_danceRound_60 rfl (lv_at hl 1 rfl) ?_
              refine lv_iload hx hb dX2_danceRound_61 (lv_at hl 0 rfl) ?_
              refine lv_icmp_ge (tgt := 77) hx hb dX2_danceRound_63 (by decide) (fun c_6 => ?_) (fun c_6 => ?_)
              · refine lv_iinc (v := i + 1) (lv' := [(3, .int (i + 1)), (4, .int (D_X3_counterpart i n)), (2, .int pz), (0, .ref r), (1, .int n)]) hx hb dX2_danceRound_77 hl (k := 1) rfl rfl (by decide) rfl (fun ls hl => ?_)
                refine lv_goto (tgt := 4) hx hb dX2_danceRound_80 (by decide) ?_
                exact ih_4 (k_4 + 1) (i + 1) pz S1 _ _ _ (by omega) (by omega) (by rw [ex_4]; exact nI_1 k_4)  hP hD hS (lv_sub hl [0, 2, 3, 4] rfl) (by rw [L_X2_danceRound_4, if_neg c_1, if_neg c_2, if_neg c_3, if_pos c_5, if_pos c_6] at hR_4; exact hR_4)
              · refine lv_aload_n hx hb dX2_danceRound_66 rfl (lv_at hl 3 rfl) ?_
                refine lv_iload_n hx hb dX2_danceRound_67 rfl (lv_at hl 1 rfl) ?_
                refine ck_vD (wr := ([] : va_W)) (ws' := wR Y r q (D_X2_leaveAlone S1 i)) (va_runV (As := [.int i]) (rest := []) ⟨hx, hb, hml, hown, hts⟩ (c_X2_leaveAlone l D Y H.size q S1 r i (by rw [ex_4]; exact vp_in_nI hk_4 (by decide))) (cwV 1 hts gX2_danceRound_X2_leaveAlone rfl rfl rfl (by decide +kernel) ⟨Nat.le_of_ble_eq_true rfl, Nat.le_of_ble_eq_true rfl⟩) (pst_V hK hP hD [0, 1, 2, 3, 4, 5, 6, 7, 8, 9, 10] rfl (by decide) (q0 := 0) rfl rfl) rfl rfl hl.1 rfl (lv_room (Nat.le_of_ble_eq_true rfl)) dX2_danceRound_68 ⟨Nat.zero_le _, Nat.zero_le _⟩) hP hD hS hA [0, 1, 2, 3, 4, 5, 6, 7, 8, 9, 10] [] [0, 1, 2, 3, 4, 5, 6, 7, 8, 9, 10] rfl rfl (by decide) (by decide) rfl (by decide) (fun H locs hP hD hS => ?_)
                obtain ⟨S_6, eS_6⟩ : ∃ z9, (D_X2_leaveAlone S1 i) = z9 := ⟨_, rfl⟩
                rw [eS_6] at hP hD
                refine lv_aload_n hx hb dX2_danceRound_71 rfl (lv_at hl 3 rfl) ?_
                refine lv_iload hx hb dX2_danceRound_72 (lv_at hl 0 rfl) ?_
                refine ck_vD (wr := ([] : va_W)) (ws' := wR Y r q (D_X2_leaveAlone S_6 (D_X3_counterpart i n))) (va_runV (As := [.int (D_X3_counterpart i n)]) (rest := []) ⟨hx, hb, hml, hown, hts⟩ (c_X2_leaveAlone l D Y H.size q S_6 r (D_X3_counterpart i n) (in_counterpart _ _)) (cwV 1 hts gX2_danceRound_X2_leaveAlone rfl rfl rfl (by decide +kernel) ⟨Nat.le_of_ble_eq_true rfl, Nat.le_of_ble_eq_true rfl⟩) (pst_V hK hP hD [0, 1, 2, 3, 4, 5, 6, 7, 8, 9, 10] rfl (by decide) (q0 := 0) rfl rfl) rfl rfl hl.1 rfl (lv_room (Nat.le_of_ble_eq_true rfl)) dX2_danceRound_74 ⟨Nat.zero_le _, Nat.zero_le _⟩) hP hD hS hA [0, 1, 2, 3, 4, 5, 6, 7, 8, 9, 10] [] [0, 1, 2, 3, 4, 5, 6, 7, 8, 9, 10] rfl rfl (by decide) (by decide) rfl (by decide) (fun H locs hP hD hS => ?_)
                obtain ⟨S_7, eS_7⟩ : ∃ z9, (D_X2_leaveAlone S_6 (D_X3_counterpart i n)) = z9 := ⟨_, rfl⟩
                rw [eS_7] at hP hD
                refine lv_iinc (v := i + 1) (lv' := [(3, .int (i + 1)), (4, .int (D_X3_counterpart i n)), (2, .int pz), (0, .ref r), (1, .int n)]) hx hb dX2_danceRound_77 hl (k := 1) rfl rfl (by decide) rfl (fun ls hl => ?_)
                refine lv_goto (tgt := 4) hx hb dX2_danceRound_80 (by decide) ?_
                subst eS_7
                subst eS_6
                exact ih_4 (k_4 + 1) (i + 1) pz (D_X2_leaveAlone (D_X2_leaveAlone S1 i) (D_X3_counterpart i n)) _ _ _ (by omega) (by omega) (by rw [ex_4]; exact nI_1 k_4)  hP hD hS (lv_sub hl [0, 2, 3, 4] rfl) (by rw [L_X2_danceRound_4, if_neg c_1, if_neg c_2, if_neg c_3, if_pos c_5, if_neg c_6] at hR_4; exact hR_4)
            · refine lv_aload_n hx hb dX2_danceRound_47 rfl (lv_at hl 3 rfl) ?_
              refine lv_iload_n hx hb dX2_danceRound_48 rfl (lv_at hl 1 rfl) ?_
              refine lv_iload hx hb dX2_danceRound_49 (lv_at hl 0 rfl) ?_
              refine ck_vD (wr := ([] : va_W)) (ws' := wR Y r q (D_X2_dance S1 i (D_X3_counterpart i n))) (va_runV (As := [.int i, .int (D_X3_counterpart i n)]) (rest := []) ⟨hx, hb, hml, hown, hts⟩ (c_X2_dance l D Y H.size q S1 r i (D_X3_counterpart i n) (by rw [ex_4]; exact vp_in_nI hk_4 (by decide)) (in_counterpart _ _)) (cwV 2 hts gX2_danceRound_X2_dance rfl rfl rfl (by decide +kernel) ⟨Nat.le_of_ble_eq_true rfl, Nat.le_of_ble_eq_true rfl⟩) (pst_V hK hP hD [0, 1, 2, 3, 4, 5, 6, 7, 8, 9, 10] rfl (by decide) (q0 := 0) rfl rfl) rfl rfl hl.1 rfl (lv_room (Nat.le_of_ble_eq_true rfl)) dX2_danceRound_51 ⟨Nat.zero_le _, Nat.zero_le _⟩) hP hD hS hA [0, 1, 2, 3, 4, 5, 6, 7, 8, 9, 10] [] [0, 1, 2, 3, 4, 5, 6, 7, 8, 9, 10] rfl rfl (by decide) (by decide) rfl (by decide) (fun H locs hP hD hS => ?_)
              obtain ⟨S_8, eS_8⟩ : ∃ z9, (D_X2_dance S1 i (D_X3_counterpart i n)) = z9 := ⟨_, rfl⟩
              rw [eS_8] at hP hD
              refine lv_iinc (v := pz + 1) (lv' := [(2, .int (pz + 1)), (4, .int (D_X3_counterpart i n)), (3, .int i), (0, .ref r), (1, .int n)]) hx hb dX2_danceRound_54 hl (k := 2) rfl rfl (by decide) rfl (fun ls hl => ?_)
              refine lv_goto (tgt := 77) hx hb dX2_danceRound_57 (by decide) ?_
              refine lv_iinc (v := i + 1) (lv' := [(3, .int (i + 1)), (2, .int (pz + 1)), (4, .int (D_X3_counterpart i n)), (0, .ref r), (1, .int n)]) hx hb dX2_danceRound_77 hl (k := 2) rfl rfl (by decide) rfl (fun ls hl => ?_)
              refine lv_goto (tgt := 4) hx hb dX2_danceRound_80 (by decide) ?_
              subst eS_8
              exact ih_4 (k_4 + 1) (i + 1) (pz + 1) (D_X2_dance S1 i (D_X3_counterpart i n)) _ _ _ (by omega) (by omega) (by rw [ex_4]; exact nI_1 k_4)  hP hD hS (lv_sub hl [0, 1, 3, 4] rfl) (by rw [L_X2_danceRound_4, if_neg c_1, if_neg c_2, if_neg c_3, if_neg c_5] at hR_4; exact hR_4)
        · refine lv_aload_n hx hb dX2_danceRound_23 rfl (lv_at hl 3 rfl) ?_
          refine lv_iload_n hx hb dX2_danceRound_24 rfl (lv_at hl 1 rfl) ?_
          refine ck_vD (wr := ([] : va_W)) (ws' := wR Y r q (D_X2_rest S1 i)) (va_runV (As := [.int i]) (rest := []) ⟨hx, hb, hml, hown, hts⟩ (c_X2_rest l D Y H.size q S1 r i (by rw [ex_4]; exact vp_in_nI hk_4 (by decide))) (cwV 1 hts gX2_danceRound_X2_rest rfl rfl rfl (by decide +kernel) ⟨Nat.le_of_ble_eq_true rfl, Nat.le_of_ble_eq_true rfl⟩) (pst_V hK hP hD [0, 1, 2, 3, 4, 5, 6, 7, 8, 9, 10] rfl (by decide) (q0 := 0) rfl rfl) rfl rfl hl.1 rfl (lv_room (Nat.le_of_ble_eq_true rfl)) dX2_danceRound_25 ⟨Nat.zero_le _, Nat.zero_le _⟩) hP hD hS hA [0, 1, 2, 3, 4, 5, 6, 7, 8, 9, 10] [] [0, 1, 2, 3, 4, 5, 6, 7, 8, 9, 10] rfl rfl (by decide) (by decide) rfl (by decide) (fun H locs hP hD hS => ?_)
          obtain ⟨S_9, eS_9⟩ : ∃ z9, (D_X2_rest S1 i) = z9 := ⟨_, rfl⟩
          rw [eS_9] at hP hD
          refine lv_goto (tgt := 77) hx hb dX2_danceRound_28 (by decide) ?_
          refine lv_iinc (v := i + 1) (lv' := [(3, .int (i + 1)), (4, .int (D_X3_counterpart i n)), (2, .int pz), (0, .ref r), (1, .int n)]) hx hb dX2_danceRound_77 hl (k := 1) rfl rfl (by decide) rfl (fun ls hl => ?_)
          refine lv_goto (tgt := 4) hx hb dX2_danceRound_80 (by decide) ?_
          subst eS_9
          exact ih_4 (k_4 + 1) (i + 1) pz (D_X2_rest S1 i) _ _ _ (by omega) (by omega) (by rw [ex_4]; exact nI_1 k_4)  hP hD hS (lv_sub hl [0, 2, 3, 4] rfl) (by rw [L_X2_danceRound_4, if_neg c_1, if_pos c_2] at hR_4; exact hR_4)
  exact loop_4 10 0 0 0 S _ _ _ (by omega) (Nat.zero_le _) nI_0.symm  hP hD hS (lv_sub hl [0, 1, 2, 3] rfl) rfl
end
section
def L_X2_dancedWith_4 (S : Nat → Nat → Int32) (v : Int32) : Nat → (Int32) → (Int32) → (Int32)
  | 0, i, pz => pz
  | n_4 + 1, i, pz => if 9 ≤ i then pz else (if (S 7 (D_X3_pairIndex v i).toNatClampNeg) ≤ 0 then (L_X2_dancedWith_4 S v n_4 (i + 1) pz) else (L_X2_dancedWith_4 S v n_4 (i + 1) (pz ||| (1 <<< (i &&& 31)))))
def D_X2_dancedWith (S : Nat → Nat → Int32) (v : Int32) : (Int32) := (L_X2_dancedWith_4 S v 10 0 0)
set_option maxRecDepth 100000 in
theorem in_X2_dancedWith_RX2 : ∀ w ∈ u_ws RX2 TX2 13, w ∈ wsX2_dancedWith := by decide +kernel
set_option maxHeartbeats 4000000 in
set_option maxRecDepth 100000 in
theorem c_X2_dancedWith (l : Launch) (D : va_G) (Y : YY) (sz : Nat) (q : Nat → Nat) (S : Nat → Nat → Int32) (r : Nat) (v : Int32) (h_v : vp_in v 9) : Met l yX2_dancedWith wsX2_dancedWith ({ frames := 1, cells := 0, slots := 0, locals := 21 } : Room) (va_Pc [.ref r, .int v] (Pst D Y sz (wR Y r q S))) ((fun A : Nat → Prop => Qsi D (fun r9 w9 => r9 = D_X2_dancedWith S v ∧ w9 = wR Y r q S) A) (va_A (wR Y r q S) sz)) 0 0 (va_A (wR Y r q S) sz) := by
  refine ct_in (cc := cX2_dancedWith) (maxL := 4) (ret := (some .int)) (Qc := fun A : Nat → Prop => Qsi D (fun r9 w9 => r9 = D_X2_dancedWith S v ∧ w9 = wR Y r q S) A) (by decide +kernel) rfl (Nat.le_of_ble_eq_true rfl) ?_
  intro p e s m below meth c A ls hx hb hr hts hown hml hlk hin hsz hA hP hD hK hS hl
  have hown : s.vm.findClass RX2 = some m.cls := hown
  have hl : lv_has ls 4 [(0, .ref r), (1, .int v)] := hl
  show W p l e ({ frames := 1, cells := 0, slots := 0, locals := 21 } : Room) s m ([.ref r, .int v] : List Value).toArray below meth c s.heap [] 0 0 (MQ below (Qsi D (fun r9 w9 => r9 = D_X2_dancedWith S v ∧ w9 = wR Y r q S) A) ([.ref r, .int v] : List Value).toArray s 0 0 A) (F0 m 0 ls [])
  refine lv_iconst (v := 0) hx hb dX2_dancedWith_0 (by decide) ?_
  refine lv_istore_n (lv' := [(2, .int 0), (0, .ref r), (1, .int v)]) hx hb dX2_dancedWith_1 rfl hl (by decide) rfl (fun ls hl => ?_)
  refine lv_iconst (v := 0) hx hb dX2_dancedWith_2 (by decide) ?_
  refine lv_istore_n (lv' := [(3, .int 0), (2, .int 0), (0, .ref r), (1, .int v)]) hx hb dX2_dancedWith_3 rfl hl (by decide) rfl (fun ls hl => ?_)
  have loop_4 : ∀ (n_4 k_4 : Nat) (i : Int32) (pz : Int32) (H : Heap) (locs : List Loc) (ls : Array Slot), 10 ≤ k_4 + n_4 → k_4 ≤ 9 → i = nI k_4 → va_P D vwCl (wR Y r q S) H → va_D A (wR Y r q S) → va_S A s.heap H locs → lv_has ls 4 [(3, .int i), (2, .int pz), (0, .ref r), (1, .int v)] → L_X2_dancedWith_4 S v n_4 i pz = L_X2_dancedWith_4 S v 10 0 0 → W p l e ({ frames := 1, cells := 0, slots := 0, locals := 21 } : Room) s m ([.ref r, .int v] : List Value).toArray below meth c H locs 0 0 (MQ below (Qsi D (fun r9 w9 => r9 = D_X2_dancedWith S v ∧ w9 = wR Y r q S) A) ([.ref r, .int v] : List Value).toArray s 0 0 A) (F0 m 4 ls []) := by
    intro n_4
    induction n_4 with
    | zero => intro k_4 i pz H locs ls hkf hkN_4 ex_4 hP hD hS hl hR_4; exact absurd hkf (by omega)
    | succ n_4 ih_4 =>
      intro k_4 i pz H locs ls hkf hkN_4 ex_4 hP hD hS hl hR_4
      refine lv_iload_n hx hb dX2_dancedWith_4 rfl (lv_at hl 0 rfl) ?_
      refine lv_bipush (v := 9) hx hb dX2_dancedWith_5 (by decide) ?_
      refine lv_icmp_ge (tgt := 35) hx hb dX2_dancedWith_7 (by decide) (fun c_1 => ?_) (fun c_1 => ?_)
      · have e8 : L_X2_dancedWith_4 S v (n_4 + 1) i pz = pz := by rw [L_X2_dancedWith_4, if_pos c_1]
        have e8 := hR_4.symm.trans e8
        have epz : L_X2_dancedWith_4 S v 10 0 0 = pz := by rw [e8]
        clear e8 hR_4 ih_4
        refine lv_iload_n hx hb dX2_dancedWith_35 rfl (lv_at hl 1 rfl) ?_
        subst epz
        have e9 : D_X2_dancedWith S v = (L_X2_dancedWith_4 S v 10 0 0) := by rw [D_X2_dancedWith]
        exact ret_i hx hb hr hlk hP hD hS dX2_dancedWith_36 ⟨Nat.zero_le _, Nat.zero_le _⟩ ⟨e9.symm, rfl⟩
      · have hk_4 := my_lt ex_4 (show (9 : Int32) = nI 9 from rfl) (by decide) hkN_4 c_1
        refine lv_aload_n hx hb dX2_dancedWith_10 rfl (lv_at hl 2 rfl) ?_
        refine va_get (D := D) (ci := 2) (v := .ref (q 7)) (C := RX2) (T := TX2) (N := 13) hx hb hts in_X2_dancedWith_RX2 hown hK.1 hP 0 rfl rfl 8 (by decide) (hts (.fieldLink RX2 37 "NineDancers$Ring" "dances" "[I") (by decide +kernel)) (fun _ h9 => h9) rfl dX2_dancedWith_11 ?_
        refine lv_iload_n hx hb dX2_dancedWith_14 rfl (lv_at hl 3 rfl) ?_
        refine lv_iload_n hx hb dX2_dancedWith_15 rfl (lv_at hl 0 rfl) ?_
        refine ck_iD (wr := wR Y r q S) (ws' := wR Y r q S) (va_runSN (As := [.int v, .int i]) (rest := [.ref (q 7)]) ⟨hx, hb, hml, hown, hts⟩ (c_X3_pairIndex l D Y H.size v i) ⟨va_cnB 2 hts gX2_dancedWith_X3_pairIndex_n107 rfl rfl rfl hK.2.2.2.1 (hts (.initialized RX3) (by decide +kernel)) (by decide +kernel) ⟨Nat.le_of_ble_eq_true rfl, Nat.le_of_ble_eq_true rfl⟩, hts (.static yX3_pairIndex) (by decide +kernel), trivial⟩ (pst_S hK hP hD [] rfl (by decide)) rfl rfl hl.1 rfl (lv_room (Nat.le_of_ble_eq_true rfl)) dX2_dancedWith_16 ⟨Nat.zero_le _, Nat.zero_le _⟩) hP hD hS hA [] [0, 1, 2, 3, 4, 5, 6, 7, 8, 9, 10] [0, 1, 2, 3, 4, 5, 6, 7, 8, 9, 10] rfl rfl (by decide) (by decide) rfl (by decide) (fun H locs hP hD hS => ?_)
        refine va_iald (D := D) hx hb hK.1 hP 8 0 rfl rfl (in_pairIndex h_v (by rw [ex_4]; exact vp_in_nI hk_4 (by decide))) dX2_dancedWith_19 ?_
        refine lv_if_le (tgt := 29) hx hb dX2_dancedWith_20 (by decide) (fun c_2 => ?_) (fun c_2 => ?_)
        · refine lv_iinc (v := i + 1) (lv' := [(3, .int (i + 1)), (2, .int pz), (0, .ref r), (1, .int v)]) hx hb dX2_dancedWith_29 hl (k := 0) rfl rfl (by decide) rfl (fun ls hl => ?_)
          refine lv_goto (tgt := 4) hx hb dX2_dancedWith_32 (by decide) ?_
          exact ih_4 (k_4 + 1) (i + 1) pz _ _ _ (by omega) (by omega) (by rw [ex_4]; exact nI_1 k_4)  hP hD hS (lv_sub hl [0, 1, 2, 3] rfl) (by rw [L_X2_dancedWith_4, if_neg c_1, if_pos c_2] at hR_4; exact hR_4)
        · refine lv_iload_n hx hb dX2_dancedWith_23 rfl (lv_at hl 1 rfl) ?_
          refine lv_iconst (v := 1) hx hb dX2_dancedWith_24 (by decide) ?_
          refine lv_iload_n hx hb dX2_dancedWith_25 rfl (lv_at hl 0 rfl) ?_
          refine lv_ishl hx hb dX2_dancedWith_26 ?_
          refine lv_ior hx hb dX2_dancedWith_27 ?_
          refine lv_istore_n (lv' := [(2, .int (pz ||| (1 <<< (i &&& 31)))), (3, .int i), (0, .ref r), (1, .int v)]) hx hb dX2_dancedWith_28 rfl hl (by decide) rfl (fun ls hl => ?_)
          refine lv_iinc (v := i + 1) (lv' := [(3, .int (i + 1)), (2, .int (pz ||| (1 <<< (i &&& 31)))), (0, .ref r), (1, .int v)]) hx hb dX2_dancedWith_29 hl (k := 1) rfl rfl (by decide) rfl (fun ls hl => ?_)
          refine lv_goto (tgt := 4) hx hb dX2_dancedWith_32 (by decide) ?_
          exact ih_4 (k_4 + 1) (i + 1) (pz ||| (1 <<< (i &&& 31))) _ _ _ (by omega) (by omega) (by rw [ex_4]; exact nI_1 k_4)  hP hD hS (lv_sub hl [0, 1, 2, 3] rfl) (by rw [L_X2_dancedWith_4, if_neg c_1, if_neg c_2] at hR_4; exact hR_4)
  exact loop_4 10 0 0 0 _ _ _ (by omega) (Nat.zero_le _) nI_0.symm  hP hD hS (lv_sub hl [0, 1, 2, 3] rfl) rfl
def L_X2_mostFrequentPartner_8 (S : Nat → Nat → Int32) (v : Int32) : Nat → (Int32) → (Int32) → (Int32) → (Int32) × (Int32)
  | 0, i, pz, w => (pz, w)
  | n_8 + 1, i, pz, w => if 9 ≤ i then (pz, w) else (if (S 7 (D_X3_pairIndex v i).toNatClampNeg) ≤ w then (L_X2_mostFrequentPartner_8 S v n_8 (i + 1) pz w) else (L_X2_mostFrequentPartner_8 S v n_8 (i + 1) i (S 7 (D_X3_pairIndex v i).toNatClampNeg)))
def D_X2_mostFrequentPartner (S : Nat → Nat → Int32) (v : Int32) : (Int32) := ((L_X2_mostFrequentPartner_8 S v 10 0 (-1000006) 0).1)
set_option maxRecDepth 100000 in
theorem in_X2_mostFrequentPartner_RX2 : ∀ w ∈ u_ws RX2 TX2 13, w ∈ wsX2_mostFrequentPartner := by decide +kernel
set_option maxHeartbeats 4000000 in
set_option maxRecDepth 100000 in
theorem c_X2_mostFrequentPartner (l : Launch) (D : va_G) (Y : YY) (sz : Nat) (q : Nat → Nat) (S : Nat → Nat → Int32) (r : Nat) (v : Int32) (h_v : vp_in v 9) : Met l yX2_mostFrequentPartner wsX2_mostFrequentPartner ({ frames := 1, cells := 0, slots := 0, locals := 21 } : Room) (va_Pc [.ref r, .int v] (Pst D Y sz (wR Y r q S))) ((fun A : Nat → Prop => Qsi D (fun r9 w9 => r9 = D_X2_mostFrequentPartner S v ∧ w9 = wR Y r q S) A) (va_A (wR Y r q S) sz)) 0 0 (va_A (wR Y r q S) sz) := by
  refine ct_in (cc := cX2_mostFrequentPartner) (maxL := 6) (ret := (some .int)) (Qc := fun A : Nat → Prop => Qsi D (fun r9 w9 => r9 = D_X2_mostFrequentPartner S v ∧ w9 = wR Y r q S) A) (by decide +kernel) rfl (Nat.le_of_ble_eq_true rfl) ?_
  intro p e s m below meth c A ls hx hb hr hts hown hml hlk hin hsz hA hP hD hK hS hl
  have hown : s.vm.findClass RX2 = some m.cls := hown
  have hl : lv_has ls 6 [(0, .ref r), (1, .int v)] := hl
  show W p l e ({ frames := 1, cells := 0, slots := 0, locals := 21 } : Room) s m ([.ref r, .int v] : List Value).toArray below meth c s.heap [] 0 0 (MQ below (Qsi D (fun r9 w9 => r9 = D_X2_mostFrequentPartner S v ∧ w9 = wR Y r q S) A) ([.ref r, .int v] : List Value).toArray s 0 0 A) (F0 m 0 ls [])
  refine lv_ldc (v := (-1000006)) hx hb hown (hts (.constant RX2 49 (-1000006)) (by decide +kernel)) dX2_mostFrequentPartner_0 ?_
  refine lv_istore_n (lv' := [(2, .int (-1000006)), (0, .ref r), (1, .int v)]) hx hb dX2_mostFrequentPartner_2 rfl hl (by decide) rfl (fun ls hl => ?_)
  refine lv_iconst (v := 0) hx hb dX2_mostFrequentPartner_3 (by decide) ?_
  refine lv_istore_n (lv' := [(3, .int 0), (2, .int (-1000006)), (0, .ref r), (1, .int v)]) hx hb dX2_mostFrequentPartner_4 rfl hl (by decide) rfl (fun ls hl => ?_)
  refine lv_iconst (v := 0) hx hb dX2_mostFrequentPartner_5 (by decide) ?_
  refine lv_istore (lv' := [(4, .int 0), (3, .int 0), (2, .int (-1000006)), (0, .ref r), (1, .int v)]) hx hb dX2_mostFrequentPartner_6 hl (by decide) rfl (fun ls hl => ?_)
  have loop_8 : ∀ (n_8 k_8 : Nat) (i : Int32) (pz : Int32) (w : Int32) (H : Heap) (locs : List Loc) (ls : Array Slot), 10 ≤ k_8 + n_8 → k_8 ≤ 9 → i = nI k_8 → va_P D vwCl (wR Y r q S) H → va_D A (wR Y r q S) → va_S A s.heap H locs → lv_has ls 6 [(4, .int i), (3, .int w), (2, .int pz), (0, .ref r), (1, .int v)] → L_X2_mostFrequentPartner_8 S v n_8 i pz w = L_X2_mostFrequentPartner_8 S v 10 0 (-1000006) 0 → W p l e ({ frames := 1, cells := 0, slots := 0, locals := 21 } : Room) s m ([.ref r, .int v] : List Value).toArray below meth c H locs 0 0 (MQ below (Qsi D (fun r9 w9 => r9 = D_X2_mostFrequentPartner S v ∧ w9 = wR Y r q S) A) ([.ref r, .int v] : List Value).toArray s 0 0 A) (F0 m 8 ls []) := by
    intro n_8
    induction n_8 with
    | zero => intro k_8 i pz w H locs ls hkf hkN_8 ex_8 hP hD hS hl hR_8; exact absurd hkf (by omega)
    | succ n_8 ih_8 =>
      intro k_8 i pz w H locs ls hkf hkN_8 ex_8 hP hD hS hl hR_8
      refine lv_iload hx hb dX2_mostFrequentPartner_8 (lv_at hl 0 rfl) ?_
      refine lv_bipush (v := 9) hx hb dX2_mostFrequentPartner_10 (by decide) ?_
      refine lv_icmp_ge (tgt := 46) hx hb dX2_mostFrequentPartner_12 (by decide) (fun c_1 => ?_) (fun c_1 => ?_)
      · have e8 : L_X2_mostFrequentPartner_8 S v (n_8 + 1) i pz w = (pz, w) := by rw [L_X2_mostFrequentPartner_8, if_pos c_1]
        have e8 := hR_8.symm.trans e8
        have epz : (L_X2_mostFrequentPartner_8 S v 10 0 (-1000006) 0).1 = pz := by rw [e8]
        have ew : (L_X2_mostFrequentPartner_8 S v 10 0 (-1000006) 0).2 = w := by rw [e8]
        clear e8 hR_8 ih_8
        refine lv_iload_n hx hb dX2_mostFrequentPartner_46 rfl (lv_at hl 2 rfl) ?_
        subst ew
        subst epz
        have e9 : D_X2_mostFrequentPartner S v = ((L_X2_mostFrequentPartner_8 S v 10 0 (-1000006) 0).1) := by rw [D_X2_mostFrequentPartner]
        exact ret_i hx hb hr hlk hP hD hS dX2_mostFrequentPartner_47 ⟨Nat.zero_le _, Nat.zero_le _⟩ ⟨e9.symm, rfl⟩
      · have hk_8 := my_lt ex_8 (show (9 : Int32) = nI 9 from rfl) (by decide) hkN_8 c_1
        refine lv_aload_n hx hb dX2_mostFrequentPartner_15 rfl (lv_at hl 3 rfl) ?_
        refine va_get (D := D) (ci := 2) (v := .ref (q 7)) (C := RX2) (T := TX2) (N := 13) hx hb hts in_X2_mostFrequentPartner_RX2 hown hK.1 hP 0 rfl rfl 8 (by decide) (hts (.fieldLink RX2 37 "NineDancers$Ring" "dances" "[I") (by decide +kernel)) (fun _ h9 => h9) rfl dX2_mostFrequentPartner_16 ?_
        refine lv_iload_n hx hb dX2_mostFrequentPartner_19 rfl (lv_at hl 4 rfl) ?_
        refine lv_iload hx hb dX2_mostFrequentPartner_20 (lv_at hl 0 rfl) ?_
        refine ck_iD (wr := wR Y r q S) (ws' := wR Y r q S) (va_runSN (As := [.int v, .int i]) (rest := [.ref (q 7)]) ⟨hx, hb, hml, hown, hts⟩ (c_X3_pairIndex l D Y H.size v i) ⟨va_cnB 2 hts gX2_mostFrequentPartner_X3_pairIndex_n107 rfl rfl rfl hK.2.2.2.1 (hts (.initialized RX3) (by decide +kernel)) (by decide +kernel) ⟨Nat.le_of_ble_eq_true rfl, Nat.le_of_ble_eq_true rfl⟩, hts (.static yX3_pairIndex) (by decide +kernel), trivial⟩ (pst_S hK hP hD [] rfl (by decide)) rfl rfl hl.1 rfl (lv_room (Nat.le_of_ble_eq_true rfl)) dX2_mostFrequentPartner_22 ⟨Nat.zero_le _, Nat.zero_le _⟩) hP hD hS hA [] [0, 1, 2, 3, 4, 5, 6, 7, 8, 9, 10] [0, 1, 2, 3, 4, 5, 6, 7, 8, 9, 10] rfl rfl (by decide) (by decide) rfl (by decide) (fun H locs hP hD hS => ?_)
        refine va_iald (D := D) hx hb hK.1 hP 8 0 rfl rfl (in_pairIndex h_v (by rw [ex_8]; exact vp_in_nI hk_8 (by decide))) dX2_mostFrequentPartner_25 ?_
        refine lv_istore (lv' := [(5, .int (S 7 (D_X3_pairIndex v i).toNatClampNeg)), (4, .int i), (3, .int w), (2, .int pz), (0, .ref r), (1, .int v)]) hx hb dX2_mostFrequentPartner_26 hl (by decide) rfl (fun ls hl => ?_)
        refine lv_iload hx hb dX2_mostFrequentPartner_28 (lv_at hl 0 rfl) ?_
        refine lv_iload_n hx hb dX2_mostFrequentPartner_30 rfl (lv_at hl 2 rfl) ?_
        refine lv_icmp_le (tgt := 40) hx hb dX2_mostFrequentPartner_31 (by decide) (fun c_2 => ?_) (fun c_2 => ?_)
        · refine lv_iinc (v := i + 1) (lv' := [(4, .int (i + 1)), (5, .int (S 7 (D_X3_pairIndex v i).toNatClampNeg)), (3, .int w), (2, .int pz), (0, .ref r), (1, .int v)]) hx hb dX2_mostFrequentPartner_40 hl (k := 1) rfl rfl (by decide) rfl (fun ls hl => ?_)
          refine lv_goto (tgt := 8) hx hb dX2_mostFrequentPartner_43 (by decide) ?_
          exact ih_8 (k_8 + 1) (i + 1) pz w _ _ _ (by omega) (by omega) (by rw [ex_8]; exact nI_1 k_8)  hP hD hS (lv_sub hl [0, 2, 3, 4, 5] rfl) (by rw [L_X2_mostFrequentPartner_8, if_neg c_1, if_pos c_2] at hR_8; exact hR_8)
        · refine lv_iload hx hb dX2_mostFrequentPartner_34 (lv_at hl 1 rfl) ?_
          refine lv_istore_n (lv' := [(2, .int i), (5, .int (S 7 (D_X3_pairIndex v i).toNatClampNeg)), (4, .int i), (3, .int w), (0, .ref r), (1, .int v)]) hx hb dX2_mostFrequentPartner_36 rfl hl (by decide) rfl (fun ls hl => ?_)
          refine lv_iload hx hb dX2_mostFrequentPartner_37 (lv_at hl 1 rfl) ?_
          refine lv_istore_n (lv' := [(3, .int (S 7 (D_X3_pairIndex v i).toNatClampNeg)), (2, .int i), (5, .int (S 7 (D_X3_pairIndex v i).toNatClampNeg)), (4, .int i), (0, .ref r), (1, .int v)]) hx hb dX2_mostFrequentPartner_39 rfl hl (by decide) rfl (fun ls hl => ?_)
          refine lv_iinc (v := i + 1) (lv' := [(4, .int (i + 1)), (3, .int (S 7 (D_X3_pairIndex v i).toNatClampNeg)), (2, .int i), (5, .int (S 7 (D_X3_pairIndex v i).toNatClampNeg)), (0, .ref r), (1, .int v)]) hx hb dX2_mostFrequentPartner_40 hl (k := 3) rfl rfl (by decide) rfl (fun ls hl => ?_)
          refine lv_goto (tgt := 8) hx hb dX2_mostFrequentPartner_43 (by decide) ?_
          exact ih_8 (k_8 + 1) (i + 1) i (S 7 (D_X3_pairIndex v i).toNatClampNeg) _ _ _ (by omega) (by omega) (by rw [ex_8]; exact nI_1 k_8)  hP hD hS (lv_sub hl [0, 1, 2, 4, 5] rfl) (by rw [L_X2_mostFrequentPartner_8, if_neg c_1, if_neg c_2] at hR_8; exact hR_8)
  exact loop_8 10 0 0 (-1000006) 0 _ _ _ (by omega) (Nat.zero_le _) nI_0.symm  hP hD hS (lv_sub hl [0, 1, 2, 3, 4] rfl) rfl
def D_X2_isUnmet (S : Nat → Nat → Int32) (a : Int32) (b : Int32) : (Int32) := if (D_X2_isThere S a) = 0 then 0 else (if (D_X2_isThere S b) = 0 then 0 else (if (S 7 (D_X3_pairIndex a b).toNatClampNeg) = 0 then 1 else 0))
set_option maxRecDepth 100000 in
theorem in_X2_isUnmet_RX2 : ∀ w ∈ u_ws RX2 TX2 13, w ∈ wsX2_isUnmet := by decide +kernel
set_option maxHeartbeats 4000000 in
set_option maxRecDepth 100000 in
theorem c_X2_isUnmet (l : Launch) (D : va_G) (Y : YY) (sz : Nat) (q : Nat → Nat) (S : Nat → Nat → Int32) (r : Nat) (a : Int32) (b : Int32) (h_a : vp_in a 9) (h_b : vp_in b 9) : Met l yX2_isUnmet wsX2_isUnmet ({ frames := 1, cells := 0, slots := 0, locals := 21 } : Room) (va_Pc [.ref r, .int a, .int b] (Pst D Y sz (wR Y r q S))) ((fun A : Nat → Prop => Qsi D (fun r9 w9 => r9 = D_X2_isUnmet S a b ∧ w9 = wR Y r q S) A) (va_A (wR Y r q S) sz)) 0 0 (va_A (wR Y r q S) sz) := by
  refine ct_in (cc := cX2_isUnmet) (maxL := 3) (ret := (some .boolean)) (Qc := fun A : Nat → Prop => Qsi D (fun r9 w9 => r9 = D_X2_isUnmet S a b ∧ w9 = wR Y r q S) A) (by decide +kernel) rfl (Nat.le_of_ble_eq_true rfl) ?_
  intro p e s m below meth c A ls hx hb hr hts hown hml hlk hin hsz hA hP hD hK hS hl
  have hown : s.vm.findClass RX2 = some m.cls := hown
  have hl : lv_has ls 3 [(0, .ref r), (1, .int a), (2, .int b)] := hl
  show W p l e ({ frames := 1, cells := 0, slots := 0, locals := 21 } : Room) s m ([.ref r, .int a, .int b] : List Value).toArray below meth c s.heap [] 0 0 (MQ below (Qsi D (fun r9 w9 => r9 = D_X2_isUnmet S a b ∧ w9 = wR Y r q S) A) ([.ref r, .int a, .int b] : List Value).toArray s 0 0 A) (F0 m 0 ls [])
  refine lv_aload_n hx hb dX2_isUnmet_0 rfl (lv_at hl 0 rfl) ?_
  refine lv_iload_n hx hb dX2_isUnmet_1 rfl (lv_at hl 1 rfl) ?_
  refine ck_iD (wr := ([] : va_W)) (ws' := wR Y r q S) (va_runV (As := [.int a]) (rest := []) ⟨hx, hb, hml, hown, hts⟩ (c_X2_isThere l D Y s.heap.size q S r a) (cwV 1 hts gX2_isUnmet_X2_isThere rfl rfl rfl (by decide +kernel) ⟨Nat.le_of_ble_eq_true rfl, Nat.le_of_ble_eq_true rfl⟩) (pst_V hK hP hD [0, 1, 2, 3, 4, 5, 6, 7, 8, 9, 10] rfl (by decide) (q0 := 0) rfl rfl) rfl rfl hl.1 rfl (lv_room (Nat.le_of_ble_eq_true rfl)) dX2_isUnmet_2 ⟨Nat.zero_le _, Nat.zero_le _⟩) hP hD hS hA [0, 1, 2, 3, 4, 5, 6, 7, 8, 9, 10] [] [0, 1, 2, 3, 4, 5, 6, 7, 8, 9, 10] rfl rfl (by decide) (by decide) rfl (by decide) (fun H locs hP hD hS => ?_)
  refine lv_if_eq (tgt := 33) hx hb dX2_isUnmet_5 (by decide) (fun c_1 => ?_) (fun c_1 => ?_)
  · refine lv_iconst (v := 0) hx hb dX2_isUnmet_33 (by decide) ?_
    have e9 : D_X2_isUnmet S a b = 0 := by rw [D_X2_isUnmet, if_pos c_1]
    exact ret_z hx hb hr rfl hlk hP hD hS dX2_isUnmet_34 ⟨Nat.zero_le _, Nat.zero_le _⟩ ⟨e9.symm, rfl⟩
  · refine lv_aload_n hx hb dX2_isUnmet_8 rfl (lv_at hl 0 rfl) ?_
    refine lv_iload_n hx hb dX2_isUnmet_9 rfl (lv_at hl 2 rfl) ?_
    refine ck_iD (wr := ([] : va_W)) (ws' := wR Y r q S) (va_runV (As := [.int b]) (rest := []) ⟨hx, hb, hml, hown, hts⟩ (c_X2_isThere l D Y H.size q S r b) (cwV 1 hts gX2_isUnmet_X2_isThere rfl rfl rfl (by decide +kernel) ⟨Nat.le_of_ble_eq_true rfl, Nat.le_of_ble_eq_true rfl⟩) (pst_V hK hP hD [0, 1, 2, 3, 4, 5, 6, 7, 8, 9, 10] rfl (by decide) (q0 := 0) rfl rfl) rfl rfl hl.1 rfl (lv_room (Nat.le_of_ble_eq_true rfl)) dX2_isUnmet_10 ⟨Nat.zero_le _, Nat.zero_le _⟩) hP hD hS hA [0, 1, 2, 3, 4, 5, 6, 7, 8, 9, 10] [] [0, 1, 2, 3, 4, 5, 6, 7, 8, 9, 10] rfl rfl (by decide) (by decide) rfl (by decide) (fun H locs hP hD hS => ?_)
    refine lv_if_eq (tgt := 33) hx hb dX2_isUnmet_13 (by decide) (fun c_2 => ?_) (fun c_2 => ?_)
    · refine lv_iconst (v := 0) hx hb dX2_isUnmet_33 (by decide) ?_
      have e9 : D_X2_isUnmet S a b = 0 := by rw [D_X2_isUnmet, if_neg c_1, if_pos c_2]
      exact ret_z hx hb hr rfl hlk hP hD hS dX2_isUnmet_34 ⟨Nat.zero_le _, Nat.zero_le _⟩ ⟨e9.symm, rfl⟩
    · refine lv_aload_n hx hb dX2_isUnmet_16 rfl (lv_at hl 0 rfl) ?_
      refine va_get (D := D) (ci := 2) (v := .ref (q 7)) (C := RX2) (T := TX2) (N := 13) hx hb hts in_X2_isUnmet_RX2 hown hK.1 hP 0 rfl rfl 8 (by decide) (hts (.fieldLink RX2 37 "NineDancers$Ring" "dances" "[I") (by decide +kernel)) (fun _ h9 => h9) rfl dX2_isUnmet_17 ?_
      refine lv_iload_n hx hb dX2_isUnmet_20 rfl (lv_at hl 1 rfl) ?_
      refine lv_iload_n hx hb dX2_isUnmet_21 rfl (lv_at hl 2 rfl) ?_
      refine ck_iD (wr := wR Y r q S) (ws' := wR Y r q S) (va_runSN (As := [.int a, .int b]) (rest := [.ref (q 7)]) ⟨hx, hb, hml, hown, hts⟩ (c_X3_pairIndex l D Y H.size a b) ⟨va_cnB 2 hts gX2_isUnmet_X3_pairIndex_n107 rfl rfl rfl hK.2.2.2.1 (hts (.initialized RX3) (by decide +kernel)) (by decide +kernel) ⟨Nat.le_of_ble_eq_true rfl, Nat.le_of_ble_eq_true rfl⟩, hts (.static yX3_pairIndex) (by decide +kernel), trivial⟩ (pst_S hK hP hD [] rfl (by decide)) rfl rfl hl.1 rfl (lv_room (Nat.le_of_ble_eq_true rfl)) dX2_isUnmet_22 ⟨Nat.zero_le _, Nat.zero_le _⟩) hP hD hS hA [] [0, 1, 2, 3, 4, 5, 6, 7, 8, 9, 10] [0, 1, 2, 3, 4, 5, 6, 7, 8, 9, 10] rfl rfl (by decide) (by decide) rfl (by decide) (fun H locs hP hD hS => ?_)
      refine va_iald (D := D) hx hb hK.1 hP 8 0 rfl rfl (in_pairIndex h_a h_b) dX2_isUnmet_25 ?_
      refine lv_if_ne (tgt := 33) hx hb dX2_isUnmet_26 (by decide) (fun c_3 => ?_) (fun c_3 => ?_)
      · refine lv_iconst (v := 0) hx hb dX2_isUnmet_33 (by decide) ?_
        have e9 : D_X2_isUnmet S a b = 0 := by rw [D_X2_isUnmet, if_neg c_1, if_neg c_2, if_neg c_3]
        exact ret_z hx hb hr rfl hlk hP hD hS dX2_isUnmet_34 ⟨Nat.zero_le _, Nat.zero_le _⟩ ⟨e9.symm, rfl⟩
      · refine lv_iconst (v := 1) hx hb dX2_isUnmet_29 (by decide) ?_
        refine lv_goto (tgt := 34) hx hb dX2_isUnmet_30 (by decide) ?_
        have e9 : D_X2_isUnmet S a b = 1 := by rw [D_X2_isUnmet, if_neg c_1, if_neg c_2, if_pos c_3]
        exact ret_z hx hb hr rfl hlk hP hD hS dX2_isUnmet_34 ⟨Nat.zero_le _, Nat.zero_le _⟩ ⟨e9.symm, rfl⟩
theorem z_X2_isUnmet (S : Nat → Nat → Int32) (a : Int32) (b : Int32) : D_X2_isUnmet S a b = 0 ∨ D_X2_isUnmet S a b = 1 := by unfold D_X2_isUnmet; (repeat' split) <;> simp
def L_X2_unmetPairs_14 (S : Nat → Nat → Int32) (i : Int32) (u : Int32) : Nat → (Int32) → (Int32) → (Int32)
  | 0, j, u1 => u1
  | n_14 + 1, j, u1 => if 9 ≤ j then u1 else (if (D_X2_isUnmet S i j) = 0 then (L_X2_unmetPairs_14 S i u n_14 (j + 1) u1) else (L_X2_unmetPairs_14 S i u n_14 (j + 1) (u1 + 1)))
def L_X2_unmetPairs_4 (S : Nat → Nat → Int32) : Nat → (Int32) → (Int32) → (Int32)
  | 0, i, u => u
  | n_4 + 1, i, u => if 9 ≤ i then u else (L_X2_unmetPairs_4 S n_4 (i + 1) (L_X2_unmetPairs_14 S i u 10 (i + 1) u))
def D_X2_unmetPairs (S : Nat → Nat → Int32)  : (Int32) := (L_X2_unmetPairs_4 S 10 0 0)
set_option maxHeartbeats 4000000 in
set_option maxRecDepth 100000 in
theorem c_X2_unmetPairs (l : Launch) (D : va_G) (Y : YY) (sz : Nat) (q : Nat → Nat) (S : Nat → Nat → Int32) (r : Nat) : Met l yX2_unmetPairs wsX2_unmetPairs ({ frames := 2, cells := 0, slots := 0, locals := 43 } : Room) (va_Pc [.ref r] (Pst D Y sz (wR Y r q S))) ((fun A : Nat → Prop => Qsi D (fun r9 w9 => r9 = D_X2_unmetPairs S ∧ w9 = wR Y r q S) A) (va_A (wR Y r q S) sz)) 0 0 (va_A (wR Y r q S) sz) := by
  refine ct_in (cc := cX2_unmetPairs) (maxL := 4) (ret := (some .int)) (Qc := fun A : Nat → Prop => Qsi D (fun r9 w9 => r9 = D_X2_unmetPairs S ∧ w9 = wR Y r q S) A) (by decide +kernel) rfl (Nat.le_of_ble_eq_true rfl) ?_
  intro p e s m below meth c A ls hx hb hr hts hown hml hlk hin hsz hA hP hD hK hS hl
  have hown : s.vm.findClass RX2 = some m.cls := hown
  have hl : lv_has ls 4 [(0, .ref r)] := hl
  show W p l e ({ frames := 2, cells := 0, slots := 0, locals := 43 } : Room) s m ([.ref r] : List Value).toArray below meth c s.heap [] 0 0 (MQ below (Qsi D (fun r9 w9 => r9 = D_X2_unmetPairs S ∧ w9 = wR Y r q S) A) ([.ref r] : List Value).toArray s 0 0 A) (F0 m 0 ls [])
  refine lv_iconst (v := 0) hx hb dX2_unmetPairs_0 (by decide) ?_
  refine lv_istore_n (lv' := [(1, .int 0), (0, .ref r)]) hx hb dX2_unmetPairs_1 rfl hl (by decide) rfl (fun ls hl => ?_)
  refine lv_iconst (v := 0) hx hb dX2_unmetPairs_2 (by decide) ?_
  refine lv_istore_n (lv' := [(2, .int 0), (1, .int 0), (0, .ref r)]) hx hb dX2_unmetPairs_3 rfl hl (by decide) rfl (fun ls hl => ?_)
  have loop_4 : ∀ (n_4 k_4 : Nat) (i : Int32) (u : Int32) (H : Heap) (locs : List Loc) (ls : Array Slot), 10 ≤ k_4 + n_4 → k_4 ≤ 9 → i = nI k_4 → va_P D vwCl (wR Y r q S) H → va_D A (wR Y r q S) → va_S A s.heap H locs → lv_has ls 4 [(2, .int i), (1, .int u), (0, .ref r)] → L_X2_unmetPairs_4 S n_4 i u = L_X2_unmetPairs_4 S 10 0 0 → W p l e ({ frames := 2, cells := 0, slots := 0, locals := 43 } : Room) s m ([.ref r] : List Value).toArray below meth c H locs 0 0 (MQ below (Qsi D (fun r9 w9 => r9 = D_X2_unmetPairs S ∧ w9 = wR Y r q S) A) ([.ref r] : List Value).toArray s 0 0 A) (F0 m 4 ls []) := by
    intro n_4
    induction n_4 with
    | zero => intro k_4 i u H locs ls hkf hkN_4 ex_4 hP hD hS hl hR_4; exact absurd hkf (by omega)
    | succ n_4 ih_4 =>
      intro k_4 i u H locs ls hkf hkN_4 ex_4 hP hD hS hl hR_4
      refine lv_iload_n hx hb dX2_unmetPairs_4 rfl (lv_at hl 0 rfl) ?_
      refine lv_bipush (v := 9) hx hb dX2_unmetPairs_5 (by decide) ?_
      refine lv_icmp_ge (tgt := 44) hx hb dX2_unmetPairs_7 (by decide) (fun c_1 => ?_) (fun c_1 => ?_)
      · have e8 : L_X2_unmetPairs_4 S (n_4 + 1) i u = u := by rw [L_X2_unmetPairs_4, if_pos c_1]
        have e8 := hR_4.symm.trans e8
        have eu : L_X2_unmetPairs_4 S 10 0 0 = u := by rw [e8]
        clear e8 hR_4 ih_4
        refine lv_iload_n hx hb dX2_unmetPairs_44 rfl (lv_at hl 1 rfl) ?_
        subst eu
        have e9 : D_X2_unmetPairs S = (L_X2_unmetPairs_4 S 10 0 0) := by rw [D_X2_unmetPairs]
        exact ret_i hx hb hr hlk hP hD hS dX2_unmetPairs_45 ⟨Nat.zero_le _, Nat.zero_le _⟩ ⟨e9.symm, rfl⟩
      · have hk_4 := my_lt ex_4 (show (9 : Int32) = nI 9 from rfl) (by decide) hkN_4 c_1
        refine lv_iload_n hx hb dX2_unmetPairs_10 rfl (lv_at hl 0 rfl) ?_
        refine lv_iconst (v := 1) hx hb dX2_unmetPairs_11 (by decide) ?_
        refine lv_iadd hx hb dX2_unmetPairs_12 ?_
        refine lv_istore_n (lv' := [(3, .int (i + 1)), (2, .int i), (1, .int u), (0, .ref r)]) hx hb dX2_unmetPairs_13 rfl hl (by decide) rfl (fun ls hl => ?_)
        have loop_14 : ∀ (n_14 k_14 : Nat) (j : Int32) (u1 : Int32) (H : Heap) (locs : List Loc) (ls : Array Slot), 10 ≤ k_14 + n_14 → k_14 ≤ 9 → j = nI k_14 → va_P D vwCl (wR Y r q S) H → va_D A (wR Y r q S) → va_S A s.heap H locs → lv_has ls 4 [(3, .int j), (2, .int i), (1, .int u1), (0, .ref r)] → L_X2_unmetPairs_14 S i u n_14 j u1 = L_X2_unmetPairs_14 S i u 10 (i + 1) u → W p l e ({ frames := 2, cells := 0, slots := 0, locals := 43 } : Room) s m ([.ref r] : List Value).toArray below meth c H locs 0 0 (MQ below (Qsi D (fun r9 w9 => r9 = D_X2_unmetPairs S ∧ w9 = wR Y r q S) A) ([.ref r] : List Value).toArray s 0 0 A) (F0 m 14 ls []) := by
          intro n_14
          induction n_14 with
          | zero => intro k_14 j u1 H locs ls hkf hkN_14 ex_14 hP hD hS hl hR_14; exact absurd hkf (by omega)
          | succ n_14 ih_14 =>
            intro k_14 j u1 H locs ls hkf hkN_14 ex_14 hP hD hS hl hR_14
            refine lv_iload_n hx hb dX2_unmetPairs_14 rfl (lv_at hl 0 rfl) ?_
            refine lv_bipush (v := 9) hx hb dX2_unmetPairs_15 (by decide) ?_
            refine lv_icmp_ge (tgt := 38) hx hb dX2_unmetPairs_17 (by decide) (fun c_2 => ?_) (fun c_2 => ?_)
            · have e8 : L_X2_unmetPairs_14 S i u (n_14 + 1) j u1 = u1 := by rw [L_X2_unmetPairs_14, if_pos c_2]
              have e8 := hR_14.symm.trans e8
              have eu1 : L_X2_unmetPairs_14 S i u 10 (i + 1) u = u1 := by rw [e8]
              clear e8 hR_14 ih_14
              refine lv_iinc (v := i + 1) (lv' := [(2, .int (i + 1)), (3, .int j), (1, .int u1), (0, .ref r)]) hx hb dX2_unmetPairs_38 hl (k := 1) rfl rfl (by decide) rfl (fun ls hl => ?_)
              refine lv_goto (tgt := 4) hx hb dX2_unmetPairs_41 (by decide) ?_
              subst eu1
              exact ih_4 (k_4 + 1) (i + 1) (L_X2_unmetPairs_14 S i u 10 (i + 1) u) _ _ _ (by omega) (by omega) (by rw [ex_4]; exact nI_1 k_4)  hP hD hS (lv_sub hl [0, 2, 3] rfl) (by rw [L_X2_unmetPairs_4, if_neg c_1] at hR_4; exact hR_4)
            · have hk_14 := my_lt ex_14 (show (9 : Int32) = nI 9 from rfl) (by decide) hkN_14 c_2
              refine lv_aload_n hx hb dX2_unmetPairs_20 rfl (lv_at hl 3 rfl) ?_
              refine lv_iload_n hx hb dX2_unmetPairs_21 rfl (lv_at hl 1 rfl) ?_
              refine lv_iload_n hx hb dX2_unmetPairs_22 rfl (lv_at hl 0 rfl) ?_
              refine ck_iD (wr := ([] : va_W)) (ws' := wR Y r q S) (va_runV (As := [.int i, .int j]) (rest := []) ⟨hx, hb, hml, hown, hts⟩ (c_X2_isUnmet l D Y H.size q S r i j (by rw [ex_4]; exact vp_in_nI hk_4 (by decide)) (by rw [ex_14]; exact vp_in_nI hk_14 (by decide))) (cwV 2 hts gX2_unmetPairs_X2_isUnmet rfl rfl rfl (by decide +kernel) ⟨Nat.le_of_ble_eq_true rfl, Nat.le_of_ble_eq_true rfl⟩) (pst_V hK hP hD [0, 1, 2, 3, 4, 5, 6, 7, 8, 9, 10] rfl (by decide) (q0 := 0) rfl rfl) rfl rfl hl.1 rfl (lv_room (Nat.le_of_ble_eq_true rfl)) dX2_unmetPairs_23 ⟨Nat.zero_le _, Nat.zero_le _⟩) hP hD hS hA [0, 1, 2, 3, 4, 5, 6, 7, 8, 9, 10] [] [0, 1, 2, 3, 4, 5, 6, 7, 8, 9, 10] rfl rfl (by decide) (by decide) rfl (by decide) (fun H locs hP hD hS => ?_)
              refine lv_if_eq (tgt := 32) hx hb dX2_unmetPairs_26 (by decide) (fun c_3 => ?_) (fun c_3 => ?_)
              · refine lv_iinc (v := j + 1) (lv' := [(3, .int (j + 1)), (2, .int i), (1, .int u1), (0, .ref r)]) hx hb dX2_unmetPairs_32 hl (k := 0) rfl rfl (by decide) rfl (fun ls hl => ?_)
                refine lv_goto (tgt := 14) hx hb dX2_unmetPairs_35 (by decide) ?_
                exact ih_14 (k_14 + 1) (j + 1) u1 _ _ _ (by omega) (by omega) (by rw [ex_14]; exact nI_1 k_14)  hP hD hS (lv_sub hl [0, 1, 2, 3] rfl) (by rw [L_X2_unmetPairs_14, if_neg c_2, if_pos c_3] at hR_14; exact hR_14)
              · refine lv_iinc (v := u1 + 1) (lv' := [(1, .int (u1 + 1)), (3, .int j), (2, .int i), (0, .ref r)]) hx hb dX2_unmetPairs_29 hl (k := 2) rfl rfl (by decide) rfl (fun ls hl => ?_)
                refine lv_iinc (v := j + 1) (lv' := [(3, .int (j + 1)), (1, .int (u1 + 1)), (2, .int i), (0, .ref r)]) hx hb dX2_unmetPairs_32 hl (k := 1) rfl rfl (by decide) rfl (fun ls hl => ?_)
                refine lv_goto (tgt := 14) hx hb dX2_unmetPairs_35 (by decide) ?_
                exact ih_14 (k_14 + 1) (j + 1) (u1 + 1) _ _ _ (by omega) (by omega) (by rw [ex_14]; exact nI_1 k_14)  hP hD hS (lv_sub hl [0, 2, 1, 3] rfl) (by rw [L_X2_unmetPairs_14, if_neg c_2, if_neg c_3] at hR_14; exact hR_14)
        exact loop_14 10 (k_4 + 1) (i + 1) u _ _ _ (by omega) (by omega) (by rw [ex_4]; exact nI_1 k_4)  hP hD hS (lv_sub hl [0, 1, 2, 3] rfl) rfl
  exact loop_4 10 0 0 0 _ _ _ (by omega) (Nat.zero_le _) nI_0.symm  hP hD hS (lv_sub hl [0, 1, 2] rfl) rfl
def L_X2_hasUnmetPair_2 (S : Nat → Nat → Int32) (n : Int32) : Nat → (Int32) → (Int32)
  | 0, i => 0
  | n_2 + 1, i => if 9 ≤ i then 0 else (if (D_X3_counterpart i n) ≤ i then (L_X2_hasUnmetPair_2 S n n_2 (i + 1)) else (if (D_X2_isUnmet S i (D_X3_counterpart i n)) = 0 then (L_X2_hasUnmetPair_2 S n n_2 (i + 1)) else 1))
def D_X2_hasUnmetPair (S : Nat → Nat → Int32) (n : Int32) : (Int32) := L_X2_hasUnmetPair_2 S n 10 0
set_option maxHeartbeats 4000000 in
set_option maxRecDepth 100000 in
theorem c_X2_hasUnmetPair (l : Launch) (D : va_G) (Y : YY) (sz : Nat) (q : Nat → Nat) (S : Nat → Nat → Int32) (r : Nat) (n : Int32) : Met l yX2_hasUnmetPair wsX2_hasUnmetPair ({ frames := 3, cells := 0, slots := 0, locals := 63 } : Room) (va_Pc [.ref r, .int n] (Pst D Y sz (wR Y r q S))) ((fun A : Nat → Prop => Qsi D (fun r9 w9 => r9 = D_X2_hasUnmetPair S n ∧ w9 = wR Y r q S) A) (va_A (wR Y r q S) sz)) 0 0 (va_A (wR Y r q S) sz) := by
  refine ct_in (cc := cX2_hasUnmetPair) (maxL := 4) (ret := (some .boolean)) (Qc := fun A : Nat → Prop => Qsi D (fun r9 w9 => r9 = D_X2_hasUnmetPair S n ∧ w9 = wR Y r q S) A) (by decide +kernel) rfl (Nat.le_of_ble_eq_true rfl) ?_
  intro p e s m below meth c A ls hx hb hr hts hown hml hlk hin hsz hA hP hD hK hS hl
  have hown : s.vm.findClass RX2 = some m.cls := hown
  have hl : lv_has ls 4 [(0, .ref r), (1, .int n)] := hl
  show W p l e ({ frames := 3, cells := 0, slots := 0, locals := 63 } : Room) s m ([.ref r, .int n] : List Value).toArray below meth c s.heap [] 0 0 (MQ below (Qsi D (fun r9 w9 => r9 = D_X2_hasUnmetPair S n ∧ w9 = wR Y r q S) A) ([.ref r, .int n] : List Value).toArray s 0 0 A) (F0 m 0 ls [])
  refine lv_iconst (v := 0) hx hb dX2_hasUnmetPair_0 (by decide) ?_
  refine lv_istore_n (lv' := [(2, .int 0), (0, .ref r), (1, .int n)]) hx hb dX2_hasUnmetPair_1 rfl hl (by decide) rfl (fun ls hl => ?_)
  have loop_2 : ∀ (n_2 k_2 : Nat) (i : Int32) (H : Heap) (locs : List Loc) (ls : Array Slot), 10 ≤ k_2 + n_2 → k_2 ≤ 9 → i = nI k_2 → va_P D vwCl (wR Y r q S) H → va_D A (wR Y r q S) → va_S A s.heap H locs → lv_has ls 4 [(2, .int i), (0, .ref r), (1, .int n)] → L_X2_hasUnmetPair_2 S n n_2 i = D_X2_hasUnmetPair S n → W p l e ({ frames := 3, cells := 0, slots := 0, locals := 63 } : Room) s m ([.ref r, .int n] : List Value).toArray below meth c H locs 0 0 (MQ below (Qsi D (fun r9 w9 => r9 = D_X2_hasUnmetPair S n ∧ w9 = wR Y r q S) A) ([.ref r, .int n] : List Value).toArray s 0 0 A) (F0 m 2 ls []) := by
    intro n_2
    induction n_2 with
    | zero => intro k_2 i H locs ls hkf hkN_2 ex_2 hP hD hS hl hR_2; exact absurd hkf (by omega)
    | succ n_2 ih_2 =>
      intro k_2 i H locs ls hkf hkN_2 ex_2 hP hD hS hl hR_2
      refine lv_iload_n hx hb dX2_hasUnmetPair_2 rfl (lv_at hl 0 rfl) ?_
      refine lv_bipush (v := 9) hx hb dX2_hasUnmetPair_3 (by decide) ?_
      refine lv_icmp_ge (tgt := 36) hx hb dX2_hasUnmetPair_5 (by decide) (fun c_1 => ?_) (fun c_1 => ?_)
      · refine lv_iconst (v := 0) hx hb dX2_hasUnmetPair_36 (by decide) ?_
        have e9 : L_X2_hasUnmetPair_2 S n (n_2 + 1) i = 0 := by rw [L_X2_hasUnmetPair_2, if_pos c_1]
        have e9 := hR_2.symm.trans e9
        exact ret_z hx hb hr rfl hlk hP hD hS dX2_hasUnmetPair_37 ⟨Nat.zero_le _, Nat.zero_le _⟩ ⟨e9.symm, rfl⟩
      · have hk_2 := my_lt ex_2 (show (9 : Int32) = nI 9 from rfl) (by decide) hkN_2 c_1
        refine lv_iload_n hx hb dX2_hasUnmetPair_8 rfl (lv_at hl 0 rfl) ?_
        refine lv_iload_n hx hb dX2_hasUnmetPair_9 rfl (lv_at hl 2 rfl) ?_
        refine ck_iD (wr := wR Y r q S) (ws' := wR Y r q S) (va_runSN (As := [.int i, .int n]) (rest := []) ⟨hx, hb, hml, hown, hts⟩ (c_X3_counterpart l D Y H.size i n) ⟨va_cnB 2 hts gX2_hasUnmetPair_X3_counterpart_n75 rfl rfl rfl hK.2.2.1 (hts (.initialized RX3) (by decide +kernel)) (by decide +kernel) ⟨Nat.le_of_ble_eq_true rfl, Nat.le_of_ble_eq_true rfl⟩, hts (.static yX3_counterpart) (by decide +kernel), trivial⟩ (pst_S hK hP hD [] rfl (by decide)) rfl rfl hl.1 rfl (lv_room (Nat.le_of_ble_eq_true rfl)) dX2_hasUnmetPair_10 ⟨Nat.zero_le _, Nat.zero_le _⟩) hP hD hS hA [] [0, 1, 2, 3, 4, 5, 6, 7, 8, 9, 10] [0, 1, 2, 3, 4, 5, 6, 7, 8, 9, 10] rfl rfl (by decide) (by decide) rfl (by decide) (fun H locs hP hD hS => ?_)
        refine lv_istore_n (lv' := [(3, .int (D_X3_counterpart i n)), (2, .int i), (0, .ref r), (1, .int n)]) hx hb dX2_hasUnmetPair_13 rfl hl (by decide) rfl (fun ls hl => ?_)
        refine lv_iload_n hx hb dX2_hasUnmetPair_14 rfl (lv_at hl 1 rfl) ?_
        refine lv_iload_n hx hb dX2_hasUnmetPair_15 rfl (lv_at hl 0 rfl) ?_
        refine lv_icmp_ge (tgt := 30) hx hb dX2_hasUnmetPair_16 (by decide) (fun c_2 => ?_) (fun c_2 => ?_)
        · refine lv_iinc (v := i + 1) (lv' := [(2, .int (i + 1)), (3, .int (D_X3_counterpart i n)), (0, .ref r), (1, .int n)]) hx hb dX2_hasUnmetPair_30 hl (k := 1) rfl rfl (by decide) rfl (fun ls hl => ?_)
          refine lv_goto (tgt := 2) hx hb dX2_hasUnmetPair_33 (by decide) ?_
          exact ih_2 (k_2 + 1) (i + 1) _ _ _ (by omega) (by omega) (by rw [ex_2]; exact nI_1 k_2)  hP hD hS (lv_sub hl [0, 2, 3] rfl) (by rw [L_X2_hasUnmetPair_2, if_neg c_1, if_pos c_2] at hR_2; exact hR_2)
        · refine lv_aload_n hx hb dX2_hasUnmetPair_19 rfl (lv_at hl 2 rfl) ?_
          refine lv_iload_n hx hb dX2_hasUnmetPair_20 rfl (lv_at hl 1 rfl) ?_
          refine lv_iload_n hx hb dX2_hasUnmetPair_21 rfl (lv_at hl 0 rfl) ?_
          refine ck_iD (wr := ([] : va_W)) (ws' := wR Y r q S) (va_runV (As := [.int i, .int (D_X3_counterpart i n)]) (rest := []) ⟨hx, hb, hml, hown, hts⟩ (c_X2_isUnmet l D Y H.size q S r i (D_X3_counterpart i n) (by rw [ex_2]; exact vp_in_nI hk_2 (by decide)) (in_counterpart _ _)) (cwV 2 hts gX2_hasUnmetPair_X2_isUnmet rfl rfl rfl (by decide +kernel) ⟨Nat.le_of_ble_eq_true rfl, Nat.le_of_ble_eq_true rfl⟩) (pst_V hK hP hD [0, 1, 2, 3, 4, 5, 6, 7, 8, 9, 10] rfl (by decide) (q0 := 0) rfl rfl) rfl rfl hl.1 rfl (lv_room (Nat.le_of_ble_eq_true rfl)) dX2_hasUnmetPair_22 ⟨Nat.zero_le _, Nat.zero_le _⟩) hP hD hS hA [0, 1, 2, 3, 4, 5, 6, 7, 8, 9, 10] [] [0, 1, 2, 3, 4, 5, 6, 7, 8, 9, 10] rfl rfl (by decide) (by decide) rfl (by decide) (fun H locs hP hD hS => ?_)
          refine lv_if_eq (tgt := 30) hx hb dX2_hasUnmetPair_25 (by decide) (fun c_3 => ?_) (fun c_3 => ?_)
          · refine lv_iinc (v := i + 1) (lv' := [(2, .int (i + 1)), (3, .int (D_X3_counterpart i n)), (0, .ref r), (1, .int n)]) hx hb dX2_hasUnmetPair_30 hl (k := 1) rfl rfl (by decide) rfl (fun ls hl => ?_)
            refine lv_goto (tgt := 2) hx hb dX2_hasUnmetPair_33 (by decide) ?_
            exact ih_2 (k_2 + 1) (i + 1) _ _ _ (by omega) (by omega) (by rw [ex_2]; exact nI_1 k_2)  hP hD hS (lv_sub hl [0, 2, 3] rfl) (by rw [L_X2_hasUnmetPair_2, if_neg c_1, if_neg c_2, if_pos c_3] at hR_2; exact hR_2)
          · refine lv_iconst (v := 1) hx hb dX2_hasUnmetPair_28 (by decide) ?_
            have e9 : L_X2_hasUnmetPair_2 S n (n_2 + 1) i = 1 := by rw [L_X2_hasUnmetPair_2, if_neg c_1, if_neg c_2, if_neg c_3]
            have e9 := hR_2.symm.trans e9
            exact ret_z hx hb hr rfl hlk hP hD hS dX2_hasUnmetPair_29 ⟨Nat.zero_le _, Nat.zero_le _⟩ ⟨e9.symm, rfl⟩
  exact loop_2 10 0 0 _ _ _ (by omega) (Nat.zero_le _) nI_0.symm  hP hD hS (lv_sub hl [0, 1, 2] rfl) (by rw [D_X2_hasUnmetPair])
def L_X2_remaindersWithUnmetPair_4 (S : Nat → Nat → Int32) : Nat → (Int32) → (Int32) → (Int32)
  | 0, i, u => u
  | n_4 + 1, i, u => if 9 ≤ i then u else (if (D_X2_hasUnmetPair S i) = 0 then (L_X2_remaindersWithUnmetPair_4 S n_4 (i + 1) u) else (L_X2_remaindersWithUnmetPair_4 S n_4 (i + 1) (u + 1)))
def D_X2_remaindersWithUnmetPair (S : Nat → Nat → Int32)  : (Int32) := (L_X2_remaindersWithUnmetPair_4 S 10 0 0)
set_option maxHeartbeats 4000000 in
set_option maxRecDepth 100000 in
theorem c_X2_remaindersWithUnmetPair (l : Launch) (D : va_G) (Y : YY) (sz : Nat) (q : Nat → Nat) (S : Nat → Nat → Int32) (r : Nat) : Met l yX2_remaindersWithUnmetPair wsX2_remaindersWithUnmetPair ({ frames := 4, cells := 0, slots := 0, locals := 86 } : Room) (va_Pc [.ref r] (Pst D Y sz (wR Y r q S))) ((fun A : Nat → Prop => Qsi D (fun r9 w9 => r9 = D_X2_remaindersWithUnmetPair S ∧ w9 = wR Y r q S) A) (va_A (wR Y r q S) sz)) 0 0 (va_A (wR Y r q S) sz) := by
  refine ct_in (cc := cX2_remaindersWithUnmetPair) (maxL := 3) (ret := (some .int)) (Qc := fun A : Nat → Prop => Qsi D (fun r9 w9 => r9 = D_X2_remaindersWithUnmetPair S ∧ w9 = wR Y r q S) A) (by decide +kernel) rfl (Nat.le_of_ble_eq_true rfl) ?_
  intro p e s m below meth c A ls hx hb hr hts hown hml hlk hin hsz hA hP hD hK hS hl
  have hown : s.vm.findClass RX2 = some m.cls := hown
  have hl : lv_has ls 3 [(0, .ref r)] := hl
  show W p l e ({ frames := 4, cells := 0, slots := 0, locals := 86 } : Room) s m ([.ref r] : List Value).toArray below meth c s.heap [] 0 0 (MQ below (Qsi D (fun r9 w9 => r9 = D_X2_remaindersWithUnmetPair S ∧ w9 = wR Y r q S) A) ([.ref r] : List Value).toArray s 0 0 A) (F0 m 0 ls [])
  refine lv_iconst (v := 0) hx hb dX2_remaindersWithUnmetPair_0 (by decide) ?_
  refine lv_istore_n (lv' := [(1, .int 0), (0, .ref r)]) hx hb dX2_remaindersWithUnmetPair_1 rfl hl (by decide) rfl (fun ls hl => ?_)
  refine lv_iconst (v := 0) hx hb dX2_remaindersWithUnmetPair_2 (by decide) ?_
  refine lv_istore_n (lv' := [(2, .int 0), (1, .int 0), (0, .ref r)]) hx hb dX2_remaindersWithUnmetPair_3 rfl hl (by decide) rfl (fun ls hl => ?_)
  have loop_4 : ∀ (n_4 k_4 : Nat) (i : Int32) (u : Int32) (H : Heap) (locs : List Loc) (ls : Array Slot), 10 ≤ k_4 + n_4 → k_4 ≤ 9 → i = nI k_4 → va_P D vwCl (wR Y r q S) H → va_D A (wR Y r q S) → va_S A s.heap H locs → lv_has ls 3 [(2, .int i), (1, .int u), (0, .ref r)] → L_X2_remaindersWithUnmetPair_4 S n_4 i u = L_X2_remaindersWithUnmetPair_4 S 10 0 0 → W p l e ({ frames := 4, cells := 0, slots := 0, locals := 86 } : Room) s m ([.ref r] : List Value).toArray below meth c H locs 0 0 (MQ below (Qsi D (fun r9 w9 => r9 = D_X2_remaindersWithUnmetPair S ∧ w9 = wR Y r q S) A) ([.ref r] : List Value).toArray s 0 0 A) (F0 m 4 ls []) := by
    intro n_4
    induction n_4 with
    | zero => intro k_4 i u H locs ls hkf hkN_4 ex_4 hP hD hS hl hR_4; exact absurd hkf (by omega)
    | succ n_4 ih_4 =>
      intro k_4 i u H locs ls hkf hkN_4 ex_4 hP hD hS hl hR_4
      refine lv_iload_n hx hb dX2_remaindersWithUnmetPair_4 rfl (lv_at hl 0 rfl) ?_
      refine lv_bipush (v := 9) hx hb dX2_remaindersWithUnmetPair_5 (by decide) ?_
      refine lv_icmp_ge (tgt := 27) hx hb dX2_remaindersWithUnmetPair_7 (by decide) (fun c_1 => ?_) (fun c_1 => ?_)
      · have e8 : L_X2_remaindersWithUnmetPair_4 S (n_4 + 1) i u = u := by rw [L_X2_remaindersWithUnmetPair_4, if_pos c_1]
        have e8 := hR_4.symm.trans e8
        have eu : L_X2_remaindersWithUnmetPair_4 S 10 0 0 = u := by rw [e8]
        clear e8 hR_4 ih_4
        refine lv_iload_n hx hb dX2_remaindersWithUnmetPair_27 rfl (lv_at hl 1 rfl) ?_
        subst eu
        have e9 : D_X2_remaindersWithUnmetPair S = (L_X2_remaindersWithUnmetPair_4 S 10 0 0) := by rw [D_X2_remaindersWithUnmetPair]
        exact ret_i hx hb hr hlk hP hD hS dX2_remaindersWithUnmetPair_28 ⟨Nat.zero_le _, Nat.zero_le _⟩ ⟨e9.symm, rfl⟩
      · have hk_4 := my_lt ex_4 (show (9 : Int32) = nI 9 from rfl) (by decide) hkN_4 c_1
        refine lv_aload_n hx hb dX2_remaindersWithUnmetPair_10 rfl (lv_at hl 2 rfl) ?_
        refine lv_iload_n hx hb dX2_remaindersWithUnmetPair_11 rfl (lv_at hl 0 rfl) ?_
        refine ck_iD (wr := ([] : va_W)) (ws' := wR Y r q S) (va_runV (As := [.int i]) (rest := []) ⟨hx, hb, hml, hown, hts⟩ (c_X2_hasUnmetPair l D Y H.size q S r i) (cwV 1 hts gX2_remaindersWithUnmetPair_X2_hasUnmetPair rfl rfl rfl (by decide +kernel) ⟨Nat.le_of_ble_eq_true rfl, Nat.le_of_ble_eq_true rfl⟩) (pst_V hK hP hD [0, 1, 2, 3, 4, 5, 6, 7, 8, 9, 10] rfl (by decide) (q0 := 0) rfl rfl) rfl rfl hl.1 rfl (lv_room (Nat.le_of_ble_eq_true rfl)) dX2_remaindersWithUnmetPair_12 ⟨Nat.zero_le _, Nat.zero_le _⟩) hP hD hS hA [0, 1, 2, 3, 4, 5, 6, 7, 8, 9, 10] [] [0, 1, 2, 3, 4, 5, 6, 7, 8, 9, 10] rfl rfl (by decide) (by decide) rfl (by decide) (fun H locs hP hD hS => ?_)
        refine lv_if_eq (tgt := 21) hx hb dX2_remaindersWithUnmetPair_15 (by decide) (fun c_2 => ?_) (fun c_2 => ?_)
        · refine lv_iinc (v := i + 1) (lv' := [(2, .int (i + 1)), (1, .int u), (0, .ref r)]) hx hb dX2_remaindersWithUnmetPair_21 hl (k := 0) rfl rfl (by decide) rfl (fun ls hl => ?_)
          refine lv_goto (tgt := 4) hx hb dX2_remaindersWithUnmetPair_24 (by decide) ?_
          exact ih_4 (k_4 + 1) (i + 1) u _ _ _ (by omega) (by omega) (by rw [ex_4]; exact nI_1 k_4)  hP hD hS (lv_sub hl [0, 1, 2] rfl) (by rw [L_X2_remaindersWithUnmetPair_4, if_neg c_1, if_pos c_2] at hR_4; exact hR_4)
        · refine lv_iinc (v := u + 1) (lv' := [(1, .int (u + 1)), (2, .int i), (0, .ref r)]) hx hb dX2_remaindersWithUnmetPair_18 hl (k := 1) rfl rfl (by decide) rfl (fun ls hl => ?_)
          refine lv_iinc (v := i + 1) (lv' := [(2, .int (i + 1)), (1, .int (u + 1)), (0, .ref r)]) hx hb dX2_remaindersWithUnmetPair_21 hl (k := 1) rfl rfl (by decide) rfl (fun ls hl => ?_)
          refine lv_goto (tgt := 4) hx hb dX2_remaindersWithUnmetPair_24 (by decide) ?_
          exact ih_4 (k_4 + 1) (i + 1) (u + 1) _ _ _ (by omega) (by omega) (by rw [ex_4]; exact nI_1 k_4)  hP hD hS (lv_sub hl [0, 1, 2] rfl) (by rw [L_X2_remaindersWithUnmetPair_4, if_neg c_1, if_neg c_2] at hR_4; exact hR_4)
  exact loop_4 10 0 0 0 _ _ _ (by omega) (Nat.zero_le _) nI_0.symm  hP hD hS (lv_sub hl [0, 1, 2] rfl) rfl
def L_X2_roundsByTrying_14 (S : Nat → Nat → Int32) (i : Int32) (u : Int32) : Nat → (Int32) → (Int32) → (Int32)
  | 0, j, u1 => u1
  | n_14 + 1, j, u1 => if 9 ≤ j then u1 else (if (D_X2_isUnmet S i j) = 0 then (L_X2_roundsByTrying_14 S i u n_14 (j + 1) u1) else (L_X2_roundsByTrying_14 S i u n_14 (j + 1) (u1 ||| (1 <<< ((D_X3_remainderOf (i + j)) &&& 31)))))
def L_X2_roundsByTrying_4 (S : Nat → Nat → Int32) : Nat → (Int32) → (Int32) → (Int32)
  | 0, i, u => u
  | n_4 + 1, i, u => if 9 ≤ i then u else (L_X2_roundsByTrying_4 S n_4 (i + 1) (L_X2_roundsByTrying_14 S i u 10 (i + 1) u))
def D_X2_roundsByTrying (S : Nat → Nat → Int32)  : (Int32) := D_J6_bitCount_0f7a4 (L_X2_roundsByTrying_4 S 10 0 0)
set_option maxHeartbeats 4000000 in
set_option maxRecDepth 100000 in
theorem c_X2_roundsByTrying (l : Launch) (D : va_G) (Y : YY) (sz : Nat) (q : Nat → Nat) (S : Nat → Nat → Int32) (r : Nat) : Met l yX2_roundsByTrying wsX2_roundsByTrying ({ frames := 2, cells := 0, slots := 0, locals := 43 } : Room) (va_Pc [.ref r] (Pst D Y sz (wR Y r q S))) ((fun A : Nat → Prop => Qsi D (fun r9 w9 => r9 = D_X2_roundsByTrying S ∧ w9 = wR Y r q S) A) (va_A (wR Y r q S) sz)) 0 0 (va_A (wR Y r q S) sz) := by
  refine ct_in (cc := cX2_roundsByTrying) (maxL := 4) (ret := (some .int)) (Qc := fun A : Nat → Prop => Qsi D (fun r9 w9 => r9 = D_X2_roundsByTrying S ∧ w9 = wR Y r q S) A) (by decide +kernel) rfl (Nat.le_of_ble_eq_true rfl) ?_
  intro p e s m below meth c A ls hx hb hr hts hown hml hlk hin hsz hA hP hD hK hS hl
  have hown : s.vm.findClass RX2 = some m.cls := hown
  have hl : lv_has ls 4 [(0, .ref r)] := hl
  show W p l e ({ frames := 2, cells := 0, slots := 0, locals := 43 } : Room) s m ([.ref r] : List Value).toArray below meth c s.heap [] 0 0 (MQ below (Qsi D (fun r9 w9 => r9 = D_X2_roundsByTrying S ∧ w9 = wR Y r q S) A) ([.ref r] : List Value).toArray s 0 0 A) (F0 m 0 ls [])
  refine lv_iconst (v := 0) hx hb dX2_roundsByTrying_0 (by decide) ?_
  refine lv_istore_n (lv' := [(1, .int 0), (0, .ref r)]) hx hb dX2_roundsByTrying_1 rfl hl (by decide) rfl (fun ls hl => ?_)
  refine lv_iconst (v := 0) hx hb dX2_roundsByTrying_2 (by decide) ?_
  refine lv_istore_n (lv' := [(2, .int 0), (1, .int 0), (0, .ref r)]) hx hb dX2_roundsByTrying_3 rfl hl (by decide) rfl (fun ls hl => ?_)
  have loop_4 : ∀ (n_4 k_4 : Nat) (i : Int32) (u : Int32) (H : Heap) (locs : List Loc) (ls : Array Slot), 10 ≤ k_4 + n_4 → k_4 ≤ 9 → i = nI k_4 → va_P D vwCl (wR Y r q S) H → va_D A (wR Y r q S) → va_S A s.heap H locs → lv_has ls 4 [(2, .int i), (1, .int u), (0, .ref r)] → L_X2_roundsByTrying_4 S n_4 i u = L_X2_roundsByTrying_4 S 10 0 0 → W p l e ({ frames := 2, cells := 0, slots := 0, locals := 43 } : Room) s m ([.ref r] : List Value).toArray below meth c H locs 0 0 (MQ below (Qsi D (fun r9 w9 => r9 = D_X2_roundsByTrying S ∧ w9 = wR Y r q S) A) ([.ref r] : List Value).toArray s 0 0 A) (F0 m 4 ls []) := by
    intro n_4
    induction n_4 with
    | zero => intro k_4 i u H locs ls hkf hkN_4 ex_4 hP hD hS hl hR_4; exact absurd hkf (by omega)
    | succ n_4 ih_4 =>
      intro k_4 i u H locs ls hkf hkN_4 ex_4 hP hD hS hl hR_4
      refine lv_iload_n hx hb dX2_roundsByTrying_4 rfl (lv_at hl 0 rfl) ?_
      refine lv_bipush (v := 9) hx hb dX2_roundsByTrying_5 (by decide) ?_
      refine lv_icmp_ge (tgt := 52) hx hb dX2_roundsByTrying_7 (by decide) (fun c_1 => ?_) (fun c_1 => ?_)
      · have e8 : L_X2_roundsByTrying_4 S (n_4 + 1) i u = u := by rw [L_X2_roundsByTrying_4, if_pos c_1]
        have e8 := hR_4.symm.trans e8
        have eu : L_X2_roundsByTrying_4 S 10 0 0 = u := by rw [e8]
        clear e8 hR_4 ih_4
        refine lv_iload_n hx hb dX2_roundsByTrying_52 rfl (lv_at hl 1 rfl) ?_
        refine ck_iD (wr := wR Y r q S) (ws' := wR Y r q S) (va_runS (As := [.int u]) (rest := []) ⟨hx, hb, hml, hown, hts⟩ (c_J6_bitCount_0f7a4 l D Y H.size u) (va_cwS 1 hts gX2_roundsByTrying_J6_bitCount_0f7a4 rfl rfl rfl (by decide +kernel) ⟨Nat.le_of_ble_eq_true rfl, Nat.le_of_ble_eq_true rfl⟩) (pst_S hK hP hD [] rfl (by decide)) rfl rfl hl.1 rfl (lv_room (Nat.le_of_ble_eq_true rfl)) dX2_roundsByTrying_53 ⟨Nat.zero_le _, Nat.zero_le _⟩) hP hD hS hA [] [0, 1, 2, 3, 4, 5, 6, 7, 8, 9, 10] [0, 1, 2, 3, 4, 5, 6, 7, 8, 9, 10] rfl rfl (by decide) (by decide) rfl (by decide) (fun H locs hP hD hS => ?_)
        subst eu
        have e9 : D_X2_roundsByTrying S = D_J6_bitCount_0f7a4 (L_X2_roundsByTrying_4 S 10 0 0) := by rw [D_X2_roundsByTrying]
        exact ret_i hx hb hr hlk hP hD hS dX2_roundsByTrying_56 ⟨Nat.zero_le _, Nat.zero_le _⟩ ⟨e9.symm, rfl⟩
      · have hk_4 := my_lt ex_4 (show (9 : Int32) = nI 9 from rfl) (by decide) hkN_4 c_1
        refine lv_iload_n hx hb dX2_roundsByTrying_10 rfl (lv_at hl 0 rfl) ?_
        refine lv_iconst (v := 1) hx hb dX2_roundsByTrying_11 (by decide) ?_
        refine lv_iadd hx hb dX2_roundsByTrying_12 ?_
        refine lv_istore_n (lv' := [(3, .int (i + 1)), (2, .int i), (1, .int u), (0, .ref r)]) hx hb dX2_roundsByTrying_13 rfl hl (by decide) rfl (fun ls hl => ?_)
        have loop_14 : ∀ (n_14 k_14 : Nat) (j : Int32) (u1 : Int32) (H : Heap) (locs : List Loc) (ls : Array Slot), 10 ≤ k_14 + n_14 → k_14 ≤ 9 → j = nI k_14 → va_P D vwCl (wR Y r q S) H → va_D A (wR Y r q S) → va_S A s.heap H locs → lv_has ls 4 [(3, .int j), (2, .int i), (1, .int u1), (0, .ref r)] → L_X2_roundsByTrying_14 S i u n_14 j u1 = L_X2_roundsByTrying_14 S i u 10 (i + 1) u → W p l e ({ frames := 2, cells := 0, slots := 0, locals := 43 } : Room) s m ([.ref r] : List Value).toArray below meth c H locs 0 0 (MQ below (Qsi D (fun r9 w9 => r9 = D_X2_roundsByTrying S ∧ w9 = wR Y r q S) A) ([.ref r] : List Value).toArray s 0 0 A) (F0 m 14 ls []) := by
          intro n_14
          induction n_14 with
          | zero => intro k_14 j u1 H locs ls hkf hkN_14 ex_14 hP hD hS hl hR_14; exact absurd hkf (by omega)
          | succ n_14 ih_14 =>
            intro k_14 j u1 H locs ls hkf hkN_14 ex_14 hP hD hS hl hR_14
            refine lv_iload_n hx hb dX2_roundsByTrying_14 rfl (lv_at hl 0 rfl) ?_
            refine lv_bipush (v := 9) hx hb dX2_roundsByTrying_15 (by decide) ?_
            refine lv_icmp_ge (tgt := 46) hx hb dX2_roundsByTrying_17 (by decide) (fun c_2 => ?_) (fun c_2 => ?_)
            · have e8 : L_X2_roundsByTrying_14 S i u (n_14 + 1) j u1 = u1 := by rw [L_X2_roundsByTrying_14, if_pos c_2]
              have e8 := hR_14.symm.trans e8
              have eu1 : L_X2_roundsByTrying_14 S i u 10 (i + 1) u = u1 := by rw [e8]
              clear e8 hR_14 ih_14
              refine lv_iinc (v := i + 1) (lv' := [(2, .int (i + 1)), (3, .int j), (1, .int u1), (0, .ref r)]) hx hb dX2_roundsByTrying_46 hl (k := 1) rfl rfl (by decide) rfl (fun ls hl => ?_)
              refine lv_goto (tgt := 4) hx hb dX2_roundsByTrying_49 (by decide) ?_
              subst eu1
              exact ih_4 (k_4 + 1) (i + 1) (L_X2_roundsByTrying_14 S i u 10 (i + 1) u) _ _ _ (by omega) (by omega) (by rw [ex_4]; exact nI_1 k_4)  hP hD hS (lv_sub hl [0, 2, 3] rfl) (by rw [L_X2_roundsByTrying_4, if_neg c_1] at hR_4; exact hR_4)
            · have hk_14 := my_lt ex_14 (show (9 : Int32) = nI 9 from rfl) (by decide) hkN_14 c_2
              refine lv_aload_n hx hb dX2_roundsByTrying_20 rfl (lv_at hl 3 rfl) ?_
              refine lv_iload_n hx hb dX2_roundsByTrying_21 rfl (lv_at hl 1 rfl) ?_
              refine lv_iload_n hx hb dX2_roundsByTrying_22 rfl (lv_at hl 0 rfl) ?_
              refine ck_iD (wr := ([] : va_W)) (ws' := wR Y r q S) (va_runV (As := [.int i, .int j]) (rest := []) ⟨hx, hb, hml, hown, hts⟩ (c_X2_isUnmet l D Y H.size q S r i j (by rw [ex_4]; exact vp_in_nI hk_4 (by decide)) (by rw [ex_14]; exact vp_in_nI hk_14 (by decide))) (cwV 2 hts gX2_roundsByTrying_X2_isUnmet rfl rfl rfl (by decide +kernel) ⟨Nat.le_of_ble_eq_true rfl, Nat.le_of_ble_eq_true rfl⟩) (pst_V hK hP hD [0, 1, 2, 3, 4, 5, 6, 7, 8, 9, 10] rfl (by decide) (q0 := 0) rfl rfl) rfl rfl hl.1 rfl (lv_room (Nat.le_of_ble_eq_true rfl)) dX2_roundsByTrying_23 ⟨Nat.zero_le _, Nat.zero_le _⟩) hP hD hS hA [0, 1, 2, 3, 4, 5, 6, 7, 8, 9, 10] [] [0, 1, 2, 3, 4, 5, 6, 7, 8, 9, 10] rfl rfl (by decide) (by decide) rfl (by decide) (fun H locs hP hD hS => ?_)
              refine lv_if_eq (tgt := 40) hx hb dX2_roundsByTrying_26 (by decide) (fun c_3 => ?_) (fun c_3 => ?_)
              · refine lv_iinc (v := j + 1) (lv' := [(3, .int (j + 1)), (2, .int i), (1, .int u1), (0, .ref r)]) hx hb dX2_roundsByTrying_40 hl (k := 0) rfl rfl (by decide) rfl (fun ls hl => ?_)
                refine lv_goto (tgt := 14) hx hb dX2_roundsByTrying_43 (by decide) ?_
                exact ih_14 (k_14 + 1) (j + 1) u1 _ _ _ (by omega) (by omega) (by rw [ex_14]; exact nI_1 k_14)  hP hD hS (lv_sub hl [0, 1, 2, 3] rfl) (by rw [L_X2_roundsByTrying_14, if_neg c_2, if_pos c_3] at hR_14; exact hR_14)
              · refine lv_iload_n hx hb dX2_roundsByTrying_29 rfl (lv_at hl 2 rfl) ?_
                refine lv_iconst (v := 1) hx hb dX2_roundsByTrying_30 (by decide) ?_
                refine lv_iload_n hx hb dX2_roundsByTrying_31 rfl (lv_at hl 1 rfl) ?_
                refine lv_iload_n hx hb dX2_roundsByTrying_32 rfl (lv_at hl 0 rfl) ?_
                refine lv_iadd hx hb dX2_roundsByTrying_33 ?_
                refine ck_iD (wr := wR Y r q S) (ws' := wR Y r q S) (va_runSN (As := [.int (i + j)]) (rest := [.int 1, .int u1]) ⟨hx, hb, hml, hown, hts⟩ (c_X3_remainderOf l D Y H.size (i + j)) ⟨va_cnB 1 hts gX2_roundsByTrying_X3_remainderOf_n93 rfl rfl rfl hK.2.2.2.2.1 (hts (.initialized RX3) (by decide +kernel)) (by decide +kernel) ⟨Nat.le_of_ble_eq_true rfl, Nat.le_of_ble_eq_true rfl⟩, hts (.static yX3_remainderOf) (by decide +kernel), trivial⟩ (pst_S hK hP hD [] rfl (by decide)) rfl rfl hl.1 rfl (lv_room (Nat.le_of_ble_eq_true rfl)) dX2_roundsByTrying_34 ⟨Nat.zero_le _, Nat.zero_le _⟩) hP hD hS hA [] [0, 1, 2, 3, 4, 5, 6, 7, 8, 9, 10] [0, 1, 2, 3, 4, 5, 6, 7, 8, 9, 10] rfl rfl (by decide) (by decide) rfl (by decide) (fun H locs hP hD hS => ?_)
                refine lv_ishl hx hb dX2_roundsByTrying_37 ?_
                refine lv_ior hx hb dX2_roundsByTrying_38 ?_
                refine lv_istore_n (lv' := [(1, .int (u1 ||| (1 <<< ((D_X3_remainderOf (i + j)) &&& 31)))), (3, .int j), (2, .int i), (0, .ref r)]) hx hb dX2_roundsByTrying_39 rfl hl (by decide) rfl (fun ls hl => ?_)
                refine lv_iinc (v := j + 1) (lv' := [(3, .int (j + 1)), (1, .int (u1 ||| (1 <<< ((D_X3_remainderOf (i + j)) &&& 31)))), (2, .int i), (0, .ref r)]) hx hb dX2_roundsByTrying_40 hl (k := 1) rfl rfl (by decide) rfl (fun ls hl => ?_)
                refine lv_goto (tgt := 14) hx hb dX2_roundsByTrying_43 (by decide) ?_
                exact ih_14 (k_14 + 1) (j + 1) (u1 ||| (1 <<< ((D_X3_remainderOf (i + j)) &&& 31))) _ _ _ (by omega) (by omega) (by rw [ex_14]; exact nI_1 k_14)  hP hD hS (lv_sub hl [0, 2, 1, 3] rfl) (by rw [L_X2_roundsByTrying_14, if_neg c_2, if_neg c_3] at hR_14; exact hR_14)
        exact loop_14 10 (k_4 + 1) (i + 1) u _ _ _ (by omega) (by omega) (by rw [ex_4]; exact nI_1 k_4)  hP hD hS (lv_sub hl [0, 1, 2, 3] rfl) rfl
  exact loop_4 10 0 0 0 _ _ _ (by omega) (Nat.zero_le _) nI_0.symm  hP hD hS (lv_sub hl [0, 1, 2] rfl) rfl
def D_X2_pairWouldBring (S : Nat → Nat → Int32) (a : Int32) (b : Int32) (w : Int32) : (Int32) := if w = 2 then (if (D_X2_wouldDance S a b) = 0 then (D_J6_bitCount_0f7a4 ((S 10 0) &&& ((1 <<< (a &&& 31)) ||| (1 <<< (b &&& 31))))) else 0) else (if (D_X2_wouldDance S a b) = 0 then 0 else (if w = 1 then (2 * (D_X2_joyOfEach S a b)) else (if w = 3 then (if (S 7 (D_X3_pairIndex a b).toNatClampNeg) = 0 then 1 else 0) else 1)))
set_option maxRecDepth 100000 in
theorem in_X2_pairWouldBring_RX2 : ∀ w ∈ u_ws RX2 TX2 13, w ∈ wsX2_pairWouldBring := by decide +kernel
set_option maxHeartbeats 4000000 in
set_option maxRecDepth 100000 in
theorem c_X2_pairWouldBring (l : Launch) (D : va_G) (Y : YY) (sz : Nat) (q : Nat → Nat) (S : Nat → Nat → Int32) (r : Nat) (a : Int32) (b : Int32) (w : Int32) (h_a : vp_in a 9) (h_b : vp_in b 9) : Met l yX2_pairWouldBring wsX2_pairWouldBring ({ frames := 2, cells := 0, slots := 0, locals := 43 } : Room) (va_Pc [.ref r, .int a, .int b, .int w] (Pst D Y sz (wR Y r q S))) ((fun A : Nat → Prop => Qsi D (fun r9 w9 => r9 = D_X2_pairWouldBring S a b w ∧ w9 = wR Y r q S) A) (va_A (wR Y r q S) sz)) 0 0 (va_A (wR Y r q S) sz) := by
  refine ct_in (cc := cX2_pairWouldBring) (maxL := 5) (ret := (some .int)) (Qc := fun A : Nat → Prop => Qsi D (fun r9 w9 => r9 = D_X2_pairWouldBring S a b w ∧ w9 = wR Y r q S) A) (by decide +kernel) rfl (Nat.le_of_ble_eq_true rfl) ?_
  intro p e s m below meth c A ls hx hb hr hts hown hml hlk hin hsz hA hP hD hK hS hl
  have hown : s.vm.findClass RX2 = some m.cls := hown
  have hl : lv_has ls 5 [(0, .ref r), (1, .int a), (2, .int b), (3, .int w)] := hl
  show W p l e ({ frames := 2, cells := 0, slots := 0, locals := 43 } : Room) s m ([.ref r, .int a, .int b, .int w] : List Value).toArray below meth c s.heap [] 0 0 (MQ below (Qsi D (fun r9 w9 => r9 = D_X2_pairWouldBring S a b w ∧ w9 = wR Y r q S) A) ([.ref r, .int a, .int b, .int w] : List Value).toArray s 0 0 A) (F0 m 0 ls [])
  refine lv_aload_n hx hb dX2_pairWouldBring_0 rfl (lv_at hl 0 rfl) ?_
  refine lv_iload_n hx hb dX2_pairWouldBring_1 rfl (lv_at hl 1 rfl) ?_
  refine lv_iload_n hx hb dX2_pairWouldBring_2 rfl (lv_at hl 2 rfl) ?_
  refine ck_iD (wr := ([] : va_W)) (ws' := wR Y r q S) (va_runV (As := [.int a, .int b]) (rest := []) ⟨hx, hb, hml, hown, hts⟩ (c_X2_wouldDance l D Y s.heap.size q S r a b h_a h_b) (cwV 2 hts gX2_pairWouldBring_X2_wouldDance rfl rfl rfl (by decide +kernel) ⟨Nat.le_of_ble_eq_true rfl, Nat.le_of_ble_eq_true rfl⟩) (pst_V hK hP hD [0, 1, 2, 3, 4, 5, 6, 7, 8, 9, 10] rfl (by decide) (q0 := 0) rfl rfl) rfl rfl hl.1 rfl (lv_room (Nat.le_of_ble_eq_true rfl)) dX2_pairWouldBring_3 ⟨Nat.zero_le _, Nat.zero_le _⟩) hP hD hS hA [0, 1, 2, 3, 4, 5, 6, 7, 8, 9, 10] [] [0, 1, 2, 3, 4, 5, 6, 7, 8, 9, 10] rfl rfl (by decide) (by decide) rfl (by decide) (fun H locs hP hD hS => ?_)
  refine lv_istore (lv' := [(4, .int (D_X2_wouldDance S a b)), (0, .ref r), (1, .int a), (2, .int b), (3, .int w)]) hx hb dX2_pairWouldBring_6 hl (by decide) rfl (fun ls hl => ?_)
  refine lv_iload_n hx hb dX2_pairWouldBring_8 rfl (lv_at hl 4 rfl) ?_
  refine lv_iconst (v := 2) hx hb dX2_pairWouldBring_9 (by decide) ?_
  refine lv_icmp_ne (tgt := 38) hx hb dX2_pairWouldBring_10 (by decide) (fun c_1 => ?_) (fun c_1 => ?_)
  · refine lv_iload hx hb dX2_pairWouldBring_38 (lv_at hl 0 rfl) ?_
    refine lv_if_ne (tgt := 45) hx hb dX2_pairWouldBring_40 (by decide) (fun c_2 => ?_) (fun c_2 => ?_)
    · refine lv_iload_n hx hb dX2_pairWouldBring_45 rfl (lv_at hl 4 rfl) ?_
      refine lv_iconst (v := 1) hx hb dX2_pairWouldBring_46 (by decide) ?_
      refine lv_icmp_ne (tgt := 59) hx hb dX2_pairWouldBring_47 (by decide) (fun c_3 => ?_) (fun c_3 => ?_)
      · refine lv_iload_n hx hb dX2_pairWouldBring_59 rfl (lv_at hl 4 rfl) ?_
        refine lv_iconst (v := 3) hx hb dX2_pairWouldBring_60 (by decide) ?_
        refine lv_icmp_ne (tgt := 83) hx hb dX2_pairWouldBring_61 (by decide) (fun c_4 => ?_) (fun c_4 => ?_)
        · refine lv_iconst (v := 1) hx hb dX2_pairWouldBring_83 (by decide) ?_
          have e9 : D_X2_pairWouldBring S a b w = 1 := by rw [D_X2_pairWouldBring, if_neg c_1, if_neg c_2, if_neg c_3, if_neg c_4]
          exact ret_i hx hb hr hlk hP hD hS dX2_pairWouldBring_84 ⟨Nat.zero_le _, Nat.zero_le _⟩ ⟨e9.symm, rfl⟩
        · refine lv_aload_n hx hb dX2_pairWouldBring_64 rfl (lv_at hl 1 rfl) ?_
          refine va_get (D := D) (ci := 2) (v := .ref (q 7)) (C := RX2) (T := TX2) (N := 13) hx hb hts in_X2_pairWouldBring_RX2 hown hK.1 hP 0 rfl rfl 8 (by decide) (hts (.fieldLink RX2 37 "NineDancers$Ring" "dances" "[I") (by decide +kernel)) (fun _ h9 => h9) rfl dX2_pairWouldBring_65 ?_
          refine lv_iload_n hx hb dX2_pairWouldBring_68 rfl (lv_at hl 2 rfl) ?_
          refine lv_iload_n hx hb dX2_pairWouldBring_69 rfl (lv_at hl 3 rfl) ?_
          refine ck_iD (wr := wR Y r q S) (ws' := wR Y r q S) (va_runSN (As := [.int a, .int b]) (rest := [.ref (q 7)]) ⟨hx, hb, hml, hown, hts⟩ (c_X3_pairIndex l D Y H.size a b) ⟨va_cnB 2 hts gX2_pairWouldBring_X3_pairIndex_n107 rfl rfl rfl hK.2.2.2.1 (hts (.initialized RX3) (by decide +kernel)) (by decide +kernel) ⟨Nat.le_of_ble_eq_true rfl, Nat.le_of_ble_eq_true rfl⟩, hts (.static yX3_pairIndex) (by decide +kernel), trivial⟩ (pst_S hK hP hD [] rfl (by decide)) rfl rfl hl.1 rfl (lv_room (Nat.le_of_ble_eq_true rfl)) dX2_pairWouldBring_70 ⟨Nat.zero_le _, Nat.zero_le _⟩) hP hD hS hA [] [0, 1, 2, 3, 4, 5, 6, 7, 8, 9, 10] [0, 1, 2, 3, 4, 5, 6, 7, 8, 9, 10] rfl rfl (by decide) (by decide) rfl (by decide) (fun H locs hP hD hS => ?_)
          refine va_iald (D := D) hx hb hK.1 hP 8 0 rfl rfl (in_pairIndex h_a h_b) dX2_pairWouldBring_73 ?_
          refine lv_if_ne (tgt := 81) hx hb dX2_pairWouldBring_74 (by decide) (fun c_5 => ?_) (fun c_5 => ?_)
          · refine lv_iconst (v := 0) hx hb dX2_pairWouldBring_81 (by decide) ?_
            have e9 : D_X2_pairWouldBring S a b w = 0 := by rw [D_X2_pairWouldBring, if_neg c_1, if_neg c_2, if_neg c_3, if_pos c_4, if_neg c_5]
            exact ret_i hx hb hr hlk hP hD hS dX2_pairWouldBring_82 ⟨Nat.zero_le _, Nat.zero_le _⟩ ⟨e9.symm, rfl⟩
          · refine lv_iconst (v := 1) hx hb dX2_pairWouldBring_77 (by decide) ?_
            refine lv_goto (tgt := 82) hx hb dX2_pairWouldBring_78 (by decide) ?_
            have e9 : D_X2_pairWouldBring S a b w = 1 := by rw [D_X2_pairWouldBring, if_neg c_1, if_neg c_2, if_neg c_3, if_pos c_4, if_pos c_5]
            exact ret_i hx hb hr hlk hP hD hS dX2_pairWouldBring_82 ⟨Nat.zero_le _, Nat.zero_le _⟩ ⟨e9.symm, rfl⟩
      · refine lv_iconst (v := 2) hx hb dX2_pairWouldBring_50 (by decide) ?_
        refine lv_aload_n hx hb dX2_pairWouldBring_51 rfl (lv_at hl 1 rfl) ?_
        refine lv_iload_n hx hb dX2_pairWouldBring_52 rfl (lv_at hl 2 rfl) ?_
        refine lv_iload_n hx hb dX2_pairWouldBring_53 rfl (lv_at hl 3 rfl) ?_
        refine ck_iD (wr := ([] : va_W)) (ws' := wR Y r q S) (va_runV (As := [.int a, .int b]) (rest := [.int 2]) ⟨hx, hb, hml, hown, hts⟩ (c_X2_joyOfEach l D Y H.size q S r a b h_a h_b) (cwV 2 hts gX2_pairWouldBring_X2_joyOfEach rfl rfl rfl (by decide +kernel) ⟨Nat.le_of_ble_eq_true rfl, Nat.le_of_ble_eq_true rfl⟩) (pst_V hK hP hD [0, 1, 2, 3, 4, 5, 6, 7, 8, 9, 10] rfl (by decide) (q0 := 0) rfl rfl) rfl rfl hl.1 rfl (lv_room (Nat.le_of_ble_eq_true rfl)) dX2_pairWouldBring_54 ⟨Nat.zero_le _, Nat.zero_le _⟩) hP hD hS hA [0, 1, 2, 3, 4, 5, 6, 7, 8, 9, 10] [] [0, 1, 2, 3, 4, 5, 6, 7, 8, 9, 10] rfl rfl (by decide) (by decide) rfl (by decide) (fun H locs hP hD hS => ?_)
        refine lv_imul hx hb dX2_pairWouldBring_57 ?_
        have e9 : D_X2_pairWouldBring S a b w = 2 * (D_X2_joyOfEach S a b) := by rw [D_X2_pairWouldBring, if_neg c_1, if_neg c_2, if_pos c_3]
        exact ret_i hx hb hr hlk hP hD hS dX2_pairWouldBring_58 ⟨Nat.zero_le _, Nat.zero_le _⟩ ⟨e9.symm, rfl⟩
    · refine lv_iconst (v := 0) hx hb dX2_pairWouldBring_43 (by decide) ?_
      have e9 : D_X2_pairWouldBring S a b w = 0 := by rw [D_X2_pairWouldBring, if_neg c_1, if_pos c_2]
      exact ret_i hx hb hr hlk hP hD hS dX2_pairWouldBring_44 ⟨Nat.zero_le _, Nat.zero_le _⟩ ⟨e9.symm, rfl⟩
  · refine lv_iload hx hb dX2_pairWouldBring_13 (lv_at hl 0 rfl) ?_
    refine lv_if_eq (tgt := 22) hx hb dX2_pairWouldBring_15 (by decide) (fun c_6 => ?_) (fun c_6 => ?_)
    · refine lv_aload_n hx hb dX2_pairWouldBring_22 rfl (lv_at hl 1 rfl) ?_
      refine va_get (D := D) (ci := 2) (v := .int (S 10 0)) (C := RX2) (T := TX2) (N := 13) hx hb hts in_X2_pairWouldBring_RX2 hown hK.1 hP 0 rfl rfl 1 (by decide) (hts (.fieldLink RX2 15 "NineDancers$Ring" "there" "I") (by decide +kernel)) (fun _ h9 => h9) rfl dX2_pairWouldBring_23 ?_
      refine lv_iconst (v := 1) hx hb dX2_pairWouldBring_26 (by decide) ?_
      refine lv_iload_n hx hb dX2_pairWouldBring_27 rfl (lv_at hl 2 rfl) ?_
      refine lv_ishl hx hb dX2_pairWouldBring_28 ?_
      refine lv_iconst (v := 1) hx hb dX2_pairWouldBring_29 (by decide) ?_
      refine lv_iload_n hx hb dX2_pairWouldBring_30 rfl (lv_at hl 3 rfl) ?_
      refine lv_ishl hx hb dX2_pairWouldBring_31 ?_
      refine lv_ior hx hb dX2_pairWouldBring_32 ?_
      refine lv_iand hx hb dX2_pairWouldBring_33 ?_
      refine ck_iD (wr := wR Y r q S) (ws' := wR Y r q S) (va_runS (As := [.int ((S 10 0) &&& ((1 <<< (a &&& 31)) ||| (1 <<< (b &&& 31))))]) (rest := []) ⟨hx, hb, hml, hown, hts⟩ (c_J6_bitCount_0f7a4 l D Y H.size ((S 10 0) &&& ((1 <<< (a &&& 31)) ||| (1 <<< (b &&& 31))))) (va_cwS 1 hts gX2_pairWouldBring_J6_bitCount_0f7a4 rfl rfl rfl (by decide +kernel) ⟨Nat.le_of_ble_eq_true rfl, Nat.le_of_ble_eq_true rfl⟩) (pst_S hK hP hD [] rfl (by decide)) rfl rfl hl.1 rfl (lv_room (Nat.le_of_ble_eq_true rfl)) dX2_pairWouldBring_34 ⟨Nat.zero_le _, Nat.zero_le _⟩) hP hD hS hA [] [0, 1, 2, 3, 4, 5, 6, 7, 8, 9, 10] [0, 1, 2, 3, 4, 5, 6, 7, 8, 9, 10] rfl rfl (by decide) (by decide) rfl (by decide) (fun H locs hP hD hS => ?_)
      have e9 : D_X2_pairWouldBring S a b w = D_J6_bitCount_0f7a4 ((S 10 0) &&& ((1 <<< (a &&& 31)) ||| (1 <<< (b &&& 31)))) := by rw [D_X2_pairWouldBring, if_pos c_1, if_pos c_6]
      exact ret_i hx hb hr hlk hP hD hS dX2_pairWouldBring_37 ⟨Nat.zero_le _, Nat.zero_le _⟩ ⟨e9.symm, rfl⟩
    · refine lv_iconst (v := 0) hx hb dX2_pairWouldBring_18 (by decide) ?_
      refine lv_goto (tgt := 37) hx hb dX2_pairWouldBring_19 (by decide) ?_
      have e9 : D_X2_pairWouldBring S a b w = 0 := by rw [D_X2_pairWouldBring, if_pos c_1, if_neg c_6]
      exact ret_i hx hb hr hlk hP hD hS dX2_pairWouldBring_37 ⟨Nat.zero_le _, Nat.zero_le _⟩ ⟨e9.symm, rfl⟩
def V_X2_wouldBring_1 (S : Nat → Nat → Int32) (n : Int32) (w : Int32) (i : Int32) (u : Int32) : Int32 := u + (D_X2_pairWouldBring S i (D_X3_counterpart i n) w)
def L_X2_wouldBring_5 (S : Nat → Nat → Int32) (n : Int32) (w : Int32) : Nat → (Int32) → (Int32) → (Int32)
  | 0, i, u => u
  | n_5 + 1, i, u => if 9 ≤ i then u else (if (D_X3_counterpart i n) ≤ i then (L_X2_wouldBring_5 S n w n_5 (i + 1) u) else (L_X2_wouldBring_5 S n w n_5 (i + 1) (V_X2_wouldBring_1 S n w i u)))
def D_X2_wouldBring (S : Nat → Nat → Int32) (n : Int32) (w : Int32) : (Int32) := (L_X2_wouldBring_5 S n w 10 0 0)
set_option maxHeartbeats 4000000 in
set_option maxRecDepth 100000 in
theorem c_X2_wouldBring (l : Launch) (D : va_G) (Y : YY) (sz : Nat) (q : Nat → Nat) (S : Nat → Nat → Int32) (r : Nat) (n : Int32) (w : Int32) : Met l yX2_wouldBring wsX2_wouldBring ({ frames := 3, cells := 0, slots := 0, locals := 67 } : Room) (va_Pc [.ref r, .int n, .int w] (Pst D Y sz (wR Y r q S))) ((fun A : Nat → Prop => Qsi D (fun r9 w9 => r9 = D_X2_wouldBring S n w ∧ w9 = wR Y r q S) A) (va_A (wR Y r q S) sz)) 0 0 (va_A (wR Y r q S) sz) := by
  refine ct_in (cc := cX2_wouldBring) (maxL := 6) (ret := (some .int)) (Qc := fun A : Nat → Prop => Qsi D (fun r9 w9 => r9 = D_X2_wouldBring S n w ∧ w9 = wR Y r q S) A) (by decide +kernel) rfl (Nat.le_of_ble_eq_true rfl) ?_
  intro p e s m below meth c A ls hx hb hr hts hown hml hlk hin hsz hA hP hD hK hS hl
  have hown : s.vm.findClass RX2 = some m.cls := hown
  have hl : lv_has ls 6 [(0, .ref r), (1, .int n), (2, .int w)] := hl
  show W p l e ({ frames := 3, cells := 0, slots := 0, locals := 67 } : Room) s m ([.ref r, .int n, .int w] : List Value).toArray below meth c s.heap [] 0 0 (MQ below (Qsi D (fun r9 w9 => r9 = D_X2_wouldBring S n w ∧ w9 = wR Y r q S) A) ([.ref r, .int n, .int w] : List Value).toArray s 0 0 A) (F0 m 0 ls [])
  refine lv_iconst (v := 0) hx hb dX2_wouldBring_0 (by decide) ?_
  refine lv_istore_n (lv' := [(3, .int 0), (0, .ref r), (1, .int n), (2, .int w)]) hx hb dX2_wouldBring_1 rfl hl (by decide) rfl (fun ls hl => ?_)
  refine lv_iconst (v := 0) hx hb dX2_wouldBring_2 (by decide) ?_
  refine lv_istore (lv' := [(4, .int 0), (3, .int 0), (0, .ref r), (1, .int n), (2, .int w)]) hx hb dX2_wouldBring_3 hl (by decide) rfl (fun ls hl => ?_)
  have loop_5 : ∀ (n_5 k_5 : Nat) (i : Int32) (u : Int32) (H : Heap) (locs : List Loc) (ls : Array Slot), 10 ≤ k_5 + n_5 → k_5 ≤ 9 → i = nI k_5 → va_P D vwCl (wR Y r q S) H → va_D A (wR Y r q S) → va_S A s.heap H locs → lv_has ls 6 [(4, .int i), (3, .int u), (0, .ref r), (1, .int n), (2, .int w)] → L_X2_wouldBring_5 S n w n_5 i u = L_X2_wouldBring_5 S n w 10 0 0 → W p l e ({ frames := 3, cells := 0, slots := 0, locals := 67 } : Room) s m ([.ref r, .int n, .int w] : List Value).toArray below meth c H locs 0 0 (MQ below (Qsi D (fun r9 w9 => r9 = D_X2_wouldBring S n w ∧ w9 = wR Y r q S) A) ([.ref r, .int n, .int w] : List Value).toArray s 0 0 A) (F0 m 5 ls []) := by
    intro n_5
    induction n_5 with
    | zero => intro k_5 i u H locs ls hkf hkN_5 ex_5 hP hD hS hl hR_5; exact absurd hkf (by omega)
    | succ n_5 ih_5 =>
      intro k_5 i u H locs ls hkf hkN_5 ex_5 hP hD hS hl hR_5
      refine lv_iload hx hb dX2_wouldBring_5 (lv_at hl 0 rfl) ?_
      refine lv_bipush (v := 9) hx hb dX2_wouldBring_7 (by decide) ?_
      refine lv_icmp_ge (tgt := 45) hx hb dX2_wouldBring_9 (by decide) (fun c_1 => ?_) (fun c_1 => ?_)
      · have e8 : L_X2_wouldBring_5 S n w (n_5 + 1) i u = u := by rw [L_X2_wouldBring_5, if_pos c_1]
        have e8 := hR_5.symm.trans e8
        have eu : L_X2_wouldBring_5 S n w 10 0 0 = u := by rw [e8]
        clear e8 hR_5 ih_5
        refine lv_iload_n hx hb dX2_wouldBring_45 rfl (lv_at hl 1 rfl) ?_
        subst eu
        have e9 : D_X2_wouldBring S n w = (L_X2_wouldBring_5 S n w 10 0 0) := by rw [D_X2_wouldBring]
        exact ret_i hx hb hr hlk hP hD hS dX2_wouldBring_46 ⟨Nat.zero_le _, Nat.zero_le _⟩ ⟨e9.symm, rfl⟩
      · have hk_5 := my_lt ex_5 (show (9 : Int32) = nI 9 from rfl) (by decide) hkN_5 c_1
        refine lv_iload hx hb dX2_wouldBring_12 (lv_at hl 0 rfl) ?_
        refine lv_iload_n hx hb dX2_wouldBring_14 rfl (lv_at hl 3 rfl) ?_
        refine ck_iD (wr := wR Y r q S) (ws' := wR Y r q S) (va_runSN (As := [.int i, .int n]) (rest := []) ⟨hx, hb, hml, hown, hts⟩ (c_X3_counterpart l D Y H.size i n) ⟨va_cnB 2 hts gX2_wouldBring_X3_counterpart_n75 rfl rfl rfl hK.2.2.1 (hts (.initialized RX3) (by decide +kernel)) (by decide +kernel) ⟨Nat.le_of_ble_eq_true rfl, Nat.le_of_ble_eq_true rfl⟩, hts (.static yX3_counterpart) (by decide +kernel), trivial⟩ (pst_S hK hP hD [] rfl (by decide)) rfl rfl hl.1 rfl (lv_room (Nat.le_of_ble_eq_true rfl)) dX2_wouldBring_15 ⟨Nat.zero_le _, Nat.zero_le _⟩) hP hD hS hA [] [0, 1, 2, 3, 4, 5, 6, 7, 8, 9, 10] [0, 1, 2, 3, 4, 5, 6, 7, 8, 9, 10] rfl rfl (by decide) (by decide) rfl (by decide) (fun H locs hP hD hS => ?_)
        refine lv_istore (lv' := [(5, .int (D_X3_counterpart i n)), (4, .int i), (3, .int u), (0, .ref r), (1, .int n), (2, .int w)]) hx hb dX2_wouldBring_18 hl (by decide) rfl (fun ls hl => ?_)
        refine lv_iload hx hb dX2_wouldBring_20 (lv_at hl 1 rfl) ?_
        refine lv_iload hx hb dX2_wouldBring_22 (lv_at hl 0 rfl) ?_
        refine lv_icmp_ge (tgt := 39) hx hb dX2_wouldBring_24 (by decide) (fun c_2 => ?_) (fun c_2 => ?_)
        · refine lv_iinc (v := i + 1) (lv' := [(4, .int (i + 1)), (5, .int (D_X3_counterpart i n)), (3, .int u), (0, .ref r), (1, .int n), (2, .int w)]) hx hb dX2_wouldBring_39 hl (k := 1) rfl rfl (by decide) rfl (fun ls hl => ?_)
          refine lv_goto (tgt := 5) hx hb dX2_wouldBring_42 (by decide) ?_
          exact ih_5 (k_5 + 1) (i + 1) u _ _ _ (by omega) (by omega) (by rw [ex_5]; exact nI_1 k_5)  hP hD hS (lv_sub hl [0, 2, 3, 4, 5] rfl) (by rw [L_X2_wouldBring_5, if_neg c_1, if_pos c_2] at hR_5; exact hR_5)
        · refine lv_iload_n hx hb dX2_wouldBring_27 rfl (lv_at hl 2 rfl) ?_
          refine lv_aload_n hx hb dX2_wouldBring_28 rfl (lv_at hl 3 rfl) ?_
          refine lv_iload hx hb dX2_wouldBring_29 (lv_at hl 1 rfl) ?_
          refine lv_iload hx hb dX2_wouldBring_31 (lv_at hl 0 rfl) ?_
          refine lv_iload_n hx hb dX2_wouldBring_33 rfl (lv_at hl 5 rfl) ?_
          refine ck_iD (wr := ([] : va_W)) (ws' := wR Y r q S) (va_runV (As := [.int i, .int (D_X3_counterpart i n), .int w]) (rest := [.int u]) ⟨hx, hb, hml, hown, hts⟩ (c_X2_pairWouldBring l D Y H.size q S r i (D_X3_counterpart i n) w (by rw [ex_5]; exact vp_in_nI hk_5 (by decide)) (in_counterpart _ _)) (cwV 3 hts gX2_wouldBring_X2_pairWouldBring rfl rfl rfl (by decide +kernel) ⟨Nat.le_of_ble_eq_true rfl, Nat.le_of_ble_eq_true rfl⟩) (pst_V hK hP hD [0, 1, 2, 3, 4, 5, 6, 7, 8, 9, 10] rfl (by decide) (q0 := 0) rfl rfl) rfl rfl hl.1 rfl (lv_room (Nat.le_of_ble_eq_true rfl)) dX2_wouldBring_34 ⟨Nat.zero_le _, Nat.zero_le _⟩) hP hD hS hA [0, 1, 2, 3, 4, 5, 6, 7, 8, 9, 10] [] [0, 1, 2, 3, 4, 5, 6, 7, 8, 9, 10] rfl rfl (by decide) (by decide) rfl (by decide) (fun H locs hP hD hS => ?_)
          refine lv_iadd hx hb dX2_wouldBring_37 ?_
          refine lv_istore_n (lv' := [(3, .int (V_X2_wouldBring_1 S n w i u)), (5, .int (D_X3_counterpart i n)), (4, .int i), (0, .ref r), (1, .int n), (2, .int w)]) hx hb dX2_wouldBring_38 rfl hl (by decide) rfl (fun ls hl => ?_)
          refine lv_iinc (v := i + 1) (lv' := [(4, .int (i + 1)), (3, .int (V_X2_wouldBring_1 S n w i u)), (5, .int (D_X3_counterpart i n)), (0, .ref r), (1, .int n), (2, .int w)]) hx hb dX2_wouldBring_39 hl (k := 2) rfl rfl (by decide) rfl (fun ls hl => ?_)
          refine lv_goto (tgt := 5) hx hb dX2_wouldBring_42 (by decide) ?_
          exact ih_5 (k_5 + 1) (i + 1) (V_X2_wouldBring_1 S n w i u) _ _ _ (by omega) (by omega) (by rw [ex_5]; exact nI_1 k_5)  hP hD hS (lv_sub hl [0, 1, 3, 4, 5] rfl) (by rw [L_X2_wouldBring_5, if_neg c_1, if_neg c_2] at hR_5; exact hR_5)
  exact loop_5 10 0 0 0 _ _ _ (by omega) (Nat.zero_le _) nI_0.symm  hP hD hS (lv_sub hl [0, 1, 2, 3, 4] rfl) rfl
end
section
def T_X2_copyRow_1 (n : Nat) (f : Nat → Int32) (h : Nat → Int32) : Nat → Int32 := va_cpy f h (0 : Int32).toNatClampNeg (0 : Int32).toNatClampNeg (nI n).toNatClampNeg
def D_X2_copyRow (n : Nat) (f : Nat → Int32) (h : Nat → Int32)  : (Nat → Int32) := (T_X2_copyRow_1 n f h)
set_option maxHeartbeats 4000000 in
set_option maxRecDepth 100000 in
theorem c_X2_copyRow (l : Launch) (D : va_G) (Y : YY) (sz : Nat) (n : Nat) (f : Nat → Int32) (h : Nat → Int32) (a : Nat) (b : Nat) (hn : n < 2 ^ 31) : Met l yX2_copyRow wsX2_copyRow ({ frames := 1, cells := 0, slots := 0, locals := 40 } : Room) (va_Pc [.ref a, .ref b] (Pst D Y sz (wI Y a n f ++ wI Y b n h))) ((fun A : Nat → Prop => Qsv D (fun w9 => w9 = wI Y a n f ++ wI Y b n (D_X2_copyRow n f h)) A) (va_A (wI Y a n f ++ wI Y b n h) sz)) 0 0 (va_A (wI Y a n f ++ wI Y b n h) sz) := by
  refine ct_in (cc := cX2_copyRow) (maxL := 2) (ret := none) (Qc := fun A : Nat → Prop => Qsv D (fun w9 => w9 = wI Y a n f ++ wI Y b n (D_X2_copyRow n f h)) A) (by decide +kernel) rfl (Nat.le_of_ble_eq_true rfl) ?_
  intro p e s m below meth c A ls hx hb hr hts hown hml hlk hin hsz hA hP hD hK hS hl
  have hown : s.vm.findClass RX2 = some m.cls := hown
  have hl : lv_has ls 2 [(0, .ref a), (1, .ref b)] := hl
  show W p l e ({ frames := 1, cells := 0, slots := 0, locals := 40 } : Room) s m ([.ref a, .ref b] : List Value).toArray below meth c s.heap [] 0 0 (MQ below (Qsv D (fun w9 => w9 = wI Y a n f ++ wI Y b n (D_X2_copyRow n f h)) A) ([.ref a, .ref b] : List Value).toArray s 0 0 A) (F0 m 0 ls [])
  refine lv_aload_n hx hb dX2_copyRow_0 rfl (lv_at hl 0 rfl) ?_
  refine lv_iconst (v := 0) hx hb dX2_copyRow_1 (by decide) ?_
  refine lv_aload_n hx hb dX2_copyRow_2 rfl (lv_at hl 1 rfl) ?_
  refine lv_iconst (v := 0) hx hb dX2_copyRow_3 (by decide) ?_
  refine lv_aload_n hx hb dX2_copyRow_4 rfl (lv_at hl 0 rfl) ?_
  refine va_alen (D := D) hx hb hK.1 hP 0 0 rfl rfl (v := nI n) rfl dX2_copyRow_5 ?_
  refine lv_aload_n hx hb dX2_copyRow_6 rfl (lv_at hl 1 rfl) ?_
  refine va_alen (D := D) hx hb hK.1 hP 1 0 rfl rfl (v := nI n) rfl dX2_copyRow_7 ?_
  refine va_mmin hx hb (by rw [hml]; exact hl.1.symm) hown (hts (.methodLink RX2 63 Lib.Math.min.name) (by decide +kernel)) (hts (.static Lib.Math.min.name) (by decide +kernel)) (hts (.initialized "java/lang/Math") (by decide +kernel)) (hts (.code Lib.Math.min.name Lib.Math.min.code 2 (some .int)) (by decide +kernel)) (Nat.le_of_ble_eq_true rfl) (Nat.le_of_ble_eq_true rfl) (Nat.zero_le _) (Nat.zero_le _) dX2_copyRow_8 ?_
  rw [if_neg (show ¬ nI n < nI n from by rw [Int32.lt_iff_toInt_lt]; omega)]
  refine va_copyi (D := D) hx hb (by rw [hml]; exact hl.1.symm) hown (hts (.methodLink RX2 69 arraycopyName) (by decide +kernel)) (hts (.native arraycopyName) (by decide +kernel)) (hts (.static arraycopyName) (by decide +kernel)) (hts (.initialized "java/lang/System") (by decide +kernel)) hK.1 hP hD hS 0 1 0 0 rfl rfl rfl rfl rfl (by decide) (by decide) (nI_pos hn) (by rw [nI_clamp hn]; exact Nat.le_of_eq (Nat.zero_add n)) (by rw [nI_clamp hn]; exact Nat.le_of_eq (Nat.zero_add n)) (fun _ _ => rfl) (Nat.le_of_ble_eq_true rfl) (Nat.le_of_ble_eq_true rfl) dX2_copyRow_11 (fun H locs hP hD hS => ?_)
  have hP : va_P D vwCl (wI Y a n f ++ wI Y b n (T_X2_copyRow_1 n f h)) H := hP
  have hD : va_D A (wI Y a n f ++ wI Y b n (T_X2_copyRow_1 n f h)) := hD
  obtain ⟨S_1, eS_1⟩ : ∃ z9, T_X2_copyRow_1 n f h = z9 := ⟨_, rfl⟩
  rw [eS_1] at hP hD
  subst eS_1
  have e9 : D_X2_copyRow n f h = (T_X2_copyRow_1 n f h) := by rw [D_X2_copyRow]
  exact ret_v hx hb hr hlk hP hD hS dX2_copyRow_14 ⟨Nat.zero_le _, Nat.zero_le _⟩ (by rw [e9])
def T_X2_copyFrom_1 (S : Nat → Nat → Int32) (Z : Nat → Nat → Int32) : Nat → Nat → Int32 := sX S 0 (D_X2_copyRow 3 (Z 0) (S 0))
def T_X2_copyFrom_2 (Z : Nat → Nat → Int32) (S_1 : Nat → Nat → Int32) : Nat → Nat → Int32 := s2 S_1 10 0 (Z 10 0)
def T_X2_copyFrom_3 (Z : Nat → Nat → Int32) (S_2 : Nat → Nat → Int32) : Nat → Nat → Int32 := sX S_2 1 (D_X2_copyRow 9 (Z 1) (S_2 1))
def T_X2_copyFrom_4 (Z : Nat → Nat → Int32) (S_3 : Nat → Nat → Int32) : Nat → Nat → Int32 := sX S_3 2 (D_X2_copyRow 9 (Z 2) (S_3 2))
def T_X2_copyFrom_5 (Z : Nat → Nat → Int32) (S_4 : Nat → Nat → Int32) : Nat → Nat → Int32 := sX S_4 3 (D_X2_copyRow 9 (Z 3) (S_4 3))
def T_X2_copyFrom_6 (Z : Nat → Nat → Int32) (S_5 : Nat → Nat → Int32) : Nat → Nat → Int32 := sX S_5 4 (D_X2_copyRow 9 (Z 4) (S_5 4))
def T_X2_copyFrom_7 (Z : Nat → Nat → Int32) (S_6 : Nat → Nat → Int32) : Nat → Nat → Int32 := sX S_6 5 (D_X2_copyRow 9 (Z 5) (S_6 5))
def T_X2_copyFrom_8 (Z : Nat → Nat → Int32) (S_7 : Nat → Nat → Int32) : Nat → Nat → Int32 := sX S_7 6 (D_X2_copyRow 81 (Z 6) (S_7 6))
def T_X2_copyFrom_9 (Z : Nat → Nat → Int32) (S_8 : Nat → Nat → Int32) : Nat → Nat → Int32 := sX S_8 7 (D_X2_copyRow 81 (Z 7) (S_8 7))
def T_X2_copyFrom_10 (Z : Nat → Nat → Int32) (S_9 : Nat → Nat → Int32) : Nat → Nat → Int32 := sX S_9 8 (D_X2_copyRow 81 (Z 8) (S_9 8))
def T_X2_copyFrom_11 (Z : Nat → Nat → Int32) (S_10 : Nat → Nat → Int32) : Nat → Nat → Int32 := sX S_10 9 (D_X2_copyRow 9 (Z 9) (S_10 9))
def T_X2_copyFrom_12 (Z : Nat → Nat → Int32) (S_11 : Nat → Nat → Int32) : Nat → Nat → Int32 := s2 S_11 10 1 (Z 10 1)
def T_X2_copyFrom_13 (Z : Nat → Nat → Int32) (S_12 : Nat → Nat → Int32) : Nat → Nat → Int32 := s2 S_12 10 2 (Z 10 2)
def D_X2_copyFrom (S : Nat → Nat → Int32) (Z : Nat → Nat → Int32)  : (Nat → Nat → Int32) := (T_X2_copyFrom_13 Z (T_X2_copyFrom_12 Z (T_X2_copyFrom_11 Z (T_X2_copyFrom_10 Z (T_X2_copyFrom_9 Z (T_X2_copyFrom_8 Z (T_X2_copyFrom_7 Z (T_X2_copyFrom_6 Z (T_X2_copyFrom_5 Z (T_X2_copyFrom_4 Z (T_X2_copyFrom_3 Z (T_X2_copyFrom_2 Z (T_X2_copyFrom_1 S Z)))))))))))))
set_option maxRecDepth 100000 in
theorem in_X2_copyFrom_RX2 : ∀ w ∈ u_ws RX2 TX2 13, w ∈ wsX2_copyFrom := by decide +kernel
set_option maxHeartbeats 4000000 in
set_option maxRecDepth 100000 in
theorem c_X2_copyFrom (l : Launch) (D : va_G) (Y : YY) (sz : Nat) (q : Nat → Nat) (q2 : Nat → Nat) (S : Nat → Nat → Int32) (Z : Nat → Nat → Int32) (r : Nat) (r2 : Nat) : Met l yX2_copyFrom wsX2_copyFrom ({ frames := 2, cells := 0, slots := 0, locals := 61 } : Room) (va_Pc [.ref r, .ref r2] (Pst D Y sz (wR Y r q S ++ wR Y r2 q2 Z))) ((fun A : Nat → Prop => Qsv D (fun w9 => w9 = wR Y r q (D_X2_copyFrom S Z) ++ wR Y r2 q2 Z) A) (va_A (wR Y r q S ++ wR Y r2 q2 Z) sz)) 0 0 (va_A (wR Y r q S ++ wR Y r2 q2 Z) sz) := by
  refine ct_in (cc := cX2_copyFrom) (maxL := 2) (ret := none) (Qc := fun A : Nat → Prop => Qsv D (fun w9 => w9 = wR Y r q (D_X2_copyFrom S Z) ++ wR Y r2 q2 Z) A) (by decide +kernel) rfl (Nat.le_of_ble_eq_true rfl) ?_
  intro p e s m below meth c A ls hx hb hr hts hown hml hlk hin hsz hA hP hD hK hS hl
  have hown : s.vm.findClass RX2 = some m.cls := hown
  have hl : lv_has ls 2 [(0, .ref r), (1, .ref r2)] := hl
  show W p l e ({ frames := 2, cells := 0, slots := 0, locals := 61 } : Room) s m ([.ref r, .ref r2] : List Value).toArray below meth c s.heap [] 0 0 (MQ below (Qsv D (fun w9 => w9 = wR Y r q (D_X2_copyFrom S Z) ++ wR Y r2 q2 Z) A) ([.ref r, .ref r2] : List Value).toArray s 0 0 A) (F0 m 0 ls [])
  refine lv_aload_n hx hb dX2_copyFrom_0 rfl (lv_at hl 1 rfl) ?_
  refine va_get (D := D) (ci := 2) (v := .ref (q2 0)) (C := RX2) (T := TX2) (N := 13) hx hb hts in_X2_copyFrom_RX2 hown hK.1 hP 11 rfl rfl 0 (by decide) (hts (.fieldLink RX2 9 "NineDancers$Ring" "settings" "[I") (by decide +kernel)) (fun _ h9 => h9) rfl dX2_copyFrom_1 ?_
  refine lv_aload_n hx hb dX2_copyFrom_4 rfl (lv_at hl 0 rfl) ?_
  refine va_get (D := D) (ci := 2) (v := .ref (q 0)) (C := RX2) (T := TX2) (N := 13) hx hb hts in_X2_copyFrom_RX2 hown hK.1 hP 0 rfl rfl 0 (by decide) (hts (.fieldLink RX2 9 "NineDancers$Ring" "settings" "[I") (by decide +kernel)) (fun _ h9 => h9) rfl dX2_copyFrom_5 ?_
  refine ck_vD (wr := [(r, .inr (2, fR q S)), (q 1, .inl (Y.1, 9, .inl (S 1))), (q 2, .inl (Y.1, 9, .inl (S 2))), (q 3, .inl (Y.1, 9, .inl (S 3))), (q 4, .inl (Y.1, 9, .inl (S 4))), (q 5, .inl (Y.1, 9, .inl (S 5))), (q 6, .inl (Y.1, 81, .inl (S 6))), (q 7, .inl (Y.1, 81, .inl (S 7))), (q 8, .inl (Y.1, 81, .inl (S 8))), (q 9, .inl (Y.1, 9, .inl (S 9))), (r2, .inr (2, fR q2 Z)), (q2 1, .inl (Y.1, 9, .inl (Z 1))), (q2 2, .inl (Y.1, 9, .inl (Z 2))), (q2 3, .inl (Y.1, 9, .inl (Z 3))), (q2 4, .inl (Y.1, 9, .inl (Z 4))), (q2 5, .inl (Y.1, 9, .inl (Z 5))), (q2 6, .inl (Y.1, 81, .inl (Z 6))), (q2 7, .inl (Y.1, 81, .inl (Z 7))), (q2 8, .inl (Y.1, 81, .inl (Z 8))), (q2 9, .inl (Y.1, 9, .inl (Z 9)))]) (ws' := wR Y r q (T_X2_copyFrom_1 S Z) ++ wR Y r2 q2 Z) (va_runS (As := [.ref (q2 0), .ref (q 0)]) (rest := []) ⟨hx, hb, hml, hown, hts⟩ (c_X2_copyRow l D Y s.heap.size 3 (Z 0) (S 0) (q2 0) (q 0) (by decide)) (va_cwS 2 hts gX2_copyFrom_X2_copyRow rfl rfl rfl (by decide +kernel) ⟨Nat.le_of_ble_eq_true rfl, Nat.le_of_ble_eq_true rfl⟩) (pst_S hK hP hD [12, 1] rfl (by decide)) rfl rfl hl.1 rfl (lv_room (Nat.le_of_ble_eq_true rfl)) dX2_copyFrom_8 ⟨Nat.zero_le _, Nat.zero_le _⟩) hP hD hS hA [12, 1] [0, 2, 3, 4, 5, 6, 7, 8, 9, 10, 11, 13, 14, 15, 16, 17, 18, 19, 20, 21] [0, 21, 1, 2, 3, 4, 5, 6, 7, 8, 9, 10, 20, 11, 12, 13, 14, 15, 16, 17, 18, 19] rfl rfl (by decide) (by decide) rfl (by decide) (fun H locs hP hD hS => ?_)
  obtain ⟨S_1, eS_1⟩ : ∃ z9, T_X2_copyFrom_1 S Z = z9 := ⟨_, rfl⟩
  rw [eS_1] at hP hD
  refine lv_aload_n hx hb dX2_copyFrom_11 rfl (lv_at hl 0 rfl) ?_
  refine lv_aload_n hx hb dX2_copyFrom_12 rfl (lv_at hl 1 rfl) ?_
  refine va_get (D := D) (ci := 2) (v := .int (Z 10 0)) (C := RX2) (T := TX2) (N := 13) hx hb hts in_X2_copyFrom_RX2 hown hK.1 hP 11 rfl rfl 1 (by decide) (hts (.fieldLink RX2 15 "NineDancers$Ring" "there" "I") (by decide +kernel)) (fun _ h9 => h9) rfl dX2_copyFrom_13 ?_
  refine va_put (D := D) (ci := 2) (v := .int (Z 10 0)) (ty := .int) (C := RX2) (T := TX2) (N := 13) hx hb hts in_X2_copyFrom_RX2 tyX2 tyX2_ok nmX2 hown hK.1 hP hD hS 0 rfl rfl 1 (by decide) (hts (.fieldLink RX2 15 "NineDancers$Ring" "there" "I") (by decide +kernel)) (fun _ h9 => h9) rfl (by decide +kernel) rfl rfl (Nat.le_of_ble_eq_true rfl) dX2_copyFrom_16 (fun H locs hP hD hS => ?_)
  have hP : va_P D vwCl (wR Y r q (T_X2_copyFrom_2 Z S_1) ++ wR Y r2 q2 Z) H := hP
  have hD : va_D A (wR Y r q (T_X2_copyFrom_2 Z S_1) ++ wR Y r2 q2 Z) := hD
  obtain ⟨S_2, eS_2⟩ : ∃ z9, T_X2_copyFrom_2 Z S_1 = z9 := ⟨_, rfl⟩
  rw [eS_2] at hP hD
  refine lv_aload_n hx hb dX2_copyFrom_19 rfl (lv_at hl 1 rfl) ?_
  refine va_get (D := D) (ci := 2) (v := .ref (q2 1)) (C := RX2) (T := TX2) (N := 13) hx hb hts in_X2_copyFrom_RX2 hown hK.1 hP 11 rfl rfl 2 (by decide) (hts (.fieldLink RX2 19 "NineDancers$Ring" "strengths" "[I") (by decide +kernel)) (fun _ h9 => h9) rfl dX2_copyFrom_20 ?_
  refine lv_aload_n hx hb dX2_copyFrom_23 rfl (lv_at hl 0 rfl) ?_
  refine va_get (D := D) (ci := 2) (v := .ref (q 1)) (C := RX2) (T := TX2) (N := 13) hx hb hts in_X2_copyFrom_RX2 hown hK.1 hP 0 rfl rfl 2 (by decide) (hts (.fieldLink RX2 19 "NineDancers$Ring" "strengths" "[I") (by decide +kernel)) (fun _ h9 => h9) rfl dX2_copyFrom_24 ?_
  refine ck_vD (wr := [(r, .inr (2, fR q S_2)), (q 0, .inl (Y.1, 3, .inl (S_2 0))), (q 2, .inl (Y.1, 9, .inl (S_2 2))), (q 3, .inl (Y.1, 9, .inl (S_2 3))), (q 4, .inl (Y.1, 9, .inl (S_2 4))), (q 5, .inl (Y.1, 9, .inl (S_2 5))), (q 6, .inl (Y.1, 81, .inl (S_2 6))), (q 7, .inl (Y.1, 81, .inl (S_2 7))), (q 8, .inl (Y.1, 81, .inl (S_2 8))), (q 9, .inl (Y.1, 9, .inl (S_2 9))), (r2, .inr (2, fR q2 Z)), (q2 0, .inl (Y.1, 3, .inl (Z 0))), (q2 2, .inl (Y.1, 9, .inl (Z 2))), (q2 3, .inl (Y.1, 9, .inl (Z 3))), (q2 4, .inl (Y.1, 9, .inl (Z 4))), (q2 5, .inl (Y.1, 9, .inl (Z 5))), (q2 6, .inl (Y.1, 81, .inl (Z 6))), (q2 7, .inl (Y.1, 81, .inl (Z 7))), (q2 8, .inl (Y.1, 81, .inl (Z 8))), (q2 9, .inl (Y.1, 9, .inl (Z 9)))]) (ws' := wR Y r q (T_X2_copyFrom_3 Z S_2) ++ wR Y r2 q2 Z) (va_runS (As := [.ref (q2 1), .ref (q 1)]) (rest := []) ⟨hx, hb, hml, hown, hts⟩ (c_X2_copyRow l D Y H.size 9 (Z 1) (S_2 1) (q2 1) (q 1) (by decide)) (va_cwS 2 hts gX2_copyFrom_X2_copyRow rfl rfl rfl (by decide +kernel) ⟨Nat.le_of_ble_eq_true rfl, Nat.le_of_ble_eq_true rfl⟩) (pst_S hK hP hD [13, 2] rfl (by decide)) rfl rfl hl.1 rfl (lv_room (Nat.le_of_ble_eq_true rfl)) dX2_copyFrom_27 ⟨Nat.zero_le _, Nat.zero_le _⟩) hP hD hS hA [13, 2] [0, 1, 3, 4, 5, 6, 7, 8, 9, 10, 11, 12, 14, 15, 16, 17, 18, 19, 20, 21] [0, 1, 21, 2, 3, 4, 5, 6, 7, 8, 9, 10, 11, 20, 12, 13, 14, 15, 16, 17, 18, 19] rfl rfl (by decide) (by decide) rfl (by decide) (fun H locs hP hD hS => ?_)
  obtain ⟨S_3, eS_3⟩ : ∃ z9, T_X2_copyFrom_3 Z S_2 = z9 := ⟨_, rfl⟩
  rw [eS_3] at hP hD
  refine lv_aload_n hx hb dX2_copyFrom_30 rfl (lv_at hl 1 rfl) ?_
  refine va_get (D := D) (ci := 2) (v := .ref (q2 2)) (C := RX2) (T := TX2) (N := 13) hx hb hts in_X2_copyFrom_RX2 hown hK.1 hP 11 rfl rfl 3 (by decide) (hts (.fieldLink RX2 22 "NineDancers$Ring" "joys" "[I") (by decide +kernel)) (fun _ h9 => h9) rfl dX2_copyFrom_31 ?_
  refine lv_aload_n hx hb dX2_copyFrom_34 rfl (lv_at hl 0 rfl) ?_
  refine va_get (D := D) (ci := 2) (v := .ref (q 2)) (C := RX2) (T := TX2) (N := 13) hx hb hts in_X2_copyFrom_RX2 hown hK.1 hP 0 rfl rfl 3 (by decide) (hts (.fieldLink RX2 22 "NineDancers$Ring" "joys" "[I") (by decide +kernel)) (fun _ h9 => h9) rfl dX2_copyFrom_35 ?_
  refine ck_vD (wr := [(r, .inr (2, fR q S_3)), (q 0, .inl (Y.1, 3, .inl (S_3 0))), (q 1, .inl (Y.1, 9, .inl (S_3 1))), (q 3, .inl (Y.1, 9, .inl (S_3 3))), (q 4, .inl (Y.1, 9, .inl (S_3 4))), (q 5, .inl (Y.1, 9, .inl (S_3 5))), (q 6, .inl (Y.1, 81, .inl (S_3 6))), (q 7, .inl (Y.1, 81, .inl (S_3 7))), (q 8, .inl (Y.1, 81, .inl (S_3 8))), (q 9, .inl (Y.1, 9, .inl (S_3 9))), (r2, .inr (2, fR q2 Z)), (q2 0, .inl (Y.1, 3, .inl (Z 0))), (q2 1, .inl (Y.1, 9, .inl (Z 1))), (q2 3, .inl (Y.1, 9, .inl (Z 3))), (q2 4, .inl (Y.1, 9, .inl (Z 4))), (q2 5, .inl (Y.1, 9, .inl (Z 5))), (q2 6, .inl (Y.1, 81, .inl (Z 6))), (q2 7, .inl (Y.1, 81, .inl (Z 7))), (q2 8, .inl (Y.1, 81, .inl (Z 8))), (q2 9, .inl (Y.1, 9, .inl (Z 9)))]) (ws' := wR Y r q (T_X2_copyFrom_4 Z S_3) ++ wR Y r2 q2 Z) (va_runS (As := [.ref (q2 2), .ref (q 2)]) (rest := []) ⟨hx, hb, hml, hown, hts⟩ (c_X2_copyRow l D Y H.size 9 (Z 2) (S_3 2) (q2 2) (q 2) (by decide)) (va_cwS 2 hts gX2_copyFrom_X2_copyRow rfl rfl rfl (by decide +kernel) ⟨Nat.le_of_ble_eq_true rfl, Nat.le_of_ble_eq_true rfl⟩) (pst_S hK hP hD [14, 3] rfl (by decide)) rfl rfl hl.1 rfl (lv_room (Nat.le_of_ble_eq_true rfl)) dX2_copyFrom_38 ⟨Nat.zero_le _, Nat.zero_le _⟩) hP hD hS hA [14, 3] [0, 1, 2, 4, 5, 6, 7, 8, 9, 10, 11, 12, 13, 15, 16, 17, 18, 19, 20, 21] [0, 1, 2, 21, 3, 4, 5, 6, 7, 8, 9, 10, 11, 12, 20, 13, 14, 15, 16, 17, 18, 19] rfl rfl (by decide) (by decide) rfl (by decide) (fun H locs hP hD hS => ?_)
  obtain ⟨S_4, eS_4⟩ : ∃ z9, T_X2_copyFrom_4 Z S_3 = z9 := ⟨_, rfl⟩
  rw [eS_4] at hP hD
  refine lv_aload_n hx hb dX2_copyFrom_41 rfl (lv_at hl 1 rfl) ?_
  refine va_get (D := D) (ci := 2) (v := .ref (q2 3)) (C := RX2) (T := TX2) (N := 13) hx hb hts in_X2_copyFrom_RX2 hown hK.1 hP 11 rfl rfl 4 (by decide) (hts (.fieldLink RX2 25 "NineDancers$Ring" "roundsDanced" "[I") (by decide +kernel)) (fun _ h9 => h9) rfl dX2_copyFrom_42 ?_
  refine lv_aload_n hx hb dX2_copyFrom_45 rfl (lv_at hl 0 rfl) ?_
  refine va_get (D := D) (ci := 2) (v := .ref (q 3)) (C := RX2) (T := TX2) (N := 13) hx hb hts in_X2_copyFrom_RX2 hown hK.1 hP 0 rfl rfl 4 (by decide) (hts (.fieldLink RX2 25 "NineDancers$Ring" "roundsDanced" "[I") (by decide +kernel)) (fun _ h9 => h9) rfl dX2_copyFrom_46 ?_
  refine ck_vD (wr := [(r, .inr (2, fR q S_4)), (q 0, .inl (Y.1, 3, .inl (S_4 0))), (q 1, .inl (Y.1, 9, .inl (S_4 1))), (q 2, .inl (Y.1, 9, .inl (S_4 2))), (q 4, .inl (Y.1, 9, .inl (S_4 4))), (q 5, .inl (Y.1, 9, .inl (S_4 5))), (q 6, .inl (Y.1, 81, .inl (S_4 6))), (q 7, .inl (Y.1, 81, .inl (S_4 7))), (q 8, .inl (Y.1, 81, .inl (S_4 8))), (q 9, .inl (Y.1, 9, .inl (S_4 9))), (r2, .inr (2, fR q2 Z)), (q2 0, .inl (Y.1, 3, .inl (Z 0))), (q2 1, .inl (Y.1, 9, .inl (Z 1))), (q2 2, .inl (Y.1, 9, .inl (Z 2))), (q2 4, .inl (Y.1, 9, .inl (Z 4))), (q2 5, .inl (Y.1, 9, .inl (Z 5))), (q2 6, .inl (Y.1, 81, .inl (Z 6))), (q2 7, .inl (Y.1, 81, .inl (Z 7))), (q2 8, .inl (Y.1, 81, .inl (Z 8))), (q2 9, .inl (Y.1, 9, .inl (Z 9)))]) (ws' := wR Y r q (T_X2_copyFrom_5 Z S_4) ++ wR Y r2 q2 Z) (va_runS (As := [.ref (q2 3), .ref (q 3)]) (rest := []) ⟨hx, hb, hml, hown, hts⟩ (c_X2_copyRow l D Y H.size 9 (Z 3) (S_4 3) (q2 3) (q 3) (by decide)) (va_cwS 2 hts gX2_copyFrom_X2_copyRow rfl rfl rfl (by decide +kernel) ⟨Nat.le_of_ble_eq_true rfl, Nat.le_of_ble_eq_true rfl⟩) (pst_S hK hP hD [15, 4] rfl (by decide)) rfl rfl hl.1 rfl (lv_room (Nat.le_of_ble_eq_true rfl)) dX2_copyFrom_49 ⟨Nat.zero_le _, Nat.zero_le _⟩) hP hD hS hA [15, 4] [0, 1, 2, 3, 5, 6, 7, 8, 9, 10, 11, 12, 13, 14, 16, 17, 18, 19, 20, 21] [0, 1, 2, 3, 21, 4, 5, 6, 7, 8, 9, 10, 11, 12, 13, 20, 14, 15, 16, 17, 18, 19] rfl rfl (by decide) (by decide) rfl (by decide) (fun H locs hP hD hS => ?_)
  obtain ⟨S_5, eS_5⟩ : ∃ z9, T_X2_copyFrom_5 Z S_4 = z9 := ⟨_, rfl⟩
  rw [eS_5] at hP hD
  refine lv_aload_n hx hb dX2_copyFrom_52 rfl (lv_at hl 1 rfl) ?_
  refine va_get (D := D) (ci := 2) (v := .ref (q2 4)) (C := RX2) (T := TX2) (N := 13) hx hb hts in_X2_copyFrom_RX2 hown hK.1 hP 11 rfl rfl 5 (by decide) (hts (.fieldLink RX2 28 "NineDancers$Ring" "roundsRested" "[I") (by decide +kernel)) (fun _ h9 => h9) rfl dX2_copyFrom_53 ?_
  refine lv_aload_n hx hb dX2_copyFrom_56 rfl (lv_at hl 0 rfl) ?_
  refine va_get (D := D) (ci := 2) (v := .ref (q 4)) (C := RX2) (T := TX2) (N := 13) hx hb hts in_X2_copyFrom_RX2 hown hK.1 hP 0 rfl rfl 5 (by decide) (hts (.fieldLink RX2 28 "NineDancers$Ring" "roundsRested" "[I") (by decide +kernel)) (fun _ h9 => h9) rfl dX2_copyFrom_57 ?_
  refine ck_vD (wr := [(r, .inr (2, fR q S_5)), (q 0, .inl (Y.1, 3, .inl (S_5 0))), (q 1, .inl (Y.1, 9, .inl (S_5 1))), (q 2, .inl (Y.1, 9, .inl (S_5 2))), (q 3, .inl (Y.1, 9, .inl (S_5 3))), (q 5, .inl (Y.1, 9, .inl (S_5 5))), (q 6, .inl (Y.1, 81, .inl (S_5 6))), (q 7, .inl (Y.1, 81, .inl (S_5 7))), (q 8, .inl (Y.1, 81, .inl (S_5 8))), (q 9, .inl (Y.1, 9, .inl (S_5 9))), (r2, .inr (2, fR q2 Z)), (q2 0, .inl (Y.1, 3, .inl (Z 0))), (q2 1, .inl (Y.1, 9, .inl (Z 1))), (q2 2, .inl (Y.1, 9, .inl (Z 2))), (q2 3, .inl (Y.1, 9, .inl (Z 3))), (q2 5, .inl (Y.1, 9, .inl (Z 5))), (q2 6, .inl (Y.1, 81, .inl (Z 6))), (q2 7, .inl (Y.1, 81, .inl (Z 7))), (q2 8, .inl (Y.1, 81, .inl (Z 8))), (q2 9, .inl (Y.1, 9, .inl (Z 9)))]) (ws' := wR Y r q (T_X2_copyFrom_6 Z S_5) ++ wR Y r2 q2 Z) (va_runS (As := [.ref (q2 4), .ref (q 4)]) (rest := []) ⟨hx, hb, hml, hown, hts⟩ (c_X2_copyRow l D Y H.size 9 (Z 4) (S_5 4) (q2 4) (q 4) (by decide)) (va_cwS 2 hts gX2_copyFrom_X2_copyRow rfl rfl rfl (by decide +kernel) ⟨Nat.le_of_ble_eq_true rfl, Nat.le_of_ble_eq_true rfl⟩) (pst_S hK hP hD [16, 5] rfl (by decide)) rfl rfl hl.1 rfl (lv_room (Nat.le_of_ble_eq_true rfl)) dX2_copyFrom_60 ⟨Nat.zero_le _, Nat.zero_le _⟩) hP hD hS hA [16, 5] [0, 1, 2, 3, 4, 6, 7, 8, 9, 10, 11, 12, 13, 14, 15, 17, 18, 19, 20, 21] [0, 1, 2, 3, 4, 21, 5, 6, 7, 8, 9, 10, 11, 12, 13, 14, 20, 15, 16, 17, 18, 19] rfl rfl (by decide) (by decide) rfl (by decide) (fun H locs hP hD hS => ?_)
  obtain ⟨S_6, eS_6⟩ : ∃ z9, T_X2_copyFrom_6 Z S_5 = z9 := ⟨_, rfl⟩
  rw [eS_6] at hP hD
  refine lv_aload_n hx hb dX2_copyFrom_63 rfl (lv_at hl 1 rfl) ?_
  refine va_get (D := D) (ci := 2) (v := .ref (q2 5)) (C := RX2) (T := TX2) (N := 13) hx hb hts in_X2_copyFrom_RX2 hown hK.1 hP 11 rfl rfl 6 (by decide) (hts (.fieldLink RX2 31 "NineDancers$Ring" "roundsAlone" "[I") (by decide +kernel)) (fun _ h9 => h9) rfl dX2_copyFrom_64 ?_
  refine lv_aload_n hx hb dX2_copyFrom_67 rfl (lv_at hl 0 rfl) ?_
  refine va_get (D := D) (ci := 2) (v := .ref (q 5)) (C := RX2) (T := TX2) (N := 13) hx hb hts in_X2_copyFrom_RX2 hown hK.1 hP 0 rfl rfl 6 (by decide) (hts (.fieldLink RX2 31 "NineDancers$Ring" "roundsAlone" "[I") (by decide +kernel)) (fun _ h9 => h9) rfl dX2_copyFrom_68 ?_
  refine ck_vD (wr := [(r, .inr (2, fR q S_6)), (q 0, .inl (Y.1, 3, .inl (S_6 0))), (q 1, .inl (Y.1, 9, .inl (S_6 1))), (q 2, .inl (Y.1, 9, .inl (S_6 2))), (q 3, .inl (Y.1, 9, .inl (S_6 3))), (q 4, .inl (Y.1, 9, .inl (S_6 4))), (q 6, .inl (Y.1, 81, .inl (S_6 6))), (q 7, .inl (Y.1, 81, .inl (S_6 7))), (q 8, .inl (Y.1, 81, .inl (S_6 8))), (q 9, .inl (Y.1, 9, .inl (S_6 9))), (r2, .inr (2, fR q2 Z)), (q2 0, .inl (Y.1, 3, .inl (Z 0))), (q2 1, .inl (Y.1, 9, .inl (Z 1))), (q2 2, .inl (Y.1, 9, .inl (Z 2))), (q2 3, .inl (Y.1, 9, .inl (Z 3))), (q2 4, .inl (Y.1, 9, .inl (Z 4))), (q2 6, .inl (Y.1, 81, .inl (Z 6))), (q2 7, .inl (Y.1, 81, .inl (Z 7))), (q2 8, .inl (Y.1, 81, .inl (Z 8))), (q2 9, .inl (Y.1, 9, .inl (Z 9)))]) (ws' := wR Y r q (T_X2_copyFrom_7 Z S_6) ++ wR Y r2 q2 Z) (va_runS (As := [.ref (q2 5), .ref (q 5)]) (rest := []) ⟨hx, hb, hml, hown, hts⟩ (c_X2_copyRow l D Y H.size 9 (Z 5) (S_6 5) (q2 5) (q 5) (by decide)) (va_cwS 2 hts gX2_copyFrom_X2_copyRow rfl rfl rfl (by decide +kernel) ⟨Nat.le_of_ble_eq_true rfl, Nat.le_of_ble_eq_true rfl⟩) (pst_S hK hP hD [17, 6] rfl (by decide)) rfl rfl hl.1 rfl (lv_room (Nat.le_of_ble_eq_true rfl)) dX2_copyFrom_71 ⟨Nat.zero_le _, Nat.zero_le _⟩) hP hD hS hA [17, 6] [0, 1, 2, 3, 4, 5, 7, 8, 9, 10, 11, 12, 13, 14, 15, 16, 18, 19, 20, 21] [0, 1, 2, 3, 4, 5, 21, 6, 7, 8, 9, 10, 11, 12, 13, 14, 15, 20, 16, 17, 18, 19] rfl rfl (by decide) (by decide) rfl (by decide) (fun H locs hP hD hS => ?_)
  obtain ⟨S_7, eS_7⟩ : ∃ z9, T_X2_copyFrom_7 Z S_6 = z9 := ⟨_, rfl⟩
  rw [eS_7] at hP hD
  refine lv_aload_n hx hb dX2_copyFrom_74 rfl (lv_at hl 1 rfl) ?_
  refine va_get (D := D) (ci := 2) (v := .ref (q2 6)) (C := RX2) (T := TX2) (N := 13) hx hb hts in_X2_copyFrom_RX2 hown hK.1 hP 11 rfl rfl 7 (by decide) (hts (.fieldLink RX2 34 "NineDancers$Ring" "likings" "[I") (by decide +kernel)) (fun _ h9 => h9) rfl dX2_copyFrom_75 ?_
  refine lv_aload_n hx hb dX2_copyFrom_78 rfl (lv_at hl 0 rfl) ?_
  refine va_get (D := D) (ci := 2) (v := .ref (q 6)) (C := RX2) (T := TX2) (N := 13) hx hb hts in_X2_copyFrom_RX2 hown hK.1 hP 0 rfl rfl 7 (by decide) (hts (.fieldLink RX2 34 "NineDancers$Ring" "likings" "[I") (by decide +kernel)) (fun _ h9 => h9) rfl dX2_copyFrom_79 ?_
  refine ck_vD (wr := [(r, .inr (2, fR q S_7)), (q 0, .inl (Y.1, 3, .inl (S_7 0))), (q 1, .inl (Y.1, 9, .inl (S_7 1))), (q 2, .inl (Y.1, 9, .inl (S_7 2))), (q 3, .inl (Y.1, 9, .inl (S_7 3))), (q 4, .inl (Y.1, 9, .inl (S_7 4))), (q 5, .inl (Y.1, 9, .inl (S_7 5))), (q 7, .inl (Y.1, 81, .inl (S_7 7))), (q 8, .inl (Y.1, 81, .inl (S_7 8))), (q 9, .inl (Y.1, 9, .inl (S_7 9))), (r2, .inr (2, fR q2 Z)), (q2 0, .inl (Y.1, 3, .inl (Z 0))), (q2 1, .inl (Y.1, 9, .inl (Z 1))), (q2 2, .inl (Y.1, 9, .inl (Z 2))), (q2 3, .inl (Y.1, 9, .inl (Z 3))), (q2 4, .inl (Y.1, 9, .inl (Z 4))), (q2 5, .inl (Y.1, 9, .inl (Z 5))), (q2 7, .inl (Y.1, 81, .inl (Z 7))), (q2 8, .inl (Y.1, 81, .inl (Z 8))), (q2 9, .inl (Y.1, 9, .inl (Z 9)))]) (ws' := wR Y r q (T_X2_copyFrom_8 Z S_7) ++ wR Y r2 q2 Z) (va_runS (As := [.ref (q2 6), .ref (q 6)]) (rest := []) ⟨hx, hb, hml, hown, hts⟩ (c_X2_copyRow l D Y H.size 81 (Z 6) (S_7 6) (q2 6) (q 6) (by decide)) (va_cwS 2 hts gX2_copyFrom_X2_copyRow rfl rfl rfl (by decide +kernel) ⟨Nat.le_of_ble_eq_true rfl, Nat.le_of_ble_eq_true rfl⟩) (pst_S hK hP hD [18, 7] rfl (by decide)) rfl rfl hl.1 rfl (lv_room (Nat.le_of_ble_eq_true rfl)) dX2_copyFrom_82 ⟨Nat.zero_le _, Nat.zero_le _⟩) hP hD hS hA [18, 7] [0, 1, 2, 3, 4, 5, 6, 8, 9, 10, 11, 12, 13, 14, 15, 16, 17, 19, 20, 21] [0, 1, 2, 3, 4, 5, 6, 21, 7, 8, 9, 10, 11, 12, 13, 14, 15, 16, 20, 17, 18, 19] rfl rfl (by decide) (by decide) rfl (by decide) (fun H locs hP hD hS => ?_)
  obtain ⟨S_8, eS_8⟩ : ∃ z9, T_X2_copyFrom_8 Z S_7 = z9 := ⟨_, rfl⟩
  rw [eS_8] at hP hD
  refine lv_aload_n hx hb dX2_copyFrom_85 rfl (lv_at hl 1 rfl) ?_
  refine va_get (D := D) (ci := 2) (v := .ref (q2 7)) (C := RX2) (T := TX2) (N := 13) hx hb hts in_X2_copyFrom_RX2 hown hK.1 hP 11 rfl rfl 8 (by decide) (hts (.fieldLink RX2 37 "NineDancers$Ring" "dances" "[I") (by decide +kernel)) (fun _ h9 => h9) rfl dX2_copyFrom_86 ?_
  refine lv_aload_n hx hb dX2_copyFrom_89 rfl (lv_at hl 0 rfl) ?_
  refine va_get (D := D) (ci := 2) (v := .ref (q 7)) (C := RX2) (T := TX2) (N := 13) hx hb hts in_X2_copyFrom_RX2 hown hK.1 hP 0 rfl rfl 8 (by decide) (hts (.fieldLink RX2 37 "NineDancers$Ring" "dances" "[I") (by decide +kernel)) (fun _ h9 => h9) rfl dX2_copyFrom_90 ?_
  refine ck_vD (wr := [(r, .inr (2, fR q S_8)), (q 0, .inl (Y.1, 3, .inl (S_8 0))), (q 1, .inl (Y.1, 9, .inl (S_8 1))), (q 2, .inl (Y.1, 9, .inl (S_8 2))), (q 3, .inl (Y.1, 9, .inl (S_8 3))), (q 4, .inl (Y.1, 9, .inl (S_8 4))), (q 5, .inl (Y.1, 9, .inl (S_8 5))), (q 6, .inl (Y.1, 81, .inl (S_8 6))), (q 8, .inl (Y.1, 81, .inl (S_8 8))), (q 9, .inl (Y.1, 9, .inl (S_8 9))), (r2, .inr (2, fR q2 Z)), (q2 0, .inl (Y.1, 3, .inl (Z 0))), (q2 1, .inl (Y.1, 9, .inl (Z 1))), (q2 2, .inl (Y.1, 9, .inl (Z 2))), (q2 3, .inl (Y.1, 9, .inl (Z 3))), (q2 4, .inl (Y.1, 9, .inl (Z 4))), (q2 5, .inl (Y.1, 9, .inl (Z 5))), (q2 6, .inl (Y.1, 81, .inl (Z 6))), (q2 8, .inl (Y.1, 81, .inl (Z 8))), (q2 9, .inl (Y.1, 9, .inl (Z 9)))]) (ws' := wR Y r q (T_X2_copyFrom_9 Z S_8) ++ wR Y r2 q2 Z) (va_runS (As := [.ref (q2 7), .ref (q 7)]) (rest := []) ⟨hx, hb, hml, hown, hts⟩ (c_X2_copyRow l D Y H.size 81 (Z 7) (S_8 7) (q2 7) (q 7) (by decide)) (va_cwS 2 hts gX2_copyFrom_X2_copyRow rfl rfl rfl (by decide +kernel) ⟨Nat.le_of_ble_eq_true rfl, Nat.le_of_ble_eq_true rfl⟩) (pst_S hK hP hD [19, 8] rfl (by decide)) rfl rfl hl.1 rfl (lv_room (Nat.le_of_ble_eq_true rfl)) dX2_copyFrom_93 ⟨Nat.zero_le _, Nat.zero_le _⟩) hP hD hS hA [19, 8] [0, 1, 2, 3, 4, 5, 6, 7, 9, 10, 11, 12, 13, 14, 15, 16, 17, 18, 20, 21] [0, 1, 2, 3, 4, 5, 6, 7, 21, 8, 9, 10, 11, 12, 13, 14, 15, 16, 17, 20, 18, 19] rfl rfl (by decide) (by decide) rfl (by decide) (fun H locs hP hD hS => ?_)
  obtain ⟨S_9, eS_9⟩ : ∃ z9, T_X2_copyFrom_9 Z S_8 = z9 := ⟨_, rfl⟩
  rw [eS_9] at hP hD
  refine lv_aload_n hx hb dX2_copyFrom_96 rfl (lv_at hl 1 rfl) ?_
  refine va_get (D := D) (ci := 2) (v := .ref (q2 8)) (C := RX2) (T := TX2) (N := 13) hx hb hts in_X2_copyFrom_RX2 hown hK.1 hP 11 rfl rfl 9 (by decide) (hts (.fieldLink RX2 40 "NineDancers$Ring" "lastDances" "[I") (by decide +kernel)) (fun _ h9 => h9) rfl dX2_copyFrom_97 ?_
  refine lv_aload_n hx hb dX2_copyFrom_100 rfl (lv_at hl 0 rfl) ?_
  refine va_get (D := D) (ci := 2) (v := .ref (q 8)) (C := RX2) (T := TX2) (N := 13) hx hb hts in_X2_copyFrom_RX2 hown hK.1 hP 0 rfl rfl 9 (by decide) (hts (.fieldLink RX2 40 "NineDancers$Ring" "lastDances" "[I") (by decide +kernel)) (fun _ h9 => h9) rfl dX2_copyFrom_101 ?_
  refine ck_vD (wr := [(r, .inr (2, fR q S_9)), (q 0, .inl (Y.1, 3, .inl (S_9 0))), (q 1, .inl (Y.1, 9, .inl (S_9 1))), (q 2, .inl (Y.1, 9, .inl (S_9 2))), (q 3, .inl (Y.1, 9, .inl (S_9 3))), (q 4, .inl (Y.1, 9, .inl (S_9 4))), (q 5, .inl (Y.1, 9, .inl (S_9 5))), (q 6, .inl (Y.1, 81, .inl (S_9 6))), (q 7, .inl (Y.1, 81, .inl (S_9 7))), (q 9, .inl (Y.1, 9, .inl (S_9 9))), (r2, .inr (2, fR q2 Z)), (q2 0, .inl (Y.1, 3, .inl (Z 0))), (q2 1, .inl (Y.1, 9, .inl (Z 1))), (q2 2, .inl (Y.1, 9, .inl (Z 2))), (q2 3, .inl (Y.1, 9, .inl (Z 3))), (q2 4, .inl (Y.1, 9, .inl (Z 4))), (q2 5, .inl (Y.1, 9, .inl (Z 5))), (q2 6, .inl (Y.1, 81, .inl (Z 6))), (q2 7, .inl (Y.1, 81, .inl (Z 7))), (q2 9, .inl (Y.1, 9, .inl (Z 9)))]) (ws' := wR Y r q (T_X2_copyFrom_10 Z S_9) ++ wR Y r2 q2 Z) (va_runS (As := [.ref (q2 8), .ref (q 8)]) (rest := []) ⟨hx, hb, hml, hown, hts⟩ (c_X2_copyRow l D Y H.size 81 (Z 8) (S_9 8) (q2 8) (q 8) (by decide)) (va_cwS 2 hts gX2_copyFrom_X2_copyRow rfl rfl rfl (by decide +kernel) ⟨Nat.le_of_ble_eq_true rfl, Nat.le_of_ble_eq_true rfl⟩) (pst_S hK hP hD [20, 9] rfl (by decide)) rfl rfl hl.1 rfl (lv_room (Nat.le_of_ble_eq_true rfl)) dX2_copyFrom_104 ⟨Nat.zero_le _, Nat.zero_le _⟩) hP hD hS hA [20, 9] [0, 1, 2, 3, 4, 5, 6, 7, 8, 10, 11, 12, 13, 14, 15, 16, 17, 18, 19, 21] [0, 1, 2, 3, 4, 5, 6, 7, 8, 21, 9, 10, 11, 12, 13, 14, 15, 16, 17, 18, 20, 19] rfl rfl (by decide) (by decide) rfl (by decide) (fun H locs hP hD hS => ?_)
  obtain ⟨S_10, eS_10⟩ : ∃ z9, T_X2_copyFrom_10 Z S_9 = z9 := ⟨_, rfl⟩
  rw [eS_10] at hP hD
  refine lv_aload_n hx hb dX2_copyFrom_107 rfl (lv_at hl 1 rfl) ?_
  refine va_get (D := D) (ci := 2) (v := .ref (q2 9)) (C := RX2) (T := TX2) (N := 13) hx hb hts in_X2_copyFrom_RX2 hown hK.1 hP 11 rfl rfl 10 (by decide) (hts (.fieldLink RX2 43 "NineDancers$Ring" "timesTold" "[I") (by decide +kernel)) (fun _ h9 => h9) rfl dX2_copyFrom_108 ?_
  refine lv_aload_n hx hb dX2_copyFrom_111 rfl (lv_at hl 0 rfl) ?_
  refine va_get (D := D) (ci := 2) (v := .ref (q 9)) (C := RX2) (T := TX2) (N := 13) hx hb hts in_X2_copyFrom_RX2 hown hK.1 hP 0 rfl rfl 10 (by decide) (hts (.fieldLink RX2 43 "NineDancers$Ring" "timesTold" "[I") (by decide +kernel)) (fun _ h9 => h9) rfl dX2_copyFrom_112 ?_
  refine ck_vD (wr := [(r, .inr (2, fR q S_10)), (q 0, .inl (Y.1, 3, .inl (S_10 0))), (q 1, .inl (Y.1, 9, .inl (S_10 1))), (q 2, .inl (Y.1, 9, .inl (S_10 2))), (q 3, .inl (Y.1, 9, .inl (S_10 3))), (q 4, .inl (Y.1, 9, .inl (S_10 4))), (q 5, .inl (Y.1, 9, .inl (S_10 5))), (q 6, .inl (Y.1, 81, .inl (S_10 6))), (q 7, .inl (Y.1, 81, .inl (S_10 7))), (q 8, .inl (Y.1, 81, .inl (S_10 8))), (r2, .inr (2, fR q2 Z)), (q2 0, .inl (Y.1, 3, .inl (Z 0))), (q2 1, .inl (Y.1, 9, .inl (Z 1))), (q2 2, .inl (Y.1, 9, .inl (Z 2))), (q2 3, .inl (Y.1, 9, .inl (Z 3))), (q2 4, .inl (Y.1, 9, .inl (Z 4))), (q2 5, .inl (Y.1, 9, .inl (Z 5))), (q2 6, .inl (Y.1, 81, .inl (Z 6))), (q2 7, .inl (Y.1, 81, .inl (Z 7))), (q2 8, .inl (Y.1, 81, .inl (Z 8)))]) (ws' := wR Y r q (T_X2_copyFrom_11 Z S_10) ++ wR Y r2 q2 Z) (va_runS (As := [.ref (q2 9), .ref (q 9)]) (rest := []) ⟨hx, hb, hml, hown, hts⟩ (c_X2_copyRow l D Y H.size 9 (Z 9) (S_10 9) (q2 9) (q 9) (by decide)) (va_cwS 2 hts gX2_copyFrom_X2_copyRow rfl rfl rfl (by decide +kernel) ⟨Nat.le_of_ble_eq_true rfl, Nat.le_of_ble_eq_true rfl⟩) (pst_S hK hP hD [21, 10] rfl (by decide)) rfl rfl hl.1 rfl (lv_room (Nat.le_of_ble_eq_true rfl)) dX2_copyFrom_115 ⟨Nat.zero_le _, Nat.zero_le _⟩) hP hD hS hA [21, 10] [0, 1, 2, 3, 4, 5, 6, 7, 8, 9, 11, 12, 13, 14, 15, 16, 17, 18, 19, 20] [0, 1, 2, 3, 4, 5, 6, 7, 8, 9, 21, 10, 11, 12, 13, 14, 15, 16, 17, 18, 19, 20] rfl rfl (by decide) (by decide) rfl (by decide) (fun H locs hP hD hS => ?_)
  obtain ⟨S_11, eS_11⟩ : ∃ z9, T_X2_copyFrom_11 Z S_10 = z9 := ⟨_, rfl⟩
  rw [eS_11] at hP hD
  refine lv_aload_n hx hb dX2_copyFrom_118 rfl (lv_at hl 0 rfl) ?_
  refine lv_aload_n hx hb dX2_copyFrom_119 rfl (lv_at hl 1 rfl) ?_
  refine va_get (D := D) (ci := 2) (v := .int (Z 10 1)) (C := RX2) (T := TX2) (N := 13) hx hb hts in_X2_copyFrom_RX2 hown hK.1 hP 11 rfl rfl 11 (by decide) (hts (.fieldLink RX2 46 "NineDancers$Ring" "rounds" "I") (by decide +kernel)) (fun _ h9 => h9) rfl dX2_copyFrom_120 ?_
  refine va_put (D := D) (ci := 2) (v := .int (Z 10 1)) (ty := .int) (C := RX2) (T := TX2) (N := 13) hx hb hts in_X2_copyFrom_RX2 tyX2 tyX2_ok nmX2 hown hK.1 hP hD hS 0 rfl rfl 11 (by decide) (hts (.fieldLink RX2 46 "NineDancers$Ring" "rounds" "I") (by decide +kernel)) (fun _ h9 => h9) rfl (by decide +kernel) rfl rfl (Nat.le_of_ble_eq_true rfl) dX2_copyFrom_123 (fun H locs hP hD hS => ?_)
  have hP : va_P D vwCl (wR Y r q (T_X2_copyFrom_12 Z S_11) ++ wR Y r2 q2 Z) H := hP
  have hD : va_D A (wR Y r q (T_X2_copyFrom_12 Z S_11) ++ wR Y r2 q2 Z) := hD
  obtain ⟨S_12, eS_12⟩ : ∃ z9, T_X2_copyFrom_12 Z S_11 = z9 := ⟨_, rfl⟩
  rw [eS_12] at hP hD
  refine lv_aload_n hx hb dX2_copyFrom_126 rfl (lv_at hl 0 rfl) ?_
  refine lv_aload_n hx hb dX2_copyFrom_127 rfl (lv_at hl 1 rfl) ?_
  refine va_get (D := D) (ci := 2) (v := .int (Z 10 2)) (C := RX2) (T := TX2) (N := 13) hx hb hts in_X2_copyFrom_RX2 hown hK.1 hP 11 rfl rfl 12 (by decide) (hts (.fieldLink RX2 50 "NineDancers$Ring" "lastNumber" "I") (by decide +kernel)) (fun _ h9 => h9) rfl dX2_copyFrom_128 ?_
  refine va_put (D := D) (ci := 2) (v := .int (Z 10 2)) (ty := .int) (C := RX2) (T := TX2) (N := 13) hx hb hts in_X2_copyFrom_RX2 tyX2 tyX2_ok nmX2 hown hK.1 hP hD hS 0 rfl rfl 12 (by decide) (hts (.fieldLink RX2 50 "NineDancers$Ring" "lastNumber" "I") (by decide +kernel)) (fun _ h9 => h9) rfl (by decide +kernel) rfl rfl (Nat.le_of_ble_eq_true rfl) dX2_copyFrom_131 (fun H locs hP hD hS => ?_)
  have hP : va_P D vwCl (wR Y r q (T_X2_copyFrom_13 Z S_12) ++ wR Y r2 q2 Z) H := hP
  have hD : va_D A (wR Y r q (T_X2_copyFrom_13 Z S_12) ++ wR Y r2 q2 Z) := hD
  obtain ⟨S_13, eS_13⟩ : ∃ z9, T_X2_copyFrom_13 Z S_12 = z9 := ⟨_, rfl⟩
  rw [eS_13] at hP hD
  subst eS_13
  subst eS_12
  subst eS_11
  subst eS_10
  subst eS_9
  subst eS_8
  subst eS_7
  subst eS_6
  subst eS_5
  subst eS_4
  subst eS_3
  subst eS_2
  subst eS_1
  have e9 : D_X2_copyFrom S Z = (T_X2_copyFrom_13 Z (T_X2_copyFrom_12 Z (T_X2_copyFrom_11 Z (T_X2_copyFrom_10 Z (T_X2_copyFrom_9 Z (T_X2_copyFrom_8 Z (T_X2_copyFrom_7 Z (T_X2_copyFrom_6 Z (T_X2_copyFrom_5 Z (T_X2_copyFrom_4 Z (T_X2_copyFrom_3 Z (T_X2_copyFrom_2 Z (T_X2_copyFrom_1 S Z))))))))))))) := by rw [D_X2_copyFrom]
  exact ret_v hx hb hr hlk hP hD hS dX2_copyFrom_134 ⟨Nat.zero_le _, Nat.zero_le _⟩ (by rw [e9])
def L_X3_sumOf_10 (n : Nat) (f : Nat → Int32) : Nat → (Int32) → (Int32) → (Int32)
  | 0, i, u => u
  | n_10 + 1, i, u => if (nI n) ≤ i then u else (L_X3_sumOf_10 n f n_10 (i + 1) (u + (f i.toNatClampNeg)))
def D_X3_sumOf (n : Nat) (f : Nat → Int32)  : (Int32) := (L_X3_sumOf_10 n f (n + 1) 0 0)
set_option maxHeartbeats 4000000 in
set_option maxRecDepth 100000 in
theorem c_X3_sumOf (l : Launch) (D : va_G) (Y : YY) (sz : Nat) (n : Nat) (f : Nat → Int32) (a : Nat) (hn : n < 2 ^ 31) : Met l yX3_sumOf wsX3_sumOf ({ frames := 0, cells := 0, slots := 0, locals := 0 } : Room) (va_Pc [.ref a] (Pst D Y sz (wI Y a n f))) ((fun A : Nat → Prop => Qsi D (fun r9 w9 => r9 = D_X3_sumOf n f ∧ w9 = wI Y a n f) A) (va_A (wI Y a n f) sz)) 0 0 (va_A (wI Y a n f) sz) := by
  refine ct_in (cc := cX3_sumOf) (maxL := 6) (ret := (some .int)) (Qc := fun A : Nat → Prop => Qsi D (fun r9 w9 => r9 = D_X3_sumOf n f ∧ w9 = wI Y a n f) A) (by decide +kernel) rfl (Nat.le_of_ble_eq_true rfl) ?_
  intro p e s m below meth c A ls hx hb hr hts hown hml hlk hin hsz hA hP hD hK hS hl
  have hown : s.vm.findClass RX3 = some m.cls := hown
  have hl : lv_has ls 6 [(0, .ref a)] := hl
  show W p l e ({ frames := 0, cells := 0, slots := 0, locals := 0 } : Room) s m ([.ref a] : List Value).toArray below meth c s.heap [] 0 0 (MQ below (Qsi D (fun r9 w9 => r9 = D_X3_sumOf n f ∧ w9 = wI Y a n f) A) ([.ref a] : List Value).toArray s 0 0 A) (F0 m 0 ls [])
  refine lv_iconst (v := 0) hx hb dX3_sumOf_0 (by decide) ?_
  refine lv_istore_n (lv' := [(1, .int 0), (0, .ref a)]) hx hb dX3_sumOf_1 rfl hl (by decide) rfl (fun ls hl => ?_)
  refine lv_aload_n hx hb dX3_sumOf_2 rfl (lv_at hl 1 rfl) ?_
  refine lv_astore_n (lv' := [(2, .ref a), (1, .int 0), (0, .ref a)]) hx hb dX3_sumOf_3 rfl hl (by decide) rfl (fun ls hl => ?_)
  refine lv_aload_n hx hb dX3_sumOf_4 rfl (lv_at hl 0 rfl) ?_
  refine va_alen (D := D) hx hb hK.1 hP 0 0 rfl rfl (v := nI n) rfl dX3_sumOf_5 ?_
  refine lv_istore_n (lv' := [(3, .int (nI n)), (2, .ref a), (1, .int 0), (0, .ref a)]) hx hb dX3_sumOf_6 rfl hl (by decide) rfl (fun ls hl => ?_)
  refine lv_iconst (v := 0) hx hb dX3_sumOf_7 (by decide) ?_
  refine lv_istore (lv' := [(4, .int 0), (3, .int (nI n)), (2, .ref a), (1, .int 0), (0, .ref a)]) hx hb dX3_sumOf_8 hl (by decide) rfl (fun ls hl => ?_)
  have loop_10 : ∀ (n_10 k_10 : Nat) (i : Int32) (u : Int32) (H : Heap) (locs : List Loc) (ls : Array Slot), n + 1 ≤ k_10 + n_10 → k_10 ≤ n → i = nI k_10 → va_P D vwCl (wI Y a n f) H → va_D A (wI Y a n f) → va_S A s.heap H locs → lv_has ls 6 [(4, .int i), (3, .int (nI n)), (2, .ref a), (1, .int u), (0, .ref a)] → L_X3_sumOf_10 n f n_10 i u = L_X3_sumOf_10 n f (n + 1) 0 0 → W p l e ({ frames := 0, cells := 0, slots := 0, locals := 0 } : Room) s m ([.ref a] : List Value).toArray below meth c H locs 0 0 (MQ below (Qsi D (fun r9 w9 => r9 = D_X3_sumOf n f ∧ w9 = wI Y a n f) A) ([.ref a] : List Value).toArray s 0 0 A) (F0 m 10 ls []) := by
    intro n_10
    induction n_10 with
    | zero => intro k_10 i u H locs ls hkf hkN_10 ex_10 hP hD hS hl hR_10; exact absurd hkf (by omega)
    | succ n_10 ih_10 =>
      intro k_10 i u H locs ls hkf hkN_10 ex_10 hP hD hS hl hR_10
      refine lv_iload hx hb dX3_sumOf_10 (lv_at hl 0 rfl) ?_
      refine lv_iload_n hx hb dX3_sumOf_12 rfl (lv_at hl 1 rfl) ?_
      refine lv_icmp_ge (tgt := 33) hx hb dX3_sumOf_13 (by decide) (fun c_1 => ?_) (fun c_1 => ?_)
      · have e8 : L_X3_sumOf_10 n f (n_10 + 1) i u = u := by rw [L_X3_sumOf_10, if_pos c_1]
        have e8 := hR_10.symm.trans e8
        have eu : L_X3_sumOf_10 n f (n + 1) 0 0 = u := by rw [e8]
        clear e8 hR_10 ih_10
        refine lv_iload_n hx hb dX3_sumOf_33 rfl (lv_at hl 3 rfl) ?_
        subst eu
        have e9 : D_X3_sumOf n f = (L_X3_sumOf_10 n f (n + 1) 0 0) := by rw [D_X3_sumOf]
        exact ret_i hx hb hr hlk hP hD hS dX3_sumOf_34 ⟨Nat.zero_le _, Nat.zero_le _⟩ ⟨e9.symm, rfl⟩
      · have hk_10 := my_lt ex_10 (show (nI n : Int32) = nI n from rfl) (by omega) hkN_10 c_1
        refine lv_aload_n hx hb dX3_sumOf_16 rfl (lv_at hl 2 rfl) ?_
        refine lv_iload hx hb dX3_sumOf_17 (lv_at hl 0 rfl) ?_
        refine va_iald (D := D) hx hb hK.1 hP 0 0 rfl rfl (by rw [ex_10]; exact vp_in_nI hk_10 (by omega)) dX3_sumOf_19 ?_
        refine lv_istore (lv' := [(5, .int (f i.toNatClampNeg)), (4, .int i), (3, .int (nI n)), (2, .ref a), (1, .int u), (0, .ref a)]) hx hb dX3_sumOf_20 hl (by decide) rfl (fun ls hl => ?_)
        refine lv_iload_n hx hb dX3_sumOf_22 rfl (lv_at hl 4 rfl) ?_
        refine lv_iload hx hb dX3_sumOf_23 (lv_at hl 0 rfl) ?_
        refine lv_iadd hx hb dX3_sumOf_25 ?_
        refine lv_istore_n (lv' := [(1, .int (u + (f i.toNatClampNeg))), (5, .int (f i.toNatClampNeg)), (4, .int i), (3, .int (nI n)), (2, .ref a), (0, .ref a)]) hx hb dX3_sumOf_26 rfl hl (by decide) rfl (fun ls hl => ?_)
        refine lv_iinc (v := i + 1) (lv' := [(4, .int (i + 1)), (1, .int (u + (f i.toNatClampNeg))), (5, .int (f i.toNatClampNeg)), (3, .int (nI n)), (2, .ref a), (0, .ref a)]) hx hb dX3_sumOf_27 hl (k := 2) rfl rfl (by decide) rfl (fun ls hl => ?_)
        refine lv_goto (tgt := 10) hx hb dX3_sumOf_30 (by decide) ?_
        exact ih_10 (k_10 + 1) (i + 1) (u + (f i.toNatClampNeg)) _ _ _ (by omega) (by omega) (by rw [ex_10]; exact nI_1 k_10)  hP hD hS (lv_sub hl [0, 3, 4, 1, 5] rfl) (by rw [L_X3_sumOf_10, if_neg c_1] at hR_10; exact hR_10)
  exact loop_10 (n + 1) 0 0 0 _ _ _ (by omega) (Nat.zero_le _) nI_0.symm  hP hD hS (lv_sub hl [0, 1, 2, 3, 4] rfl) rfl
def V_X3_charactersIn_1 (lf : Int64) : Int64 := (lf.toUInt64 >>> ((8 : Int32).toInt64.toUInt64 &&& Int64.toUInt64 63)).toInt64
def L_X3_charactersIn_5 (ch : Int64) : Nat → (Int32) → (Int64) → (Int32)
  | 0, i, lf => 0
  | n_5 + 1, i, lf => if (lg_cmp lf 0) = 0 then i else (if 8 ≤ i then i else (if (lg_cmp (lf &&& 255) 33) < 0 then 0 else (if (lg_cmp (lf &&& 255) 126) ≤ 0 then (L_X3_charactersIn_5 ch n_5 (i + 1) (V_X3_charactersIn_1 lf)) else 0)))
def D_X3_charactersIn  (ch : Int64) : (Int32) := L_X3_charactersIn_5 ch 9 0 ch
set_option maxHeartbeats 4000000 in
set_option maxRecDepth 100000 in
theorem c_X3_charactersIn (l : Launch) (D : va_G) (Y : YY) (sz : Nat) (ch : Int64) : Met l yX3_charactersIn wsX3_charactersIn ({ frames := 0, cells := 0, slots := 0, locals := 0 } : Room) (va_Pc [.long ch] (Pst D Y sz (([] : va_W)))) ((fun A : Nat → Prop => Qsi D (fun r9 w9 => r9 = D_X3_charactersIn ch ∧ w9 = ([] : va_W)) A) (va_A (([] : va_W)) sz)) 0 0 (va_A (([] : va_W)) sz) := by
  refine ct_in (cc := cX3_charactersIn) (maxL := 7) (ret := (some .int)) (Qc := fun A : Nat → Prop => Qsi D (fun r9 w9 => r9 = D_X3_charactersIn ch ∧ w9 = ([] : va_W)) A) (by decide +kernel) rfl (Nat.le_of_ble_eq_true rfl) ?_
  intro p e s m below meth c A ls hx hb hr hts hown hml hlk hin hsz hA hP hD hK hS hl
  have hown : s.vm.findClass RX3 = some m.cls := hown
  have hl : lv_has ls 7 [(0, .long ch)] := hl
  show W p l e ({ frames := 0, cells := 0, slots := 0, locals := 0 } : Room) s m ([.long ch] : List Value).toArray below meth c s.heap [] 0 0 (MQ below (Qsi D (fun r9 w9 => r9 = D_X3_charactersIn ch ∧ w9 = ([] : va_W)) A) ([.long ch] : List Value).toArray s 0 0 A) (F0 m 0 ls [])
  refine lv_lload_n hx hb dX3_charactersIn_0 rfl (lv_at hl 0 rfl) ?_
  refine lv_lstore_n (lv' := [(2, .long ch), (0, .long ch)]) hx hb dX3_charactersIn_1 rfl hl (by decide) rfl (fun ls hl => ?_)
  refine lv_iconst (v := 0) hx hb dX3_charactersIn_2 (by decide) ?_
  refine lv_istore (lv' := [(4, .int 0), (2, .long ch), (0, .long ch)]) hx hb dX3_charactersIn_3 hl (by decide) rfl (fun ls hl => ?_)
  have loop_5 : ∀ (n_5 k_5 : Nat) (i : Int32) (lf : Int64) (H : Heap) (locs : List Loc) (ls : Array Slot), 9 ≤ k_5 + n_5 → k_5 ≤ 8 → i = nI k_5 → va_P D vwCl (([] : va_W)) H → va_D A (([] : va_W)) → va_S A s.heap H locs → lv_has ls 7 [(4, .int i), (2, .long lf), (0, .long ch)] → L_X3_charactersIn_5 ch n_5 i lf = D_X3_charactersIn ch → W p l e ({ frames := 0, cells := 0, slots := 0, locals := 0 } : Room) s m ([.long ch] : List Value).toArray below meth c H locs 0 0 (MQ below (Qsi D (fun r9 w9 => r9 = D_X3_charactersIn ch ∧ w9 = ([] : va_W)) A) ([.long ch] : List Value).toArray s 0 0 A) (F0 m 5 ls []) := by
    intro n_5
    induction n_5 with
    | zero => intro k_5 i lf H locs ls hkf hkN_5 ex_5 hP hD hS hl hR_5; exact absurd hkf (by omega)
    | succ n_5 ih_5 =>
      intro k_5 i lf H locs ls hkf hkN_5 ex_5 hP hD hS hl hR_5
      refine lv_lload_n hx hb dX3_charactersIn_5 rfl (lv_at hl 1 rfl) ?_
      refine lv_lconst (v := 0) hx hb dX3_charactersIn_6 (by decide) ?_
      refine W.lcmp hx hb dX3_charactersIn_7 ?_
      refine lv_if_eq (tgt := 56) hx hb dX3_charactersIn_8 (by decide) (fun c_1 => ?_) (fun c_1 => ?_)
      · refine lv_iload hx hb dX3_charactersIn_56 (lv_at hl 0 rfl) ?_
        have e9 : L_X3_charactersIn_5 ch (n_5 + 1) i lf = i := by rw [L_X3_charactersIn_5, if_pos c_1]
        have e9 := hR_5.symm.trans e9
        exact ret_i hx hb hr hlk hP hD hS dX3_charactersIn_58 ⟨Nat.zero_le _, Nat.zero_le _⟩ ⟨e9.symm, rfl⟩
      · refine lv_iload hx hb dX3_charactersIn_11 (lv_at hl 0 rfl) ?_
        refine lv_bipush (v := 8) hx hb dX3_charactersIn_13 (by decide) ?_
        refine lv_icmp_ge (tgt := 56) hx hb dX3_charactersIn_15 (by decide) (fun c_2 => ?_) (fun c_2 => ?_)
        · refine lv_iload hx hb dX3_charactersIn_56 (lv_at hl 0 rfl) ?_
          have e9 : L_X3_charactersIn_5 ch (n_5 + 1) i lf = i := by rw [L_X3_charactersIn_5, if_neg c_1, if_pos c_2]
          have e9 := hR_5.symm.trans e9
          exact ret_i hx hb hr hlk hP hD hS dX3_charactersIn_58 ⟨Nat.zero_le _, Nat.zero_le _⟩ ⟨e9.symm, rfl⟩
        · have hk_5 := my_lt ex_5 (show (8 : Int32) = nI 8 from rfl) (by decide) hkN_5 c_2
          refine lv_lload_n hx hb dX3_charactersIn_18 rfl (lv_at hl 1 rfl) ?_
          refine lv_ldc2 (v := 255) hx hb hown (hts (.constantLong RX3 178 (255)) (by decide +kernel)) dX3_charactersIn_19 ?_
          refine lv_land hx hb dX3_charactersIn_22 ?_
          refine lv_lstore (lv' := [(5, .long (lf &&& 255)), (4, .int i), (2, .long lf), (0, .long ch)]) hx hb dX3_charactersIn_23 hl (by decide) rfl (fun ls hl => ?_)
          refine lv_lload hx hb dX3_charactersIn_25 (lv_at hl 0 rfl) ?_
          refine lv_ldc2 (v := 33) hx hb hown (hts (.constantLong RX3 180 (33)) (by decide +kernel)) dX3_charactersIn_27 ?_
          refine W.lcmp hx hb dX3_charactersIn_30 ?_
          refine lv_if_lt (tgt := 43) hx hb dX3_charactersIn_31 (by decide) (fun c_3 => ?_) (fun c_3 => ?_)
          · refine lv_iconst (v := 0) hx hb dX3_charactersIn_43 (by decide) ?_
            have e9 : L_X3_charactersIn_5 ch (n_5 + 1) i lf = 0 := by rw [L_X3_charactersIn_5, if_neg c_1, if_neg c_2, if_pos c_3]
            have e9 := hR_5.symm.trans e9
            exact ret_i hx hb hr hlk hP hD hS dX3_charactersIn_44 ⟨Nat.zero_le _, Nat.zero_le _⟩ ⟨e9.symm, rfl⟩
          · refine lv_lload hx hb dX3_charactersIn_34 (lv_at hl 0 rfl) ?_
            refine lv_ldc2 (v := 126) hx hb hown (hts (.constantLong RX3 182 (126)) (by decide +kernel)) dX3_charactersIn_36 ?_
            refine W.lcmp hx hb dX3_charactersIn_39 ?_
            refine lv_if_le (tgt := 45) hx hb dX3_charactersIn_40 (by decide) (fun c_4 => ?_) (fun c_4 => ?_)
            · refine lv_lload_n hx hb dX3_charactersIn_45 rfl (lv_at hl 2 rfl) ?_
              refine lv_bipush (v := 8) hx hb dX3_charactersIn_46 (by decide) ?_
              refine lv_lushr (v := (lf.toUInt64 >>> ((8 : Int32).toInt64.toUInt64 &&& Int64.toUInt64 63)).toInt64) hx hb dX3_charactersIn_48 rfl ?_
              refine lv_lstore_n (lv' := [(2, .long (V_X3_charactersIn_1 lf)), (5, .long (lf &&& 255)), (4, .int i), (0, .long ch)]) hx hb dX3_charactersIn_49 rfl hl (by decide) rfl (fun ls hl => ?_)
              refine lv_iinc (v := i + 1) (lv' := [(4, .int (i + 1)), (2, .long (V_X3_charactersIn_1 lf)), (5, .long (lf &&& 255)), (0, .long ch)]) hx hb dX3_charactersIn_50 hl (k := 2) rfl rfl (by decide) rfl (fun ls hl => ?_)
              refine lv_goto (tgt := 5) hx hb dX3_charactersIn_53 (by decide) ?_
              exact ih_5 (k_5 + 1) (i + 1) (V_X3_charactersIn_1 lf) _ _ _ (by omega) (by omega) (by rw [ex_5]; exact nI_1 k_5)  hP hD hS (lv_sub hl [0, 1, 3] rfl) (by rw [L_X3_charactersIn_5, if_neg c_1, if_neg c_2, if_neg c_3, if_pos c_4] at hR_5; exact hR_5)
            · refine lv_iconst (v := 0) hx hb dX3_charactersIn_43 (by decide) ?_
              have e9 : L_X3_charactersIn_5 ch (n_5 + 1) i lf = 0 := by rw [L_X3_charactersIn_5, if_neg c_1, if_neg c_2, if_neg c_3, if_neg c_4]
              have e9 := hR_5.symm.trans e9
              exact ret_i hx hb hr hlk hP hD hS dX3_charactersIn_44 ⟨Nat.zero_le _, Nat.zero_le _⟩ ⟨e9.symm, rfl⟩
  exact loop_5 9 0 0 ch _ _ _ (by omega) (Nat.zero_le _) nI_0.symm  hP hD hS (lv_sub hl [0, 1, 2] rfl) (by rw [D_X3_charactersIn])
end
section
def D_X3_villager (S : Nat → Nat → Int32) (v : Int32) (w : Int32) : (Int32) := if (D_X3_isVillager v) = 0 then (-1000001) else (if w = 0 then (if (D_X2_isThere S v) = 0 then 0 else 1) else (if w = 1 then (S 1 v.toNatClampNeg) else (if w = 2 then (S 2 v.toNatClampNeg) else (if w = 3 then (S 3 v.toNatClampNeg) else (if w = 4 then (S 4 v.toNatClampNeg) else (if w = 5 then (S 5 v.toNatClampNeg) else (if w = 6 then (D_X2_dancedWith S v) else (if w = 7 then (D_X2_mostFrequentPartner S v) else (-1000002)))))))))
set_option maxRecDepth 100000 in
theorem in_X3_villager_RX2 : ∀ w ∈ u_ws RX2 TX2 13, w ∈ wsX3_villager := by decide +kernel
set_option maxRecDepth 100000 in
theorem in_X3_villager_RX3 : ∀ w ∈ u_ws RX3 TX3 5, w ∈ wsX3_villager := by decide +kernel
set_option maxHeartbeats 4000000 in
set_option maxRecDepth 100000 in
theorem c_X3_villager (l : Launch) (D : va_G) (Y : YY) (sz : Nat) (r : Nat) (tr : Nat) (pp : Nat) (h : Nat) (sl : Nat) (q : Nat → Nat) (S : Nat → Nat → Int32) (x : Nat) (v : Int32) (w : Int32) : Met l yX3_villager wsX3_villager ({ frames := 2, cells := 0, slots := 0, locals := 46 } : Room) (va_Pc [.ref x, .int v, .int w] (Pst D Y sz (wX x r tr pp h sl ++ wR Y r q S))) ((fun A : Nat → Prop => Qsi D (fun r9 w9 => r9 = D_X3_villager S v w ∧ w9 = wX x r tr pp h sl ++ wR Y r q S) A) (va_A (wX x r tr pp h sl ++ wR Y r q S) sz)) 0 0 (va_A (wX x r tr pp h sl ++ wR Y r q S) sz) := by
  refine ct_in (cc := cX3_villager) (maxL := 3) (ret := (some .int)) (Qc := fun A : Nat → Prop => Qsi D (fun r9 w9 => r9 = D_X3_villager S v w ∧ w9 = wX x r tr pp h sl ++ wR Y r q S) A) (by decide +kernel) rfl (Nat.le_of_ble_eq_true rfl) ?_
  intro p e s m below meth c A ls hx hb hr hts hown hml hlk hin hsz hA hP hD hK hS hl
  have hown : s.vm.findClass RX3 = some m.cls := hown
  have hl : lv_has ls 3 [(0, .ref x), (1, .int v), (2, .int w)] := hl
  show W p l e ({ frames := 2, cells := 0, slots := 0, locals := 46 } : Room) s m ([.ref x, .int v, .int w] : List Value).toArray below meth c s.heap [] 0 0 (MQ below (Qsi D (fun r9 w9 => r9 = D_X3_villager S v w ∧ w9 = wX x r tr pp h sl ++ wR Y r q S) A) ([.ref x, .int v, .int w] : List Value).toArray s 0 0 A) (F0 m 0 ls [])
  refine lv_iload_n hx hb dX3_villager_0 rfl (lv_at hl 1 rfl) ?_
  refine ck_iD (wr := wX x r tr pp h sl ++ wR Y r q S) (ws' := wX x r tr pp h sl ++ wR Y r q S) (va_runS (As := [.int v]) (rest := []) ⟨hx, hb, hml, hown, hts⟩ (c_X3_isVillager l D Y s.heap.size v) (va_cwS 1 hts gX3_villager_X3_isVillager rfl rfl rfl (by decide +kernel) ⟨Nat.le_of_ble_eq_true rfl, Nat.le_of_ble_eq_true rfl⟩) (pst_S hK hP hD [] rfl (by decide)) rfl rfl hl.1 rfl (lv_room (Nat.le_of_ble_eq_true rfl)) dX3_villager_1 ⟨Nat.zero_le _, Nat.zero_le _⟩) hP hD hS hA [] [0, 1, 2, 3, 4, 5, 6, 7, 8, 9, 10, 11] [0, 1, 2, 3, 4, 5, 6, 7, 8, 9, 10, 11] rfl rfl (by decide) (by decide) rfl (by decide) (fun H locs hP hD hS => ?_)
  refine lv_if_ne (tgt := 10) hx hb dX3_villager_4 (by decide) (fun c_1 => ?_) (fun c_1 => ?_)
  · refine lv_iload_n hx hb dX3_villager_10 rfl (lv_at hl 2 rfl) ?_
    rcases Decidable.em (w = 0) with c_2 | c_2
    · refine lv_tableIn (off := 45) (tgt := 56) hx hb dX3_villager_11 (by rw [c_2]; decide) (by rw [c_2]; decide) (by rw [c_2]; rfl) (by decide) ?_
      refine lv_aload_n hx hb dX3_villager_56 rfl (lv_at hl 0 rfl) ?_
      refine va_get (D := D) (ci := 3) (v := .ref r) (C := RX3) (T := TX3) (N := 5) hx hb hts in_X3_villager_RX3 hown hK.1 hP 0 rfl rfl 0 (by decide) (hts (.fieldLink RX3 12 "NineDancers" "ring" "LNineDancers$Ring;") (by decide +kernel)) (fun _ h9 => h9) rfl dX3_villager_57 ?_
      refine lv_iload_n hx hb dX3_villager_60 rfl (lv_at hl 1 rfl) ?_
      refine ck_iD (wr := wX x r tr pp h sl) (ws' := wX x r tr pp h sl ++ wR Y r q S) (va_runV (As := [.int v]) (rest := []) ⟨hx, hb, hml, hown, hts⟩ (c_X2_isThere l D Y H.size q S r v) (cwV 1 hts gX3_villager_X2_isThere rfl rfl rfl (by decide +kernel) ⟨Nat.le_of_ble_eq_true rfl, Nat.le_of_ble_eq_true rfl⟩) (pst_V hK hP hD [1, 2, 3, 4, 5, 6, 7, 8, 9, 10, 11] rfl (by decide) (q0 := 0) rfl rfl) rfl rfl hl.1 rfl (lv_room (Nat.le_of_ble_eq_true rfl)) dX3_villager_61 ⟨Nat.zero_le _, Nat.zero_le _⟩) hP hD hS hA [1, 2, 3, 4, 5, 6, 7, 8, 9, 10, 11] [0] [0, 1, 2, 3, 4, 5, 6, 7, 8, 9, 10, 11] rfl rfl (by decide) (by decide) rfl (by decide) (fun H locs hP hD hS => ?_)
      refine lv_if_eq (tgt := 71) hx hb dX3_villager_64 (by decide) (fun c_3 => ?_) (fun c_3 => ?_)
      · refine lv_iconst (v := 0) hx hb dX3_villager_71 (by decide) ?_
        have e9 : D_X3_villager S v w = 0 := by rw [D_X3_villager, if_neg c_1, if_pos c_2, if_pos c_3]
        exact ret_i hx hb hr hlk hP hD hS dX3_villager_72 ⟨Nat.zero_le _, Nat.zero_le _⟩ ⟨e9.symm, rfl⟩
      · refine lv_iconst (v := 1) hx hb dX3_villager_67 (by decide) ?_
        refine lv_goto (tgt := 72) hx hb dX3_villager_68 (by decide) ?_
        have e9 : D_X3_villager S v w = 1 := by rw [D_X3_villager, if_neg c_1, if_pos c_2, if_neg c_3]
        exact ret_i hx hb hr hlk hP hD hS dX3_villager_72 ⟨Nat.zero_le _, Nat.zero_le _⟩ ⟨e9.symm, rfl⟩
    rcases Decidable.em (w = 1) with c_4 | c_4
    · refine lv_tableIn (off := 62) (tgt := 73) hx hb dX3_villager_11 (by rw [c_4]; decide) (by rw [c_4]; decide) (by rw [c_4]; rfl) (by decide) ?_
      refine lv_aload_n hx hb dX3_villager_73 rfl (lv_at hl 0 rfl) ?_
      refine va_get (D := D) (ci := 3) (v := .ref r) (C := RX3) (T := TX3) (N := 5) hx hb hts in_X3_villager_RX3 hown hK.1 hP 0 rfl rfl 0 (by decide) (hts (.fieldLink RX3 12 "NineDancers" "ring" "LNineDancers$Ring;") (by decide +kernel)) (fun _ h9 => h9) rfl dX3_villager_74 ?_
      refine va_get (D := D) (ci := 2) (v := .ref (q 1)) (C := RX2) (T := TX2) (N := 13) hx hb hts in_X3_villager_RX2 hown hK.1 hP 1 rfl rfl 2 (by decide) (hts (.fieldLink RX3 97 "NineDancers$Ring" "strengths" "[I") (by decide +kernel)) (fun _ h9 => h9) rfl dX3_villager_77 ?_
      refine lv_iload_n hx hb dX3_villager_80 rfl (lv_at hl 1 rfl) ?_
      refine va_iald (D := D) hx hb hK.1 hP 3 0 rfl rfl (f3_isVillager c_1) dX3_villager_81 ?_
      have e9 : D_X3_villager S v w = S 1 v.toNatClampNeg := by rw [D_X3_villager, if_neg c_1, if_neg c_2, if_pos c_4]
      exact ret_i hx hb hr hlk hP hD hS dX3_villager_82 ⟨Nat.zero_le _, Nat.zero_le _⟩ ⟨e9.symm, rfl⟩
    rcases Decidable.em (w = 2) with c_5 | c_5
    · refine lv_tableIn (off := 72) (tgt := 83) hx hb dX3_villager_11 (by rw [c_5]; decide) (by rw [c_5]; decide) (by rw [c_5]; rfl) (by decide) ?_
      refine lv_aload_n hx hb dX3_villager_83 rfl (lv_at hl 0 rfl) ?_
      refine va_get (D := D) (ci := 3) (v := .ref r) (C := RX3) (T := TX3) (N := 5) hx hb hts in_X3_villager_RX3 hown hK.1 hP 0 rfl rfl 0 (by decide) (hts (.fieldLink RX3 12 "NineDancers" "ring" "LNineDancers$Ring;") (by decide +kernel)) (fun _ h9 => h9) rfl dX3_villager_84 ?_
      refine va_get (D := D) (ci := 2) (v := .ref (q 2)) (C := RX2) (T := TX2) (N := 13) hx hb hts in_X3_villager_RX2 hown hK.1 hP 1 rfl rfl 3 (by decide) (hts (.fieldLink RX3 100 "NineDancers$Ring" "joys" "[I") (by decide +kernel)) (fun _ h9 => h9) rfl dX3_villager_87 ?_
      refine lv_iload_n hx hb dX3_villager_90 rfl (lv_at hl 1 rfl) ?_
      refine va_iald (D := D) hx hb hK.1 hP 4 0 rfl rfl (f3_isVillager c_1) dX3_villager_91 ?_
      have e9 : D_X3_villager S v w = S 2 v.toNatClampNeg := by rw [D_X3_villager, if_neg c_1, if_neg c_2, if_neg c_4, if_pos c_5]
      exact ret_i hx hb hr hlk hP hD hS dX3_villager_92 ⟨Nat.zero_le _, Nat.zero_le _⟩ ⟨e9.symm, rfl⟩
    rcases Decidable.em (w = 3) with c_6 | c_6
    · refine lv_tableIn (off := 82) (tgt := 93) hx hb dX3_villager_11 (by rw [c_6]; decide) (by rw [c_6]; decide) (by rw [c_6]; rfl) (by decide) ?_
      refine lv_aload_n hx hb dX3_villager_93 rfl (lv_at hl 0 rfl) ?_
      refine va_get (D := D) (ci := 3) (v := .ref r) (C := RX3) (T := TX3) (N := 5) hx hb hts in_X3_villager_RX3 hown hK.1 hP 0 rfl rfl 0 (by decide) (hts (.fieldLink RX3 12 "NineDancers" "ring" "LNineDancers$Ring;") (by decide +kernel)) (fun _ h9 => h9) rfl dX3_villager_94 ?_
      refine va_get (D := D) (ci := 2) (v := .ref (q 3)) (C := RX2) (T := TX2) (N := 13) hx hb hts in_X3_villager_RX2 hown hK.1 hP 1 rfl rfl 4 (by decide) (hts (.fieldLink RX3 103 "NineDancers$Ring" "roundsDanced" "[I") (by decide +kernel)) (fun _ h9 => h9) rfl dX3_villager_97 ?_
      refine lv_iload_n hx hb dX3_villager_100 rfl (lv_at hl 1 rfl) ?_
      refine va_iald (D := D) hx hb hK.1 hP 5 0 rfl rfl (f3_isVillager c_1) dX3_villager_101 ?_
      have e9 : D_X3_villager S v w = S 3 v.toNatClampNeg := by rw [D_X3_villager, if_neg c_1, if_neg c_2, if_neg c_4, if_neg c_5, if_pos c_6]
      exact ret_i hx hb hr hlk hP hD hS dX3_villager_102 ⟨Nat.zero_le _, Nat.zero_le _⟩ ⟨e9.symm, rfl⟩
    rcases Decidable.em (w = 4) with c_7 | c_7
    · refine lv_tableIn (off := 92) (tgt := 103) hx hb dX3_villager_11 (by rw [c_7]; decide) (by rw [c_7]; decide) (by rw [c_7]; rfl) (by decide) ?_
      refine lv_aload_n hx hb dX3_villager_103 rfl (lv_at hl 0 rfl) ?_
      refine va_get (D := D) (ci := 3) (v := .ref r) (C := RX3) (T := TX3) (N := 5) hx hb hts in_X3_villager_RX3 hown hK.1 hP 0 rfl rfl 0 (by decide) (hts (.fieldLink RX3 12 "NineDancers" "ring" "LNineDancers$Ring;") (by decide +kernel)) (fun _ h9 => h9) rfl dX3_villager_104 ?_
      refine va_get (D := D) (ci := 2) (v := .ref (q 4)) (C := RX2) (T := TX2) (N := 13) hx hb hts in_X3_villager_RX2 hown hK.1 hP 1 rfl rfl 5 (by decide) (hts (.fieldLink RX3 106 "NineDancers$Ring" "roundsRested" "[I") (by decide +kernel)) (fun _ h9 => h9) rfl dX3_villager_107 ?_
      refine lv_iload_n hx hb dX3_villager_110 rfl (lv_at hl 1 rfl) ?_
      refine va_iald (D := D) hx hb hK.1 hP 6 0 rfl rfl (f3_isVillager c_1) dX3_villager_111 ?_
      have e9 : D_X3_villager S v w = S 4 v.toNatClampNeg := by rw [D_X3_villager, if_neg c_1, if_neg c_2, if_neg c_4, if_neg c_5, if_neg c_6, if_pos c_7]
      exact ret_i hx hb hr hlk hP hD hS dX3_villager_112 ⟨Nat.zero_le _, Nat.zero_le _⟩ ⟨e9.symm, rfl⟩
    rcases Decidable.em (w = 5) with c_8 | c_8
    · refine lv_tableIn (off := 102) (tgt := 113) hx hb dX3_villager_11 (by rw [c_8]; decide) (by rw [c_8]; decide) (by rw [c_8]; rfl) (by decide) ?_
      refine lv_aload_n hx hb dX3_villager_113 rfl (lv_at hl 0 rfl) ?_
      refine va_get (D := D) (ci := 3) (v := .ref r) (C := RX3) (T := TX3) (N := 5) hx hb hts in_X3_villager_RX3 hown hK.1 hP 0 rfl rfl 0 (by decide) (hts (.fieldLink RX3 12 "NineDancers" "ring" "LNineDancers$Ring;") (by decide +kernel)) (fun _ h9 => h9) rfl dX3_villager_114 ?_
      refine va_get (D := D) (ci := 2) (v := .ref (q 5)) (C := RX2) (T := TX2) (N := 13) hx hb hts in_X3_villager_RX2 hown hK.1 hP 1 rfl rfl 6 (by decide) (hts (.fieldLink RX3 109 "NineDancers$Ring" "roundsAlone" "[I") (by decide +kernel)) (fun _ h9 => h9) rfl dX3_villager_117 ?_
      refine lv_iload_n hx hb dX3_villager_120 rfl (lv_at hl 1 rfl) ?_
      refine va_iald (D := D) hx hb hK.1 hP 7 0 rfl rfl (f3_isVillager c_1) dX3_villager_121 ?_
      have e9 : D_X3_villager S v w = S 5 v.toNatClampNeg := by rw [D_X3_villager, if_neg c_1, if_neg c_2, if_neg c_4, if_neg c_5, if_neg c_6, if_neg c_7, if_pos c_8]
      exact ret_i hx hb hr hlk hP hD hS dX3_villager_122 ⟨Nat.zero_le _, Nat.zero_le _⟩ ⟨e9.symm, rfl⟩
    rcases Decidable.em (w = 6) with c_9 | c_9
    · refine lv_tableIn (off := 112) (tgt := 123) hx hb dX3_villager_11 (by rw [c_9]; decide) (by rw [c_9]; decide) (by rw [c_9]; rfl) (by decide) ?_
      refine lv_aload_n hx hb dX3_villager_123 rfl (lv_at hl 0 rfl) ?_
      refine va_get (D := D) (ci := 3) (v := .ref r) (C := RX3) (T := TX3) (N := 5) hx hb hts in_X3_villager_RX3 hown hK.1 hP 0 rfl rfl 0 (by decide) (hts (.fieldLink RX3 12 "NineDancers" "ring" "LNineDancers$Ring;") (by decide +kernel)) (fun _ h9 => h9) rfl dX3_villager_124 ?_
      refine lv_iload_n hx hb dX3_villager_127 rfl (lv_at hl 1 rfl) ?_
      refine ck_iD (wr := wX x r tr pp h sl) (ws' := wX x r tr pp h sl ++ wR Y r q S) (va_runV (As := [.int v]) (rest := []) ⟨hx, hb, hml, hown, hts⟩ (c_X2_dancedWith l D Y H.size q S r v (f3_isVillager c_1)) (cwV 1 hts gX3_villager_X2_dancedWith rfl rfl rfl (by decide +kernel) ⟨Nat.le_of_ble_eq_true rfl, Nat.le_of_ble_eq_true rfl⟩) (pst_V hK hP hD [1, 2, 3, 4, 5, 6, 7, 8, 9, 10, 11] rfl (by decide) (q0 := 0) rfl rfl) rfl rfl hl.1 rfl (lv_room (Nat.le_of_ble_eq_true rfl)) dX3_villager_128 ⟨Nat.zero_le _, Nat.zero_le _⟩) hP hD hS hA [1, 2, 3, 4, 5, 6, 7, 8, 9, 10, 11] [0] [0, 1, 2, 3, 4, 5, 6, 7, 8, 9, 10, 11] rfl rfl (by decide) (by decide) rfl (by decide) (fun H locs hP hD hS => ?_)
      have e9 : D_X3_villager S v w = D_X2_dancedWith S v := by rw [D_X3_villager, if_neg c_1, if_neg c_2, if_neg c_4, if_neg c_5, if_neg c_6, if_neg c_7, if_neg c_8, if_pos c_9]
      exact ret_i hx hb hr hlk hP hD hS dX3_villager_131 ⟨Nat.zero_le _, Nat.zero_le _⟩ ⟨e9.symm, rfl⟩
    rcases Decidable.em (w = 7) with c_10 | c_10
    · refine lv_tableIn (off := 121) (tgt := 132) hx hb dX3_villager_11 (by rw [c_10]; decide) (by rw [c_10]; decide) (by rw [c_10]; rfl) (by decide) ?_
      refine lv_aload_n hx hb dX3_villager_132 rfl (lv_at hl 0 rfl) ?_
      refine va_get (D := D) (ci := 3) (v := .ref r) (C := RX3) (T := TX3) (N := 5) hx hb hts in_X3_villager_RX3 hown hK.1 hP 0 rfl rfl 0 (by decide) (hts (.fieldLink RX3 12 "NineDancers" "ring" "LNineDancers$Ring;") (by decide +kernel)) (fun _ h9 => h9) rfl dX3_villager_133 ?_
      refine lv_iload_n hx hb dX3_villager_136 rfl (lv_at hl 1 rfl) ?_
      refine ck_iD (wr := wX x r tr pp h sl) (ws' := wX x r tr pp h sl ++ wR Y r q S) (va_runV (As := [.int v]) (rest := []) ⟨hx, hb, hml, hown, hts⟩ (c_X2_mostFrequentPartner l D Y H.size q S r v (f3_isVillager c_1)) (cwV 1 hts gX3_villager_X2_mostFrequentPartner rfl rfl rfl (by decide +kernel) ⟨Nat.le_of_ble_eq_true rfl, Nat.le_of_ble_eq_true rfl⟩) (pst_V hK hP hD [1, 2, 3, 4, 5, 6, 7, 8, 9, 10, 11] rfl (by decide) (q0 := 0) rfl rfl) rfl rfl hl.1 rfl (lv_room (Nat.le_of_ble_eq_true rfl)) dX3_villager_137 ⟨Nat.zero_le _, Nat.zero_le _⟩) hP hD hS hA [1, 2, 3, 4, 5, 6, 7, 8, 9, 10, 11] [0] [0, 1, 2, 3, 4, 5, 6, 7, 8, 9, 10, 11] rfl rfl (by decide) (by decide) rfl (by decide) (fun H locs hP hD hS => ?_)
      have e9 : D_X3_villager S v w = D_X2_mostFrequentPartner S v := by rw [D_X3_villager, if_neg c_1, if_neg c_2, if_neg c_4, if_neg c_5, if_neg c_6, if_neg c_7, if_neg c_8, if_neg c_9, if_pos c_10]
      exact ret_i hx hb hr hlk hP hD hS dX3_villager_140 ⟨Nat.zero_le _, Nat.zero_le _⟩ ⟨e9.symm, rfl⟩
    refine lv_tableOut (tgt := 141) hx hb dX3_villager_11 (by have z0 := lv_neT c_2 (show (0 : Int32).toInt = 0 from rfl); have z1 := lv_neT c_4 (show (1 : Int32).toInt = 1 from rfl); have z2 := lv_neT c_5 (show (2 : Int32).toInt = 2 from rfl); have z3 := lv_neT c_6 (show (3 : Int32).toInt = 3 from rfl); have z4 := lv_neT c_7 (show (4 : Int32).toInt = 4 from rfl); have z5 := lv_neT c_8 (show (5 : Int32).toInt = 5 from rfl); have z6 := lv_neT c_9 (show (6 : Int32).toInt = 6 from rfl); have z7 := lv_neT c_10 (show (7 : Int32).toInt = 7 from rfl); omega) (by decide) ?_
    refine lv_ldc (v := (-1000002)) hx hb hown (hts (.constant RX3 37 (-1000002)) (by decide +kernel)) dX3_villager_141 ?_
    have e9 : D_X3_villager S v w = (-1000002) := by rw [D_X3_villager, if_neg c_1, if_neg c_2, if_neg c_4, if_neg c_5, if_neg c_6, if_neg c_7, if_neg c_8, if_neg c_9, if_neg c_10]
    exact ret_i hx hb hr hlk hP hD hS dX3_villager_143 ⟨Nat.zero_le _, Nat.zero_le _⟩ ⟨e9.symm, rfl⟩
  · refine lv_ldc (v := (-1000001)) hx hb hown (hts (.constant RX3 50 (-1000001)) (by decide +kernel)) dX3_villager_7 ?_
    have e9 : D_X3_villager S v w = (-1000001) := by rw [D_X3_villager, if_pos c_1]
    exact ret_i hx hb hr hlk hP hD hS dX3_villager_9 ⟨Nat.zero_le _, Nat.zero_le _⟩ ⟨e9.symm, rfl⟩
def D_X3_pair (S : Nat → Nat → Int32) (a : Int32) (b : Int32) (w : Int32) : (Int32) := if (D_X3_isVillager a) = 0 then (-1000001) else (if (D_X3_isVillager b) = 0 then (-1000001) else (if a = b then (-1000002) else (if w = 0 then (S 6 (D_X3_pairIndex a b).toNatClampNeg) else (if w = 1 then (S 7 (D_X3_pairIndex a b).toNatClampNeg) else (if w = 2 then (D_X3_remainderOf (a + b)) else (if w = 3 then (S 9 (D_X3_remainderOf (a + b)).toNatClampNeg) else (if w = 4 then (S 8 (D_X3_pairIndex a b).toNatClampNeg) else (-1000002))))))))
set_option maxRecDepth 100000 in
theorem in_X3_pair_RX2 : ∀ w ∈ u_ws RX2 TX2 13, w ∈ wsX3_pair := by decide +kernel
set_option maxRecDepth 100000 in
theorem in_X3_pair_RX3 : ∀ w ∈ u_ws RX3 TX3 5, w ∈ wsX3_pair := by decide +kernel
set_option maxHeartbeats 4000000 in
set_option maxRecDepth 100000 in
theorem c_X3_pair (l : Launch) (D : va_G) (Y : YY) (sz : Nat) (r : Nat) (tr : Nat) (pp : Nat) (h : Nat) (sl : Nat) (q : Nat → Nat) (S : Nat → Nat → Int32) (x : Nat) (a : Int32) (b : Int32) (w : Int32) : Met l yX3_pair wsX3_pair ({ frames := 2, cells := 0, slots := 0, locals := 42 } : Room) (va_Pc [.ref x, .int a, .int b, .int w] (Pst D Y sz (wX x r tr pp h sl ++ wR Y r q S))) ((fun A : Nat → Prop => Qsi D (fun r9 w9 => r9 = D_X3_pair S a b w ∧ w9 = wX x r tr pp h sl ++ wR Y r q S) A) (va_A (wX x r tr pp h sl ++ wR Y r q S) sz)) 0 0 (va_A (wX x r tr pp h sl ++ wR Y r q S) sz) := by
  refine ct_in (cc := cX3_pair) (maxL := 6) (ret := (some .int)) (Qc := fun A : Nat → Prop => Qsi D (fun r9 w9 => r9 = D_X3_pair S a b w ∧ w9 = wX x r tr pp h sl ++ wR Y r q S) A) (by decide +kernel) rfl (Nat.le_of_ble_eq_true rfl) ?_
  intro p e s m below meth c A ls hx hb hr hts hown hml hlk hin hsz hA hP hD hK hS hl
  have hown : s.vm.findClass RX3 = some m.cls := hown
  have hl : lv_has ls 6 [(0, .ref x), (1, .int a), (2, .int b), (3, .int w)] := hl
  show W p l e ({ frames := 2, cells := 0, slots := 0, locals := 42 } : Room) s m ([.ref x, .int a, .int b, .int w] : List Value).toArray below meth c s.heap [] 0 0 (MQ below (Qsi D (fun r9 w9 => r9 = D_X3_pair S a b w ∧ w9 = wX x r tr pp h sl ++ wR Y r q S) A) ([.ref x, .int a, .int b, .int w] : List Value).toArray s 0 0 A) (F0 m 0 ls [])
  refine lv_iload_n hx hb dX3_pair_0 rfl (lv_at hl 1 rfl) ?_
  refine ck_iD (wr := wX x r tr pp h sl ++ wR Y r q S) (ws' := wX x r tr pp h sl ++ wR Y r q S) (va_runS (As := [.int a]) (rest := []) ⟨hx, hb, hml, hown, hts⟩ (c_X3_isVillager l D Y s.heap.size a) (va_cwS 1 hts gX3_pair_X3_isVillager rfl rfl rfl (by decide +kernel) ⟨Nat.le_of_ble_eq_true rfl, Nat.le_of_ble_eq_true rfl⟩) (pst_S hK hP hD [] rfl (by decide)) rfl rfl hl.1 rfl (lv_room (Nat.le_of_ble_eq_true rfl)) dX3_pair_1 ⟨Nat.zero_le _, Nat.zero_le _⟩) hP hD hS hA [] [0, 1, 2, 3, 4, 5, 6, 7, 8, 9, 10, 11] [0, 1, 2, 3, 4, 5, 6, 7, 8, 9, 10, 11] rfl rfl (by decide) (by decide) rfl (by decide) (fun H locs hP hD hS => ?_)
  refine lv_if_eq (tgt := 14) hx hb dX3_pair_4 (by decide) (fun c_1 => ?_) (fun c_1 => ?_)
  · refine lv_ldc (v := (-1000001)) hx hb hown (hts (.constant RX3 50 (-1000001)) (by decide +kernel)) dX3_pair_14 ?_
    have e9 : D_X3_pair S a b w = (-1000001) := by rw [D_X3_pair, if_pos c_1]
    exact ret_i hx hb hr hlk hP hD hS dX3_pair_16 ⟨Nat.zero_le _, Nat.zero_le _⟩ ⟨e9.symm, rfl⟩
  · refine lv_iload_n hx hb dX3_pair_7 rfl (lv_at hl 2 rfl) ?_
    refine ck_iD (wr := wX x r tr pp h sl ++ wR Y r q S) (ws' := wX x r tr pp h sl ++ wR Y r q S) (va_runS (As := [.int b]) (rest := []) ⟨hx, hb, hml, hown, hts⟩ (c_X3_isVillager l D Y H.size b) (va_cwS 1 hts gX3_pair_X3_isVillager rfl rfl rfl (by decide +kernel) ⟨Nat.le_of_ble_eq_true rfl, Nat.le_of_ble_eq_true rfl⟩) (pst_S hK hP hD [] rfl (by decide)) rfl rfl hl.1 rfl (lv_room (Nat.le_of_ble_eq_true rfl)) dX3_pair_8 ⟨Nat.zero_le _, Nat.zero_le _⟩) hP hD hS hA [] [0, 1, 2, 3, 4, 5, 6, 7, 8, 9, 10, 11] [0, 1, 2, 3, 4, 5, 6, 7, 8, 9, 10, 11] rfl rfl (by decide) (by decide) rfl (by decide) (fun H locs hP hD hS => ?_)
    refine lv_if_ne (tgt := 17) hx hb dX3_pair_11 (by decide) (fun c_2 => ?_) (fun c_2 => ?_)
    · refine lv_iload_n hx hb dX3_pair_17 rfl (lv_at hl 1 rfl) ?_
      refine lv_iload_n hx hb dX3_pair_18 rfl (lv_at hl 2 rfl) ?_
      refine lv_icmp_ne (tgt := 25) hx hb dX3_pair_19 (by decide) (fun c_3 => ?_) (fun c_3 => ?_)
      · refine lv_iload_n hx hb dX3_pair_25 rfl (lv_at hl 1 rfl) ?_
        refine lv_iload_n hx hb dX3_pair_26 rfl (lv_at hl 2 rfl) ?_
        refine ck_iD (wr := wX x r tr pp h sl ++ wR Y r q S) (ws' := wX x r tr pp h sl ++ wR Y r q S) (va_runS (As := [.int a, .int b]) (rest := []) ⟨hx, hb, hml, hown, hts⟩ (c_X3_pairIndex l D Y H.size a b) (va_cwS 2 hts gX3_pair_X3_pairIndex rfl rfl rfl (by decide +kernel) ⟨Nat.le_of_ble_eq_true rfl, Nat.le_of_ble_eq_true rfl⟩) (pst_S hK hP hD [] rfl (by decide)) rfl rfl hl.1 rfl (lv_room (Nat.le_of_ble_eq_true rfl)) dX3_pair_27 ⟨Nat.zero_le _, Nat.zero_le _⟩) hP hD hS hA [] [0, 1, 2, 3, 4, 5, 6, 7, 8, 9, 10, 11] [0, 1, 2, 3, 4, 5, 6, 7, 8, 9, 10, 11] rfl rfl (by decide) (by decide) rfl (by decide) (fun H locs hP hD hS => ?_)
        refine lv_istore (lv' := [(4, .int (D_X3_pairIndex a b)), (0, .ref x), (1, .int a), (2, .int b), (3, .int w)]) hx hb dX3_pair_30 hl (by decide) rfl (fun ls hl => ?_)
        refine lv_iload_n hx hb dX3_pair_32 rfl (lv_at hl 2 rfl) ?_
        refine lv_iload_n hx hb dX3_pair_33 rfl (lv_at hl 3 rfl) ?_
        refine lv_iadd hx hb dX3_pair_34 ?_
        refine ck_iD (wr := wX x r tr pp h sl ++ wR Y r q S) (ws' := wX x r tr pp h sl ++ wR Y r q S) (va_runS (As := [.int (a + b)]) (rest := []) ⟨hx, hb, hml, hown, hts⟩ (c_X3_remainderOf l D Y H.size (a + b)) (va_cwS 1 hts gX3_pair_X3_remainderOf rfl rfl rfl (by decide +kernel) ⟨Nat.le_of_ble_eq_true rfl, Nat.le_of_ble_eq_true rfl⟩) (pst_S hK hP hD [] rfl (by decide)) rfl rfl hl.1 rfl (lv_room (Nat.le_of_ble_eq_true rfl)) dX3_pair_35 ⟨Nat.zero_le _, Nat.zero_le _⟩) hP hD hS hA [] [0, 1, 2, 3, 4, 5, 6, 7, 8, 9, 10, 11] [0, 1, 2, 3, 4, 5, 6, 7, 8, 9, 10, 11] rfl rfl (by decide) (by decide) rfl (by decide) (fun H locs hP hD hS => ?_)
        refine lv_istore (lv' := [(5, .int (D_X3_remainderOf (a + b))), (4, .int (D_X3_pairIndex a b)), (0, .ref x), (1, .int a), (2, .int b), (3, .int w)]) hx hb dX3_pair_38 hl (by decide) rfl (fun ls hl => ?_)
        refine lv_iload_n hx hb dX3_pair_40 rfl (lv_at hl 5 rfl) ?_
        rcases Decidable.em (w = 0) with c_4 | c_4
        · refine lv_tableIn (off := 35) (tgt := 76) hx hb dX3_pair_41 (by rw [c_4]; decide) (by rw [c_4]; decide) (by rw [c_4]; rfl) (by decide) ?_
          refine lv_aload_n hx hb dX3_pair_76 rfl (lv_at hl 2 rfl) ?_
          refine va_get (D := D) (ci := 3) (v := .ref r) (C := RX3) (T := TX3) (N := 5) hx hb hts in_X3_pair_RX3 hown hK.1 hP 0 rfl rfl 0 (by decide) (hts (.fieldLink RX3 12 "NineDancers" "ring" "LNineDancers$Ring;") (by decide +kernel)) (fun _ h9 => h9) rfl dX3_pair_77 ?_
          refine va_get (D := D) (ci := 2) (v := .ref (q 6)) (C := RX2) (T := TX2) (N := 13) hx hb hts in_X3_pair_RX2 hown hK.1 hP 1 rfl rfl 7 (by decide) (hts (.fieldLink RX3 55 "NineDancers$Ring" "likings" "[I") (by decide +kernel)) (fun _ h9 => h9) rfl dX3_pair_80 ?_
          refine lv_iload hx hb dX3_pair_83 (lv_at hl 1 rfl) ?_
          refine va_iald (D := D) hx hb hK.1 hP 8 0 rfl rfl (in_pairIndex (f3_isVillager c_1) (f3_isVillager c_2)) dX3_pair_85 ?_
          have e9 : D_X3_pair S a b w = S 6 (D_X3_pairIndex a b).toNatClampNeg := by rw [D_X3_pair, if_neg c_1, if_neg c_2, if_neg c_3, if_pos c_4]
          exact ret_i hx hb hr hlk hP hD hS dX3_pair_86 ⟨Nat.zero_le _, Nat.zero_le _⟩ ⟨e9.symm, rfl⟩
        rcases Decidable.em (w = 1) with c_5 | c_5
        · refine lv_tableIn (off := 46) (tgt := 87) hx hb dX3_pair_41 (by rw [c_5]; decide) (by rw [c_5]; decide) (by rw [c_5]; rfl) (by decide) ?_
          refine lv_aload_n hx hb dX3_pair_87 rfl (lv_at hl 2 rfl) ?_
          refine va_get (D := D) (ci := 3) (v := .ref r) (C := RX3) (T := TX3) (N := 5) hx hb hts in_X3_pair_RX3 hown hK.1 hP 0 rfl rfl 0 (by decide) (hts (.fieldLink RX3 12 "NineDancers" "ring" "LNineDancers$Ring;") (by decide +kernel)) (fun _ h9 => h9) rfl dX3_pair_88 ?_
          refine va_get (D := D) (ci := 2) (v := .ref (q 7)) (C := RX2) (T := TX2) (N := 13) hx hb hts in_X3_pair_RX2 hown hK.1 hP 1 rfl rfl 8 (by decide) (hts (.fieldLink RX3 121 "NineDancers$Ring" "dances" "[I") (by decide +kernel)) (fun _ h9 => h9) rfl dX3_pair_91 ?_
          refine lv_iload hx hb dX3_pair_94 (lv_at hl 1 rfl) ?_
          refine va_iald (D := D) hx hb hK.1 hP 9 0 rfl rfl (in_pairIndex (f3_isVillager c_1) (f3_isVillager c_2)) dX3_pair_96 ?_
          have e9 : D_X3_pair S a b w = S 7 (D_X3_pairIndex a b).toNatClampNeg := by rw [D_X3_pair, if_neg c_1, if_neg c_2, if_neg c_3, if_neg c_4, if_pos c_5]
          exact ret_i hx hb hr hlk hP hD hS dX3_pair_97 ⟨Nat.zero_le _, Nat.zero_le _⟩ ⟨e9.symm, rfl⟩
        rcases Decidable.em (w = 2) with c_6 | c_6
        · refine lv_tableIn (off := 57) (tgt := 98) hx hb dX3_pair_41 (by rw [c_6]; decide) (by rw [c_6]; decide) (by rw [c_6]; rfl) (by decide) ?_
          refine lv_iload hx hb dX3_pair_98 (lv_at hl 0 rfl) ?_
          have e9 : D_X3_pair S a b w = D_X3_remainderOf (a + b) := by rw [D_X3_pair, if_neg c_1, if_neg c_2, if_neg c_3, if_neg c_4, if_neg c_5, if_pos c_6]
          exact ret_i hx hb hr hlk hP hD hS dX3_pair_100 ⟨Nat.zero_le _, Nat.zero_le _⟩ ⟨e9.symm, rfl⟩
        rcases Decidable.em (w = 3) with c_7 | c_7
        · refine lv_tableIn (off := 60) (tgt := 101) hx hb dX3_pair_41 (by rw [c_7]; decide) (by rw [c_7]; decide) (by rw [c_7]; rfl) (by decide) ?_
          refine lv_aload_n hx hb dX3_pair_101 rfl (lv_at hl 2 rfl) ?_
          refine va_get (D := D) (ci := 3) (v := .ref r) (C := RX3) (T := TX3) (N := 5) hx hb hts in_X3_pair_RX3 hown hK.1 hP 0 rfl rfl 0 (by decide) (hts (.fieldLink RX3 12 "NineDancers" "ring" "LNineDancers$Ring;") (by decide +kernel)) (fun _ h9 => h9) rfl dX3_pair_102 ?_
          refine va_get (D := D) (ci := 2) (v := .ref (q 9)) (C := RX2) (T := TX2) (N := 13) hx hb hts in_X3_pair_RX2 hown hK.1 hP 1 rfl rfl 10 (by decide) (hts (.fieldLink RX3 124 "NineDancers$Ring" "timesTold" "[I") (by decide +kernel)) (fun _ h9 => h9) rfl dX3_pair_105 ?_
          refine lv_iload hx hb dX3_pair_108 (lv_at hl 0 rfl) ?_
          refine va_iald (D := D) hx hb hK.1 hP 11 0 rfl rfl (in_remainderOf _) dX3_pair_110 ?_
          have e9 : D_X3_pair S a b w = S 9 (D_X3_remainderOf (a + b)).toNatClampNeg := by rw [D_X3_pair, if_neg c_1, if_neg c_2, if_neg c_3, if_neg c_4, if_neg c_5, if_neg c_6, if_pos c_7]
          exact ret_i hx hb hr hlk hP hD hS dX3_pair_111 ⟨Nat.zero_le _, Nat.zero_le _⟩ ⟨e9.symm, rfl⟩
        rcases Decidable.em (w = 4) with c_8 | c_8
        · refine lv_tableIn (off := 71) (tgt := 112) hx hb dX3_pair_41 (by rw [c_8]; decide) (by rw [c_8]; decide) (by rw [c_8]; rfl) (by decide) ?_
          refine lv_aload_n hx hb dX3_pair_112 rfl (lv_at hl 2 rfl) ?_
          refine va_get (D := D) (ci := 3) (v := .ref r) (C := RX3) (T := TX3) (N := 5) hx hb hts in_X3_pair_RX3 hown hK.1 hP 0 rfl rfl 0 (by decide) (hts (.fieldLink RX3 12 "NineDancers" "ring" "LNineDancers$Ring;") (by decide +kernel)) (fun _ h9 => h9) rfl dX3_pair_113 ?_
          refine va_get (D := D) (ci := 2) (v := .ref (q 8)) (C := RX2) (T := TX2) (N := 13) hx hb hts in_X3_pair_RX2 hown hK.1 hP 1 rfl rfl 9 (by decide) (hts (.fieldLink RX3 127 "NineDancers$Ring" "lastDances" "[I") (by decide +kernel)) (fun _ h9 => h9) rfl dX3_pair_116 ?_
          refine lv_iload hx hb dX3_pair_119 (lv_at hl 1 rfl) ?_
          refine va_iald (D := D) hx hb hK.1 hP 10 0 rfl rfl (in_pairIndex (f3_isVillager c_1) (f3_isVillager c_2)) dX3_pair_121 ?_
          have e9 : D_X3_pair S a b w = S 8 (D_X3_pairIndex a b).toNatClampNeg := by rw [D_X3_pair, if_neg c_1, if_neg c_2, if_neg c_3, if_neg c_4, if_neg c_5, if_neg c_6, if_neg c_7, if_pos c_8]
          exact ret_i hx hb hr hlk hP hD hS dX3_pair_122 ⟨Nat.zero_le _, Nat.zero_le _⟩ ⟨e9.symm, rfl⟩
        refine lv_tableOut (tgt := 123) hx hb dX3_pair_41 (by have z0 := lv_neT c_4 (show (0 : Int32).toInt = 0 from rfl); have z1 := lv_neT c_5 (show (1 : Int32).toInt = 1 from rfl); have z2 := lv_neT c_6 (show (2 : Int32).toInt = 2 from rfl); have z3 := lv_neT c_7 (show (3 : Int32).toInt = 3 from rfl); have z4 := lv_neT c_8 (show (4 : Int32).toInt = 4 from rfl); omega) (by decide) ?_
        refine lv_ldc (v := (-1000002)) hx hb hown (hts (.constant RX3 37 (-1000002)) (by decide +kernel)) dX3_pair_123 ?_
        have e9 : D_X3_pair S a b w = (-1000002) := by rw [D_X3_pair, if_neg c_1, if_neg c_2, if_neg c_3, if_neg c_4, if_neg c_5, if_neg c_6, if_neg c_7, if_neg c_8]
        exact ret_i hx hb hr hlk hP hD hS dX3_pair_125 ⟨Nat.zero_le _, Nat.zero_le _⟩ ⟨e9.symm, rfl⟩
      · refine lv_ldc (v := (-1000002)) hx hb hown (hts (.constant RX3 37 (-1000002)) (by decide +kernel)) dX3_pair_22 ?_
        have e9 : D_X3_pair S a b w = (-1000002) := by rw [D_X3_pair, if_neg c_1, if_neg c_2, if_pos c_3]
        exact ret_i hx hb hr hlk hP hD hS dX3_pair_24 ⟨Nat.zero_le _, Nat.zero_le _⟩ ⟨e9.symm, rfl⟩
    · refine lv_ldc (v := (-1000001)) hx hb hown (hts (.constant RX3 50 (-1000001)) (by decide +kernel)) dX3_pair_14 ?_
      have e9 : D_X3_pair S a b w = (-1000001) := by rw [D_X3_pair, if_neg c_1, if_pos c_2]
      exact ret_i hx hb hr hlk hP hD hS dX3_pair_16 ⟨Nat.zero_le _, Nat.zero_le _⟩ ⟨e9.symm, rfl⟩
def D_X3_partner (S : Nat → Nat → Int32) (v : Int32) (k : Int32) : (Int32) := if (D_X3_isVillager v) = 0 then (-1000001) else (if (D_X3_isNumber k) = 0 then (-1000002) else (if (D_X3_counterpart v k) = v then (-1000006) else (D_X3_counterpart v k)))
set_option maxHeartbeats 4000000 in
set_option maxRecDepth 100000 in
theorem c_X3_partner (l : Launch) (D : va_G) (Y : YY) (sz : Nat) (r : Nat) (tr : Nat) (pp : Nat) (h : Nat) (sl : Nat) (q : Nat → Nat) (S : Nat → Nat → Int32) (x : Nat) (v : Int32) (k : Int32) : Met l yX3_partner wsX3_partner ({ frames := 3, cells := 0, slots := 0, locals := 63 } : Room) (va_Pc [.ref x, .int v, .int k] (Pst D Y sz (wX x r tr pp h sl ++ wR Y r q S))) ((fun A : Nat → Prop => Qsi D (fun r9 w9 => r9 = D_X3_partner S v k ∧ w9 = wX x r tr pp h sl ++ wR Y r q S) A) (va_A (wX x r tr pp h sl ++ wR Y r q S) sz)) 0 0 (va_A (wX x r tr pp h sl ++ wR Y r q S) sz) := by
  refine ct_in (cc := cX3_partner) (maxL := 4) (ret := (some .int)) (Qc := fun A : Nat → Prop => Qsi D (fun r9 w9 => r9 = D_X3_partner S v k ∧ w9 = wX x r tr pp h sl ++ wR Y r q S) A) (by decide +kernel) rfl (Nat.le_of_ble_eq_true rfl) ?_
  intro p e s m below meth c A ls hx hb hr hts hown hml hlk hin hsz hA hP hD hK hS hl
  have hown : s.vm.findClass RX3 = some m.cls := hown
  have hl : lv_has ls 4 [(0, .ref x), (1, .int v), (2, .int k)] := hl
  show W p l e ({ frames := 3, cells := 0, slots := 0, locals := 63 } : Room) s m ([.ref x, .int v, .int k] : List Value).toArray below meth c s.heap [] 0 0 (MQ below (Qsi D (fun r9 w9 => r9 = D_X3_partner S v k ∧ w9 = wX x r tr pp h sl ++ wR Y r q S) A) ([.ref x, .int v, .int k] : List Value).toArray s 0 0 A) (F0 m 0 ls [])
  refine lv_iload_n hx hb dX3_partner_0 rfl (lv_at hl 1 rfl) ?_
  refine ck_iD (wr := wX x r tr pp h sl ++ wR Y r q S) (ws' := wX x r tr pp h sl ++ wR Y r q S) (va_runS (As := [.int v]) (rest := []) ⟨hx, hb, hml, hown, hts⟩ (c_X3_isVillager l D Y s.heap.size v) (va_cwS 1 hts gX3_partner_X3_isVillager rfl rfl rfl (by decide +kernel) ⟨Nat.le_of_ble_eq_true rfl, Nat.le_of_ble_eq_true rfl⟩) (pst_S hK hP hD [] rfl (by decide)) rfl rfl hl.1 rfl (lv_room (Nat.le_of_ble_eq_true rfl)) dX3_partner_1 ⟨Nat.zero_le _, Nat.zero_le _⟩) hP hD hS hA [] [0, 1, 2, 3, 4, 5, 6, 7, 8, 9, 10, 11] [0, 1, 2, 3, 4, 5, 6, 7, 8, 9, 10, 11] rfl rfl (by decide) (by decide) rfl (by decide) (fun H locs hP hD hS => ?_)
  refine lv_if_ne (tgt := 10) hx hb dX3_partner_4 (by decide) (fun c_1 => ?_) (fun c_1 => ?_)
  · refine lv_iload_n hx hb dX3_partner_10 rfl (lv_at hl 2 rfl) ?_
    refine ck_iD (wr := wX x r tr pp h sl ++ wR Y r q S) (ws' := wX x r tr pp h sl ++ wR Y r q S) (va_runS (As := [.int k]) (rest := []) ⟨hx, hb, hml, hown, hts⟩ (c_X3_isNumber l D Y H.size k) (va_cwS 1 hts gX3_partner_X3_isNumber rfl rfl rfl (by decide +kernel) ⟨Nat.le_of_ble_eq_true rfl, Nat.le_of_ble_eq_true rfl⟩) (pst_S hK hP hD [] rfl (by decide)) rfl rfl hl.1 rfl (lv_room (Nat.le_of_ble_eq_true rfl)) dX3_partner_11 ⟨Nat.zero_le _, Nat.zero_le _⟩) hP hD hS hA [] [0, 1, 2, 3, 4, 5, 6, 7, 8, 9, 10, 11] [0, 1, 2, 3, 4, 5, 6, 7, 8, 9, 10, 11] rfl rfl (by decide) (by decide) rfl (by decide) (fun H locs hP hD hS => ?_)
    refine lv_if_ne (tgt := 20) hx hb dX3_partner_14 (by decide) (fun c_2 => ?_) (fun c_2 => ?_)
    · refine lv_iload_n hx hb dX3_partner_20 rfl (lv_at hl 1 rfl) ?_
      refine lv_iload_n hx hb dX3_partner_21 rfl (lv_at hl 2 rfl) ?_
      refine ck_iD (wr := wX x r tr pp h sl ++ wR Y r q S) (ws' := wX x r tr pp h sl ++ wR Y r q S) (va_runS (As := [.int v, .int k]) (rest := []) ⟨hx, hb, hml, hown, hts⟩ (c_X3_counterpart l D Y H.size v k) (va_cwS 2 hts gX3_partner_X3_counterpart rfl rfl rfl (by decide +kernel) ⟨Nat.le_of_ble_eq_true rfl, Nat.le_of_ble_eq_true rfl⟩) (pst_S hK hP hD [] rfl (by decide)) rfl rfl hl.1 rfl (lv_room (Nat.le_of_ble_eq_true rfl)) dX3_partner_22 ⟨Nat.zero_le _, Nat.zero_le _⟩) hP hD hS hA [] [0, 1, 2, 3, 4, 5, 6, 7, 8, 9, 10, 11] [0, 1, 2, 3, 4, 5, 6, 7, 8, 9, 10, 11] rfl rfl (by decide) (by decide) rfl (by decide) (fun H locs hP hD hS => ?_)
      refine lv_istore_n (lv' := [(3, .int (D_X3_counterpart v k)), (0, .ref x), (1, .int v), (2, .int k)]) hx hb dX3_partner_25 rfl hl (by decide) rfl (fun ls hl => ?_)
      refine lv_iload_n hx hb dX3_partner_26 rfl (lv_at hl 0 rfl) ?_
      refine lv_iload_n hx hb dX3_partner_27 rfl (lv_at hl 2 rfl) ?_
      refine lv_icmp_ne (tgt := 36) hx hb dX3_partner_28 (by decide) (fun c_3 => ?_) (fun c_3 => ?_)
      · refine lv_iload_n hx hb dX3_partner_36 rfl (lv_at hl 0 rfl) ?_
        have e9 : D_X3_partner S v k = D_X3_counterpart v k := by rw [D_X3_partner, if_neg c_1, if_neg c_2, if_neg c_3]
        exact ret_i hx hb hr hlk hP hD hS dX3_partner_37 ⟨Nat.zero_le _, Nat.zero_le _⟩ ⟨e9.symm, rfl⟩
      · refine lv_ldc (v := (-1000006)) hx hb hown (hts (.constant RX3 86 (-1000006)) (by decide +kernel)) dX3_partner_31 ?_
        refine lv_goto (tgt := 37) hx hb dX3_partner_33 (by decide) ?_
        have e9 : D_X3_partner S v k = (-1000006) := by rw [D_X3_partner, if_neg c_1, if_neg c_2, if_pos c_3]
        exact ret_i hx hb hr hlk hP hD hS dX3_partner_37 ⟨Nat.zero_le _, Nat.zero_le _⟩ ⟨e9.symm, rfl⟩
    · refine lv_ldc (v := (-1000002)) hx hb hown (hts (.constant RX3 37 (-1000002)) (by decide +kernel)) dX3_partner_17 ?_
      have e9 : D_X3_partner S v k = (-1000002) := by rw [D_X3_partner, if_neg c_1, if_pos c_2]
      exact ret_i hx hb hr hlk hP hD hS dX3_partner_19 ⟨Nat.zero_le _, Nat.zero_le _⟩ ⟨e9.symm, rfl⟩
  · refine lv_ldc (v := (-1000001)) hx hb hown (hts (.constant RX3 50 (-1000001)) (by decide +kernel)) dX3_partner_7 ?_
    have e9 : D_X3_partner S v k = (-1000001) := by rw [D_X3_partner, if_pos c_1]
    exact ret_i hx hb hr hlk hP hD hS dX3_partner_9 ⟨Nat.zero_le _, Nat.zero_le _⟩ ⟨e9.symm, rfl⟩
def D_X3_ifCalled (S : Nat → Nat → Int32) (k : Int32) (w : Int32) : (Int32) := if (D_X3_isNumber k) = 0 then (-1000002) else (if w < 0 then (-1000002) else (if w ≤ 3 then (D_X2_wouldBring S k w) else (-1000002)))
set_option maxRecDepth 100000 in
theorem in_X3_ifCalled_RX3 : ∀ w ∈ u_ws RX3 TX3 5, w ∈ wsX3_ifCalled := by decide +kernel
set_option maxHeartbeats 4000000 in
set_option maxRecDepth 100000 in
theorem c_X3_ifCalled (l : Launch) (D : va_G) (Y : YY) (sz : Nat) (r : Nat) (tr : Nat) (pp : Nat) (h : Nat) (sl : Nat) (q : Nat → Nat) (S : Nat → Nat → Int32) (x : Nat) (k : Int32) (w : Int32) : Met l yX3_ifCalled wsX3_ifCalled ({ frames := 4, cells := 0, slots := 0, locals := 92 } : Room) (va_Pc [.ref x, .int k, .int w] (Pst D Y sz (wX x r tr pp h sl ++ wR Y r q S))) ((fun A : Nat → Prop => Qsi D (fun r9 w9 => r9 = D_X3_ifCalled S k w ∧ w9 = wX x r tr pp h sl ++ wR Y r q S) A) (va_A (wX x r tr pp h sl ++ wR Y r q S) sz)) 0 0 (va_A (wX x r tr pp h sl ++ wR Y r q S) sz) := by
  refine ct_in (cc := cX3_ifCalled) (maxL := 3) (ret := (some .int)) (Qc := fun A : Nat → Prop => Qsi D (fun r9 w9 => r9 = D_X3_ifCalled S k w ∧ w9 = wX x r tr pp h sl ++ wR Y r q S) A) (by decide +kernel) rfl (Nat.le_of_ble_eq_true rfl) ?_
  intro p e s m below meth c A ls hx hb hr hts hown hml hlk hin hsz hA hP hD hK hS hl
  have hown : s.vm.findClass RX3 = some m.cls := hown
  have hl : lv_has ls 3 [(0, .ref x), (1, .int k), (2, .int w)] := hl
  show W p l e ({ frames := 4, cells := 0, slots := 0, locals := 92 } : Room) s m ([.ref x, .int k, .int w] : List Value).toArray below meth c s.heap [] 0 0 (MQ below (Qsi D (fun r9 w9 => r9 = D_X3_ifCalled S k w ∧ w9 = wX x r tr pp h sl ++ wR Y r q S) A) ([.ref x, .int k, .int w] : List Value).toArray s 0 0 A) (F0 m 0 ls [])
  refine lv_iload_n hx hb dX3_ifCalled_0 rfl (lv_at hl 1 rfl) ?_
  refine ck_iD (wr := wX x r tr pp h sl ++ wR Y r q S) (ws' := wX x r tr pp h sl ++ wR Y r q S) (va_runS (As := [.int k]) (rest := []) ⟨hx, hb, hml, hown, hts⟩ (c_X3_isNumber l D Y s.heap.size k) (va_cwS 1 hts gX3_ifCalled_X3_isNumber rfl rfl rfl (by decide +kernel) ⟨Nat.le_of_ble_eq_true rfl, Nat.le_of_ble_eq_true rfl⟩) (pst_S hK hP hD [] rfl (by decide)) rfl rfl hl.1 rfl (lv_room (Nat.le_of_ble_eq_true rfl)) dX3_ifCalled_1 ⟨Nat.zero_le _, Nat.zero_le _⟩) hP hD hS hA [] [0, 1, 2, 3, 4, 5, 6, 7, 8, 9, 10, 11] [0, 1, 2, 3, 4, 5, 6, 7, 8, 9, 10, 11] rfl rfl (by decide) (by decide) rfl (by decide) (fun H locs hP hD hS => ?_)
  refine lv_if_eq (tgt := 16) hx hb dX3_ifCalled_4 (by decide) (fun c_1 => ?_) (fun c_1 => ?_)
  · refine lv_ldc (v := (-1000002)) hx hb hown (hts (.constant RX3 37 (-1000002)) (by decide +kernel)) dX3_ifCalled_16 ?_
    have e9 : D_X3_ifCalled S k w = (-1000002) := by rw [D_X3_ifCalled, if_pos c_1]
    exact ret_i hx hb hr hlk hP hD hS dX3_ifCalled_18 ⟨Nat.zero_le _, Nat.zero_le _⟩ ⟨e9.symm, rfl⟩
  · refine lv_iload_n hx hb dX3_ifCalled_7 rfl (lv_at hl 2 rfl) ?_
    refine lv_if_lt (tgt := 16) hx hb dX3_ifCalled_8 (by decide) (fun c_2 => ?_) (fun c_2 => ?_)
    · refine lv_ldc (v := (-1000002)) hx hb hown (hts (.constant RX3 37 (-1000002)) (by decide +kernel)) dX3_ifCalled_16 ?_
      have e9 : D_X3_ifCalled S k w = (-1000002) := by rw [D_X3_ifCalled, if_neg c_1, if_pos c_2]
      exact ret_i hx hb hr hlk hP hD hS dX3_ifCalled_18 ⟨Nat.zero_le _, Nat.zero_le _⟩ ⟨e9.symm, rfl⟩
    · refine lv_iload_n hx hb dX3_ifCalled_11 rfl (lv_at hl 2 rfl) ?_
      refine lv_iconst (v := 3) hx hb dX3_ifCalled_12 (by decide) ?_
      refine lv_icmp_le (tgt := 19) hx hb dX3_ifCalled_13 (by decide) (fun c_3 => ?_) (fun c_3 => ?_)
      · refine lv_aload_n hx hb dX3_ifCalled_19 rfl (lv_at hl 0 rfl) ?_
        refine va_get (D := D) (ci := 3) (v := .ref r) (C := RX3) (T := TX3) (N := 5) hx hb hts in_X3_ifCalled_RX3 hown hK.1 hP 0 rfl rfl 0 (by decide) (hts (.fieldLink RX3 12 "NineDancers" "ring" "LNineDancers$Ring;") (by decide +kernel)) (fun _ h9 => h9) rfl dX3_ifCalled_20 ?_
        refine lv_iload_n hx hb dX3_ifCalled_23 rfl (lv_at hl 1 rfl) ?_
        refine lv_iload_n hx hb dX3_ifCalled_24 rfl (lv_at hl 2 rfl) ?_
        refine ck_iD (wr := wX x r tr pp h sl) (ws' := wX x r tr pp h sl ++ wR Y r q S) (va_runV (As := [.int k, .int w]) (rest := []) ⟨hx, hb, hml, hown, hts⟩ (c_X2_wouldBring l D Y H.size q S r k w) (cwV 2 hts gX3_ifCalled_X2_wouldBring rfl rfl rfl (by decide +kernel) ⟨Nat.le_of_ble_eq_true rfl, Nat.le_of_ble_eq_true rfl⟩) (pst_V hK hP hD [1, 2, 3, 4, 5, 6, 7, 8, 9, 10, 11] rfl (by decide) (q0 := 0) rfl rfl) rfl rfl hl.1 rfl (lv_room (Nat.le_of_ble_eq_true rfl)) dX3_ifCalled_25 ⟨Nat.zero_le _, Nat.zero_le _⟩) hP hD hS hA [1, 2, 3, 4, 5, 6, 7, 8, 9, 10, 11] [0] [0, 1, 2, 3, 4, 5, 6, 7, 8, 9, 10, 11] rfl rfl (by decide) (by decide) rfl (by decide) (fun H locs hP hD hS => ?_)
        have e9 : D_X3_ifCalled S k w = D_X2_wouldBring S k w := by rw [D_X3_ifCalled, if_neg c_1, if_neg c_2, if_pos c_3]
        exact ret_i hx hb hr hlk hP hD hS dX3_ifCalled_28 ⟨Nat.zero_le _, Nat.zero_le _⟩ ⟨e9.symm, rfl⟩
      · refine lv_ldc (v := (-1000002)) hx hb hown (hts (.constant RX3 37 (-1000002)) (by decide +kernel)) dX3_ifCalled_16 ?_
        have e9 : D_X3_ifCalled S k w = (-1000002) := by rw [D_X3_ifCalled, if_neg c_1, if_neg c_2, if_neg c_3]
        exact ret_i hx hb hr hlk hP hD hS dX3_ifCalled_18 ⟨Nat.zero_le _, Nat.zero_le _⟩ ⟨e9.symm, rfl⟩
def L_X3_bestCall_27 (S : Nat → Nat → Int32) (w : Int32) : Nat → (Int32) → (Int32) → (Int32) → (Int32) × (Int32)
  | 0, i, be, mj => (be, mj)
  | n_27 + 1, i, be, mj => if 9 ≤ i then (be, mj) else (if (D_X2_wouldBring S i 1) ≤ mj then (L_X3_bestCall_27 S w n_27 (i + 1) be mj) else (L_X3_bestCall_27 S w n_27 (i + 1) i (D_X2_wouldBring S i 1)))
def D_X3_bestCall (S : Nat → Nat → Int32) (w : Int32) : (Int32) := if w = 0 then (if w = 0 then ((L_X3_bestCall_27 S w 10 1 0 (D_X2_wouldBring S 0 1)).1) else ((L_X3_bestCall_27 S w 10 1 0 (D_X2_wouldBring S 0 1)).2)) else (if w = 1 then (if w = 0 then ((L_X3_bestCall_27 S w 10 1 0 (D_X2_wouldBring S 0 1)).1) else ((L_X3_bestCall_27 S w 10 1 0 (D_X2_wouldBring S 0 1)).2)) else (-1000002))
set_option maxRecDepth 100000 in
theorem in_X3_bestCall_RX3 : ∀ w ∈ u_ws RX3 TX3 5, w ∈ wsX3_bestCall := by decide +kernel
set_option maxHeartbeats 4000000 in
set_option maxRecDepth 100000 in
theorem c_X3_bestCall (l : Launch) (D : va_G) (Y : YY) (sz : Nat) (r : Nat) (tr : Nat) (pp : Nat) (h : Nat) (sl : Nat) (q : Nat → Nat) (S : Nat → Nat → Int32) (x : Nat) (w : Int32) : Met l yX3_bestCall wsX3_bestCall ({ frames := 4, cells := 0, slots := 0, locals := 92 } : Room) (va_Pc [.ref x, .int w] (Pst D Y sz (wX x r tr pp h sl ++ wR Y r q S))) ((fun A : Nat → Prop => Qsi D (fun r9 w9 => r9 = D_X3_bestCall S w ∧ w9 = wX x r tr pp h sl ++ wR Y r q S) A) (va_A (wX x r tr pp h sl ++ wR Y r q S) sz)) 0 0 (va_A (wX x r tr pp h sl ++ wR Y r q S) sz) := by
  refine ct_in (cc := cX3_bestCall) (maxL := 6) (ret := (some .int)) (Qc := fun A : Nat → Prop => Qsi D (fun r9 w9 => r9 = D_X3_bestCall S w ∧ w9 = wX x r tr pp h sl ++ wR Y r q S) A) (by decide +kernel) rfl (Nat.le_of_ble_eq_true rfl) ?_
  intro p e s m below meth c A ls hx hb hr hts hown hml hlk hin hsz hA hP hD hK hS hl
  have hown : s.vm.findClass RX3 = some m.cls := hown
  have hl : lv_has ls 6 [(0, .ref x), (1, .int w)] := hl
  show W p l e ({ frames := 4, cells := 0, slots := 0, locals := 92 } : Room) s m ([.ref x, .int w] : List Value).toArray below meth c s.heap [] 0 0 (MQ below (Qsi D (fun r9 w9 => r9 = D_X3_bestCall S w ∧ w9 = wX x r tr pp h sl ++ wR Y r q S) A) ([.ref x, .int w] : List Value).toArray s 0 0 A) (F0 m 0 ls [])
  refine lv_iload_n hx hb dX3_bestCall_0 rfl (lv_at hl 1 rfl) ?_
  refine lv_if_eq (tgt := 12) hx hb dX3_bestCall_1 (by decide) (fun c_1 => ?_) (fun c_1 => ?_)
  · refine lv_iconst (v := 0) hx hb dX3_bestCall_12 (by decide) ?_
    refine lv_istore_n (lv' := [(2, .int 0), (0, .ref x), (1, .int w)]) hx hb dX3_bestCall_13 rfl hl (by decide) rfl (fun ls hl => ?_)
    refine lv_aload_n hx hb dX3_bestCall_14 rfl (lv_at hl 1 rfl) ?_
    refine va_get (D := D) (ci := 3) (v := .ref r) (C := RX3) (T := TX3) (N := 5) hx hb hts in_X3_bestCall_RX3 hown hK.1 hP 0 rfl rfl 0 (by decide) (hts (.fieldLink RX3 12 "NineDancers" "ring" "LNineDancers$Ring;") (by decide +kernel)) (fun _ h9 => h9) rfl dX3_bestCall_15 ?_
    refine lv_iconst (v := 0) hx hb dX3_bestCall_18 (by decide) ?_
    refine lv_iconst (v := 1) hx hb dX3_bestCall_19 (by decide) ?_
    refine ck_iD (wr := wX x r tr pp h sl) (ws' := wX x r tr pp h sl ++ wR Y r q S) (va_runV (As := [.int 0, .int 1]) (rest := []) ⟨hx, hb, hml, hown, hts⟩ (c_X2_wouldBring l D Y s.heap.size q S r 0 1) (cwV 2 hts gX3_bestCall_X2_wouldBring rfl rfl rfl (by decide +kernel) ⟨Nat.le_of_ble_eq_true rfl, Nat.le_of_ble_eq_true rfl⟩) (pst_V hK hP hD [1, 2, 3, 4, 5, 6, 7, 8, 9, 10, 11] rfl (by decide) (q0 := 0) rfl rfl) rfl rfl hl.1 rfl (lv_room (Nat.le_of_ble_eq_true rfl)) dX3_bestCall_20 ⟨Nat.zero_le _, Nat.zero_le _⟩) hP hD hS hA [1, 2, 3, 4, 5, 6, 7, 8, 9, 10, 11] [0] [0, 1, 2, 3, 4, 5, 6, 7, 8, 9, 10, 11] rfl rfl (by decide) (by decide) rfl (by decide) (fun H locs hP hD hS => ?_)
    refine lv_istore_n (lv' := [(3, .int (D_X2_wouldBring S 0 1)), (2, .int 0), (0, .ref x), (1, .int w)]) hx hb dX3_bestCall_23 rfl hl (by decide) rfl (fun ls hl => ?_)
    refine lv_iconst (v := 1) hx hb dX3_bestCall_24 (by decide) ?_
    refine lv_istore (lv' := [(4, .int 1), (3, .int (D_X2_wouldBring S 0 1)), (2, .int 0), (0, .ref x), (1, .int w)]) hx hb dX3_bestCall_25 hl (by decide) rfl (fun ls hl => ?_)
    have loop_27 : ∀ (n_27 k_27 : Nat) (i : Int32) (be : Int32) (mj : Int32) (H : Heap) (locs : List Loc) (ls : Array Slot), 10 ≤ k_27 + n_27 → k_27 ≤ 9 → i = nI k_27 → va_P D vwCl (wX x r tr pp h sl ++ wR Y r q S) H → va_D A (wX x r tr pp h sl ++ wR Y r q S) → va_S A s.heap H locs → lv_has ls 6 [(4, .int i), (3, .int mj), (2, .int be), (0, .ref x), (1, .int w)] → L_X3_bestCall_27 S w n_27 i be mj = L_X3_bestCall_27 S w 10 1 0 (D_X2_wouldBring S 0 1) → W p l e ({ frames := 4, cells := 0, slots := 0, locals := 92 } : Room) s m ([.ref x, .int w] : List Value).toArray below meth c H locs 0 0 (MQ below (Qsi D (fun r9 w9 => r9 = D_X3_bestCall S w ∧ w9 = wX x r tr pp h sl ++ wR Y r q S) A) ([.ref x, .int w] : List Value).toArray s 0 0 A) (F0 m 27 ls []) := by
      intro n_27
      induction n_27 with
      | zero => intro k_27 i be mj H locs ls hkf hkN_27 ex_27 hP hD hS hl hR_27; exact absurd hkf (by omega)
      | succ n_27 ih_27 =>
        intro k_27 i be mj H locs ls hkf hkN_27 ex_27 hP hD hS hl hR_27
        refine lv_iload hx hb dX3_bestCall_27 (lv_at hl 0 rfl) ?_
        refine lv_bipush (v := 9) hx hb dX3_bestCall_29 (by decide) ?_
        refine lv_icmp_ge (tgt := 64) hx hb dX3_bestCall_31 (by decide) (fun c_2 => ?_) (fun c_2 => ?_)
        · have e8 : L_X3_bestCall_27 S w (n_27 + 1) i be mj = (be, mj) := by rw [L_X3_bestCall_27, if_pos c_2]
          have e8 := hR_27.symm.trans e8
          have ebe : (L_X3_bestCall_27 S w 10 1 0 (D_X2_wouldBring S 0 1)).1 = be := by rw [e8]
          have emj : (L_X3_bestCall_27 S w 10 1 0 (D_X2_wouldBring S 0 1)).2 = mj := by rw [e8]
          clear e8 hR_27 ih_27
          refine lv_iload_n hx hb dX3_bestCall_64 rfl (lv_at hl 4 rfl) ?_
          refine lv_if_ne (tgt := 72) hx hb dX3_bestCall_65 (by decide) (fun c_3 => ?_) (fun c_3 => ?_)
          · refine lv_iload_n hx hb dX3_bestCall_72 rfl (lv_at hl 1 rfl) ?_
            subst emj
            subst ebe
            have e9 : D_X3_bestCall S w = ((L_X3_bestCall_27 S w 10 1 0 (D_X2_wouldBring S 0 1)).2) := by rw [D_X3_bestCall, if_pos c_1, if_neg c_3]
            exact ret_i hx hb hr hlk hP hD hS dX3_bestCall_73 ⟨Nat.zero_le _, Nat.zero_le _⟩ ⟨e9.symm, rfl⟩
          · refine lv_iload_n hx hb dX3_bestCall_68 rfl (lv_at hl 2 rfl) ?_
            refine lv_goto (tgt := 73) hx hb dX3_bestCall_69 (by decide) ?_
            subst emj
            subst ebe
            have e9 : D_X3_bestCall S w = ((L_X3_bestCall_27 S w 10 1 0 (D_X2_wouldBring S 0 1)).1) := by rw [D_X3_bestCall, if_pos c_1, if_pos c_3]
            exact ret_i hx hb hr hlk hP hD hS dX3_bestCall_73 ⟨Nat.zero_le _, Nat.zero_le _⟩ ⟨e9.symm, rfl⟩
        · have hk_27 := my_lt ex_27 (show (9 : Int32) = nI 9 from rfl) (by decide) hkN_27 c_2
          refine lv_aload_n hx hb dX3_bestCall_34 rfl (lv_at hl 3 rfl) ?_
          refine va_get (D := D) (ci := 3) (v := .ref r) (C := RX3) (T := TX3) (N := 5) hx hb hts in_X3_bestCall_RX3 hown hK.1 hP 0 rfl rfl 0 (by decide) (hts (.fieldLink RX3 12 "NineDancers" "ring" "LNineDancers$Ring;") (by decide +kernel)) (fun _ h9 => h9) rfl dX3_bestCall_35 ?_
          refine lv_iload hx hb dX3_bestCall_38 (lv_at hl 0 rfl) ?_
          refine lv_iconst (v := 1) hx hb dX3_bestCall_40 (by decide) ?_
          refine ck_iD (wr := wX x r tr pp h sl) (ws' := wX x r tr pp h sl ++ wR Y r q S) (va_runV (As := [.int i, .int 1]) (rest := []) ⟨hx, hb, hml, hown, hts⟩ (c_X2_wouldBring l D Y H.size q S r i 1) (cwV 2 hts gX3_bestCall_X2_wouldBring rfl rfl rfl (by decide +kernel) ⟨Nat.le_of_ble_eq_true rfl, Nat.le_of_ble_eq_true rfl⟩) (pst_V hK hP hD [1, 2, 3, 4, 5, 6, 7, 8, 9, 10, 11] rfl (by decide) (q0 := 0) rfl rfl) rfl rfl hl.1 rfl (lv_room (Nat.le_of_ble_eq_true rfl)) dX3_bestCall_41 ⟨Nat.zero_le _, Nat.zero_le _⟩) hP hD hS hA [1, 2, 3, 4, 5, 6, 7, 8, 9, 10, 11] [0] [0, 1, 2, 3, 4, 5, 6, 7, 8, 9, 10, 11] rfl rfl (by decide) (by decide) rfl (by decide) (fun H locs hP hD hS => ?_)
          refine lv_istore (lv' := [(5, .int (D_X2_wouldBring S i 1)), (4, .int i), (3, .int mj), (2, .int be), (0, .ref x), (1, .int w)]) hx hb dX3_bestCall_44 hl (by decide) rfl (fun ls hl => ?_)
          refine lv_iload hx hb dX3_bestCall_46 (lv_at hl 0 rfl) ?_
          refine lv_iload_n hx hb dX3_bestCall_48 rfl (lv_at hl 2 rfl) ?_
          refine lv_icmp_le (tgt := 58) hx hb dX3_bestCall_49 (by decide) (fun c_4 => ?_) (fun c_4 => ?_)
          · refine lv_iinc (v := i + 1) (lv' := [(4, .int (i + 1)), (5, .int (D_X2_wouldBring S i 1)), (3, .int mj), (2, .int be), (0, .ref x), (1, .int w)]) hx hb dX3_bestCall_58 hl (k := 1) rfl rfl (by decide) rfl (fun ls hl => ?_)
            refine lv_goto (tgt := 27) hx hb dX3_bestCall_61 (by decide) ?_
            exact ih_27 (k_27 + 1) (i + 1) be mj _ _ _ (by omega) (by omega) (by rw [ex_27]; exact nI_1 k_27)  hP hD hS (lv_sub hl [0, 2, 3, 4, 5] rfl) (by rw [L_X3_bestCall_27, if_neg c_2, if_pos c_4] at hR_27; exact hR_27)
          · refine lv_iload hx hb dX3_bestCall_52 (lv_at hl 1 rfl) ?_
            refine lv_istore_n (lv' := [(2, .int i), (5, .int (D_X2_wouldBring S i 1)), (4, .int i), (3, .int mj), (0, .ref x), (1, .int w)]) hx hb dX3_bestCall_54 rfl hl (by decide) rfl (fun ls hl => ?_)
            refine lv_iload hx hb dX3_bestCall_55 (lv_at hl 1 rfl) ?_
            refine lv_istore_n (lv' := [(3, .int (D_X2_wouldBring S i 1)), (2, .int i), (5, .int (D_X2_wouldBring S i 1)), (4, .int i), (0, .ref x), (1, .int w)]) hx hb dX3_bestCall_57 rfl hl (by decide) rfl (fun ls hl => ?_)
            refine lv_iinc (v := i + 1) (lv' := [(4, .int (i + 1)), (3, .int (D_X2_wouldBring S i 1)), (2, .int i), (5, .int (D_X2_wouldBring S i 1)), (0, .ref x), (1, .int w)]) hx hb dX3_bestCall_58 hl (k := 3) rfl rfl (by decide) rfl (fun ls hl => ?_)
            refine lv_goto (tgt := 27) hx hb dX3_bestCall_61 (by decide) ?_
            exact ih_27 (k_27 + 1) (i + 1) i (D_X2_wouldBring S i 1) _ _ _ (by omega) (by omega) (by rw [ex_27]; exact nI_1 k_27)  hP hD hS (lv_sub hl [0, 1, 2, 4, 5] rfl) (by rw [L_X3_bestCall_27, if_neg c_2, if_neg c_4] at hR_27; exact hR_27)
    exact loop_27 10 1 1 0 (D_X2_wouldBring S 0 1) _ _ _ (by omega) (by omega) rfl  hP hD hS (lv_sub hl [0, 1, 2, 3, 4] rfl) rfl
  · refine lv_iload_n hx hb dX3_bestCall_4 rfl (lv_at hl 1 rfl) ?_
    refine lv_iconst (v := 1) hx hb dX3_bestCall_5 (by decide) ?_
    refine lv_icmp_eq (tgt := 12) hx hb dX3_bestCall_6 (by decide) (fun c_5 => ?_) (fun c_5 => ?_)
    · refine lv_iconst (v := 0) hx hb dX3_bestCall_12 (by decide) ?_
      refine lv_istore_n (lv' := [(2, .int 0), (0, .ref x), (1, .int w)]) hx hb dX3_bestCall_13 rfl hl (by decide) rfl (fun ls hl => ?_)
      refine lv_aload_n hx hb dX3_bestCall_14 rfl (lv_at hl 1 rfl) ?_
      refine va_get (D := D) (ci := 3) (v := .ref r) (C := RX3) (T := TX3) (N := 5) hx hb hts in_X3_bestCall_RX3 hown hK.1 hP 0 rfl rfl 0 (by decide) (hts (.fieldLink RX3 12 "NineDancers" "ring" "LNineDancers$Ring;") (by decide +kernel)) (fun _ h9 => h9) rfl dX3_bestCall_15 ?_
      refine lv_iconst (v := 0) hx hb dX3_bestCall_18 (by decide) ?_
      refine lv_iconst (v := 1) hx hb dX3_bestCall_19 (by decide) ?_
      refine ck_iD (wr := wX x r tr pp h sl) (ws' := wX x r tr pp h sl ++ wR Y r q S) (va_runV (As := [.int 0, .int 1]) (rest := []) ⟨hx, hb, hml, hown, hts⟩ (c_X2_wouldBring l D Y s.heap.size q S r 0 1) (cwV 2 hts gX3_bestCall_X2_wouldBring rfl rfl rfl (by decide +kernel) ⟨Nat.le_of_ble_eq_true rfl, Nat.le_of_ble_eq_true rfl⟩) (pst_V hK hP hD [1, 2, 3, 4, 5, 6, 7, 8, 9, 10, 11] rfl (by decide) (q0 := 0) rfl rfl) rfl rfl hl.1 rfl (lv_room (Nat.le_of_ble_eq_true rfl)) dX3_bestCall_20 ⟨Nat.zero_le _, Nat.zero_le _⟩) hP hD hS hA [1, 2, 3, 4, 5, 6, 7, 8, 9, 10, 11] [0] [0, 1, 2, 3, 4, 5, 6, 7, 8, 9, 10, 11] rfl rfl (by decide) (by decide) rfl (by decide) (fun H locs hP hD hS => ?_)
      refine lv_istore_n (lv' := [(3, .int (D_X2_wouldBring S 0 1)), (2, .int 0), (0, .ref x), (1, .int w)]) hx hb dX3_bestCall_23 rfl hl (by decide) rfl (fun ls hl => ?_)
      refine lv_iconst (v := 1) hx hb dX3_bestCall_24 (by decide) ?_
      refine lv_istore (lv' := [(4, .int 1), (3, .int (D_X2_wouldBring S 0 1)), (2, .int 0), (0, .ref x), (1, .int w)]) hx hb dX3_bestCall_25 hl (by decide) rfl (fun ls hl => ?_)
      have loop_27 : ∀ (n_27 k_27 : Nat) (i : Int32) (be : Int32) (mj : Int32) (H : Heap) (locs : List Loc) (ls : Array Slot), 10 ≤ k_27 + n_27 → k_27 ≤ 9 → i = nI k_27 → va_P D vwCl (wX x r tr pp h sl ++ wR Y r q S) H → va_D A (wX x r tr pp h sl ++ wR Y r q S) → va_S A s.heap H locs → lv_has ls 6 [(4, .int i), (3, .int mj), (2, .int be), (0, .ref x), (1, .int w)] → L_X3_bestCall_27 S w n_27 i be mj = L_X3_bestCall_27 S w 10 1 0 (D_X2_wouldBring S 0 1) → W p l e ({ frames := 4, cells := 0, slots := 0, locals := 92 } : Room) s m ([.ref x, .int w] : List Value).toArray below meth c H locs 0 0 (MQ below (Qsi D (fun r9 w9 => r9 = D_X3_bestCall S w ∧ w9 = wX x r tr pp h sl ++ wR Y r q S) A) ([.ref x, .int w] : List Value).toArray s 0 0 A) (F0 m 27 ls []) := by
        intro n_27
        induction n_27 with
        | zero => intro k_27 i be mj H locs ls hkf hkN_27 ex_27 hP hD hS hl hR_27; exact absurd hkf (by omega)
        | succ n_27 ih_27 =>
          intro k_27 i be mj H locs ls hkf hkN_27 ex_27 hP hD hS hl hR_27
          refine lv_iload hx hb dX3_bestCall_27 (lv_at hl 0 rfl) ?_
          refine lv_bipush (v := 9) hx hb dX3_bestCall_29 (by decide) ?_
          refine lv_icmp_ge (tgt := 64) hx hb dX3_bestCall_31 (by decide) (fun c_6 => ?_) (fun c_6 => ?_)
          · have e8 : L_X3_bestCall_27 S w (n_27 + 1) i be mj = (be, mj) := by rw [L_X3_bestCall_27, if_pos c_6]
            have e8 := hR_27.symm.trans e8
            have ebe : (L_X3_bestCall_27 S w 10 1 0 (D_X2_wouldBring S 0 1)).1 = be := by rw [e8]
            have emj : (L_X3_bestCall_27 S w 10 1 0 (D_X2_wouldBring S 0 1)).2 = mj := by rw [e8]
            clear e8 hR_27 ih_27
            refine lv_iload_n hx hb dX3_bestCall_64 rfl (lv_at hl 4 rfl) ?_
            refine lv_if_ne (tgt := 72) hx hb dX3_bestCall_65 (by decide) (fun c_7 => ?_) (fun c_7 => ?_)
            · refine lv_iload_n hx hb dX3_bestCall_72 rfl (lv_at hl 1 rfl) ?_
              subst emj
              subst ebe
              have e9 : D_X3_bestCall S w = ((L_X3_bestCall_27 S w 10 1 0 (D_X2_wouldBring S 0 1)).2) := by rw [D_X3_bestCall, if_neg c_1, if_pos c_5, if_neg c_7]
              exact ret_i hx hb hr hlk hP hD hS dX3_bestCall_73 ⟨Nat.zero_le _, Nat.zero_le _⟩ ⟨e9.symm, rfl⟩
            · refine lv_iload_n hx hb dX3_bestCall_68 rfl (lv_at hl 2 rfl) ?_
              refine lv_goto (tgt := 73) hx hb dX3_bestCall_69 (by decide) ?_
              subst emj
              subst ebe
              have e9 : D_X3_bestCall S w = ((L_X3_bestCall_27 S w 10 1 0 (D_X2_wouldBring S 0 1)).1) := by rw [D_X3_bestCall, if_neg c_1, if_pos c_5, if_pos c_7]
              exact ret_i hx hb hr hlk hP hD hS dX3_bestCall_73 ⟨Nat.zero_le _, Nat.zero_le _⟩ ⟨e9.symm, rfl⟩
          · have hk_27 := my_lt ex_27 (show (9 : Int32) = nI 9 from rfl) (by decide) hkN_27 c_6
            refine lv_aload_n hx hb dX3_bestCall_34 rfl (lv_at hl 3 rfl) ?_
            refine va_get (D := D) (ci := 3) (v := .ref r) (C := RX3) (T := TX3) (N := 5) hx hb hts in_X3_bestCall_RX3 hown hK.1 hP 0 rfl rfl 0 (by decide) (hts (.fieldLink RX3 12 "NineDancers" "ring" "LNineDancers$Ring;") (by decide +kernel)) (fun _ h9 => h9) rfl dX3_bestCall_35 ?_
            refine lv_iload hx hb dX3_bestCall_38 (lv_at hl 0 rfl) ?_
            refine lv_iconst (v := 1) hx hb dX3_bestCall_40 (by decide) ?_
            refine ck_iD (wr := wX x r tr pp h sl) (ws' := wX x r tr pp h sl ++ wR Y r q S) (va_runV (As := [.int i, .int 1]) (rest := []) ⟨hx, hb, hml, hown, hts⟩ (c_X2_wouldBring l D Y H.size q S r i 1) (cwV 2 hts gX3_bestCall_X2_wouldBring rfl rfl rfl (by decide +kernel) ⟨Nat.le_of_ble_eq_true rfl, Nat.le_of_ble_eq_true rfl⟩) (pst_V hK hP hD [1, 2, 3, 4, 5, 6, 7, 8, 9, 10, 11] rfl (by decide) (q0 := 0) rfl rfl) rfl rfl hl.1 rfl (lv_room (Nat.le_of_ble_eq_true rfl)) dX3_bestCall_41 ⟨Nat.zero_le _, Nat.zero_le _⟩) hP hD hS hA [1, 2, 3, 4, 5, 6, 7, 8, 9, 10, 11] [0] [0, 1, 2, 3, 4, 5, 6, 7, 8, 9, 10, 11] rfl rfl (by decide) (by decide) rfl (by decide) (fun H locs hP hD hS => ?_)
            refine lv_istore (lv' := [(5, .int (D_X2_wouldBring S i 1)), (4, .int i), (3, .int mj), (2, .int be), (0, .ref x), (1, .int w)]) hx hb dX3_bestCall_44 hl (by decide) rfl (fun ls hl => ?_)
            refine lv_iload hx hb dX3_bestCall_46 (lv_at hl 0 rfl) ?_
            refine lv_iload_n hx hb dX3_bestCall_48 rfl (lv_at hl 2 rfl) ?_
            refine lv_icmp_le (tgt := 58) hx hb dX3_bestCall_49 (by decide) (fun c_8 => ?_) (fun c_8 => ?_)
            · refine lv_iinc (v := i + 1) (lv' := [(4, .int (i + 1)), (5, .int (D_X2_wouldBring S i 1)), (3, .int mj), (2, .int be), (0, .ref x), (1, .int w)]) hx hb dX3_bestCall_58 hl (k := 1) rfl rfl (by decide) rfl (fun ls hl => ?_)
              refine lv_goto (tgt := 27) hx hb dX3_bestCall_61 (by decide) ?_
              exact ih_27 (k_27 + 1) (i + 1) be mj _ _ _ (by omega) (by omega) (by rw [ex_27]; exact nI_1 k_27)  hP hD hS (lv_sub hl [0, 2, 3, 4, 5] rfl) (by rw [L_X3_bestCall_27, if_neg c_6, if_pos c_8] at hR_27; exact hR_27)
            · refine lv_iload hx hb dX3_bestCall_52 (lv_at hl 1 rfl) ?_
              refine lv_istore_n (lv' := [(2, .int i), (5, .int (D_X2_wouldBring S i 1)), (4, .int i), (3, .int mj), (0, .ref x), (1, .int w)]) hx hb dX3_bestCall_54 rfl hl (by decide) rfl (fun ls hl => ?_)
              refine lv_iload hx hb dX3_bestCall_55 (lv_at hl 1 rfl) ?_
              refine lv_istore_n (lv' := [(3, .int (D_X2_wouldBring S i 1)), (2, .int i), (5, .int (D_X2_wouldBring S i 1)), (4, .int i), (0, .ref x), (1, .int w)]) hx hb dX3_bestCall_57 rfl hl (by decide) rfl (fun ls hl => ?_)
              refine lv_iinc (v := i + 1) (lv' := [(4, .int (i + 1)), (3, .int (D_X2_wouldBring S i 1)), (2, .int i), (5, .int (D_X2_wouldBring S i 1)), (0, .ref x), (1, .int w)]) hx hb dX3_bestCall_58 hl (k := 3) rfl rfl (by decide) rfl (fun ls hl => ?_)
              refine lv_goto (tgt := 27) hx hb dX3_bestCall_61 (by decide) ?_
              exact ih_27 (k_27 + 1) (i + 1) i (D_X2_wouldBring S i 1) _ _ _ (by omega) (by omega) (by rw [ex_27]; exact nI_1 k_27)  hP hD hS (lv_sub hl [0, 1, 2, 4, 5] rfl) (by rw [L_X3_bestCall_27, if_neg c_6, if_neg c_8] at hR_27; exact hR_27)
      exact loop_27 10 1 1 0 (D_X2_wouldBring S 0 1) _ _ _ (by omega) (by omega) rfl  hP hD hS (lv_sub hl [0, 1, 2, 3, 4] rfl) rfl
    · refine lv_ldc (v := (-1000002)) hx hb hown (hts (.constant RX3 37 (-1000002)) (by decide +kernel)) dX3_bestCall_9 ?_
      have e9 : D_X3_bestCall S w = (-1000002) := by rw [D_X3_bestCall, if_neg c_1, if_neg c_5]
      exact ret_i hx hb hr hlk hP hD hS dX3_bestCall_11 ⟨Nat.zero_le _, Nat.zero_le _⟩ ⟨e9.symm, rfl⟩
def D_X3_fewestRounds (S : Nat → Nat → Int32) (w : Int32) : (Int32) := if w = 0 then (D_X2_remaindersWithUnmetPair S) else (if w = 1 then (D_X2_roundsByTrying S) else (-1000002))
set_option maxRecDepth 100000 in
theorem in_X3_fewestRounds_RX3 : ∀ w ∈ u_ws RX3 TX3 5, w ∈ wsX3_fewestRounds := by decide +kernel
set_option maxHeartbeats 4000000 in
set_option maxRecDepth 100000 in
theorem c_X3_fewestRounds (l : Launch) (D : va_G) (Y : YY) (sz : Nat) (r : Nat) (tr : Nat) (pp : Nat) (h : Nat) (sl : Nat) (q : Nat → Nat) (S : Nat → Nat → Int32) (x : Nat) (w : Int32) : Met l yX3_fewestRounds wsX3_fewestRounds ({ frames := 5, cells := 0, slots := 0, locals := 108 } : Room) (va_Pc [.ref x, .int w] (Pst D Y sz (wX x r tr pp h sl ++ wR Y r q S))) ((fun A : Nat → Prop => Qsi D (fun r9 w9 => r9 = D_X3_fewestRounds S w ∧ w9 = wX x r tr pp h sl ++ wR Y r q S) A) (va_A (wX x r tr pp h sl ++ wR Y r q S) sz)) 0 0 (va_A (wX x r tr pp h sl ++ wR Y r q S) sz) := by
  refine ct_in (cc := cX3_fewestRounds) (maxL := 2) (ret := (some .int)) (Qc := fun A : Nat → Prop => Qsi D (fun r9 w9 => r9 = D_X3_fewestRounds S w ∧ w9 = wX x r tr pp h sl ++ wR Y r q S) A) (by decide +kernel) rfl (Nat.le_of_ble_eq_true rfl) ?_
  intro p e s m below meth c A ls hx hb hr hts hown hml hlk hin hsz hA hP hD hK hS hl
  have hown : s.vm.findClass RX3 = some m.cls := hown
  have hl : lv_has ls 2 [(0, .ref x), (1, .int w)] := hl
  show W p l e ({ frames := 5, cells := 0, slots := 0, locals := 108 } : Room) s m ([.ref x, .int w] : List Value).toArray below meth c s.heap [] 0 0 (MQ below (Qsi D (fun r9 w9 => r9 = D_X3_fewestRounds S w ∧ w9 = wX x r tr pp h sl ++ wR Y r q S) A) ([.ref x, .int w] : List Value).toArray s 0 0 A) (F0 m 0 ls [])
  refine lv_iload_n hx hb dX3_fewestRounds_0 rfl (lv_at hl 1 rfl) ?_
  rcases Decidable.em (w = 0) with c_1 | c_1
  · refine lv_lookup (off := 27) (tgt := 28) hx hb dX3_fewestRounds_1 (by decide) (by rw [c_1]; rfl) (by decide) ?_
    refine lv_aload_n hx hb dX3_fewestRounds_28 rfl (lv_at hl 0 rfl) ?_
    refine va_get (D := D) (ci := 3) (v := .ref r) (C := RX3) (T := TX3) (N := 5) hx hb hts in_X3_fewestRounds_RX3 hown hK.1 hP 0 rfl rfl 0 (by decide) (hts (.fieldLink RX3 12 "NineDancers" "ring" "LNineDancers$Ring;") (by decide +kernel)) (fun _ h9 => h9) rfl dX3_fewestRounds_29 ?_
    refine ck_iD (wr := wX x r tr pp h sl) (ws' := wX x r tr pp h sl ++ wR Y r q S) (va_runV (As := []) (rest := []) ⟨hx, hb, hml, hown, hts⟩ (c_X2_remaindersWithUnmetPair l D Y s.heap.size q S r) (cwV 0 hts gX3_fewestRounds_X2_remaindersWithUnmetPair rfl rfl rfl (by decide +kernel) ⟨Nat.le_of_ble_eq_true rfl, Nat.le_of_ble_eq_true rfl⟩) (pst_V hK hP hD [1, 2, 3, 4, 5, 6, 7, 8, 9, 10, 11] rfl (by decide) (q0 := 0) rfl rfl) rfl rfl hl.1 rfl (lv_room (Nat.le_of_ble_eq_true rfl)) dX3_fewestRounds_32 ⟨Nat.zero_le _, Nat.zero_le _⟩) hP hD hS hA [1, 2, 3, 4, 5, 6, 7, 8, 9, 10, 11] [0] [0, 1, 2, 3, 4, 5, 6, 7, 8, 9, 10, 11] rfl rfl (by decide) (by decide) rfl (by decide) (fun H locs hP hD hS => ?_)
    have e9 : D_X3_fewestRounds S w = D_X2_remaindersWithUnmetPair S := by rw [D_X3_fewestRounds, if_pos c_1]
    exact ret_i hx hb hr hlk hP hD hS dX3_fewestRounds_35 ⟨Nat.zero_le _, Nat.zero_le _⟩ ⟨e9.symm, rfl⟩
  rcases Decidable.em (w = 1) with c_2 | c_2
  · refine lv_lookup (off := 35) (tgt := 36) hx hb dX3_fewestRounds_1 (by decide) (by rw [c_2]; rfl) (by decide) ?_
    refine lv_aload_n hx hb dX3_fewestRounds_36 rfl (lv_at hl 0 rfl) ?_
    refine va_get (D := D) (ci := 3) (v := .ref r) (C := RX3) (T := TX3) (N := 5) hx hb hts in_X3_fewestRounds_RX3 hown hK.1 hP 0 rfl rfl 0 (by decide) (hts (.fieldLink RX3 12 "NineDancers" "ring" "LNineDancers$Ring;") (by decide +kernel)) (fun _ h9 => h9) rfl dX3_fewestRounds_37 ?_
    refine ck_iD (wr := wX x r tr pp h sl) (ws' := wX x r tr pp h sl ++ wR Y r q S) (va_runV (As := []) (rest := []) ⟨hx, hb, hml, hown, hts⟩ (c_X2_roundsByTrying l D Y s.heap.size q S r) (cwV 0 hts gX3_fewestRounds_X2_roundsByTrying rfl rfl rfl (by decide +kernel) ⟨Nat.le_of_ble_eq_true rfl, Nat.le_of_ble_eq_true rfl⟩) (pst_V hK hP hD [1, 2, 3, 4, 5, 6, 7, 8, 9, 10, 11] rfl (by decide) (q0 := 0) rfl rfl) rfl rfl hl.1 rfl (lv_room (Nat.le_of_ble_eq_true rfl)) dX3_fewestRounds_40 ⟨Nat.zero_le _, Nat.zero_le _⟩) hP hD hS hA [1, 2, 3, 4, 5, 6, 7, 8, 9, 10, 11] [0] [0, 1, 2, 3, 4, 5, 6, 7, 8, 9, 10, 11] rfl rfl (by decide) (by decide) rfl (by decide) (fun H locs hP hD hS => ?_)
    have e9 : D_X3_fewestRounds S w = D_X2_roundsByTrying S := by rw [D_X3_fewestRounds, if_neg c_1, if_pos c_2]
    exact ret_i hx hb hr hlk hP hD hS dX3_fewestRounds_43 ⟨Nat.zero_le _, Nat.zero_le _⟩ ⟨e9.symm, rfl⟩
  refine lv_lookup (off := 43) (tgt := 44) hx hb dX3_fewestRounds_1 (by decide) (by rw [show (#[(0, 27), (1, 35)] : Array (Int × Int)).toList = [(0, 27), (1, 35)] from rfl, lv_osw c_1 (show (0 : Int32).toInt = 0 from rfl), lv_osw c_2 (show (1 : Int32).toInt = 1 from rfl)]; rfl) (by decide) ?_
  refine lv_ldc (v := (-1000002)) hx hb hown (hts (.constant RX3 37 (-1000002)) (by decide +kernel)) dX3_fewestRounds_44 ?_
  have e9 : D_X3_fewestRounds S w = (-1000002) := by rw [D_X3_fewestRounds, if_neg c_1, if_neg c_2]
  exact ret_i hx hb hr hlk hP hD hS dX3_fewestRounds_46 ⟨Nat.zero_le _, Nat.zero_le _⟩ ⟨e9.symm, rfl⟩
def L_X3_untilAllMet_21 (S : Nat → Nat → Int32) (Z : Nat → Nat → Int32) (S_1 : Nat → Nat → Int32) : Nat → (Int32) → (Int32) → (Nat → Nat → Int32) → (Int32) × (Nat → Nat → Int32)
  | 0, i, u, Z1 => (u, Z1)
  | n_21 + 1, i, u, Z1 => if 500 ≤ i then (u, Z1) else (if u ≤ 0 then (u, Z1) else (L_X3_untilAllMet_21 S Z S_1 n_21 (i + 1) (u - (D_X2_wouldBring Z1 (D_X3_remainderOf i) 3)) ((D_X2_danceRound Z1 (D_X3_remainderOf i)).2)))
def D_X3_untilAllMet (S : Nat → Nat → Int32) (Z : Nat → Nat → Int32)  : (Int32) × (Nat → Nat → Int32) := if ((L_X3_untilAllMet_21 S Z (D_X2_copyFrom Z S) 501 0 (D_X2_unmetPairs (D_X2_copyFrom Z S)) (D_X2_copyFrom Z S)).1) ≤ 0 then ((((L_X3_untilAllMet_21 S Z (D_X2_copyFrom Z S) 501 0 (D_X2_unmetPairs (D_X2_copyFrom Z S)) (D_X2_copyFrom Z S)).2) 10 1) - (S 10 1), ((L_X3_untilAllMet_21 S Z (D_X2_copyFrom Z S) 501 0 (D_X2_unmetPairs (D_X2_copyFrom Z S)) (D_X2_copyFrom Z S)).2)) else ((-1000006), ((L_X3_untilAllMet_21 S Z (D_X2_copyFrom Z S) 501 0 (D_X2_unmetPairs (D_X2_copyFrom Z S)) (D_X2_copyFrom Z S)).2))
set_option maxRecDepth 100000 in
theorem in_X3_untilAllMet_RX2 : ∀ w ∈ u_ws RX2 TX2 13, w ∈ wsX3_untilAllMet := by decide +kernel
set_option maxRecDepth 100000 in
theorem in_X3_untilAllMet_RX3 : ∀ w ∈ u_ws RX3 TX3 5, w ∈ wsX3_untilAllMet := by decide +kernel
set_option maxHeartbeats 4000000 in
set_option maxRecDepth 100000 in
theorem c_X3_untilAllMet (l : Launch) (D : va_G) (Y : YY) (sz : Nat) (r : Nat) (tr : Nat) (pp : Nat) (h : Nat) (sl : Nat) (q : Nat → Nat) (q1 : Nat → Nat) (S : Nat → Nat → Int32) (Z : Nat → Nat → Int32) (x : Nat) : Met l yX3_untilAllMet wsX3_untilAllMet ({ frames := 4, cells := 0, slots := 0, locals := 92 } : Room) (va_Pc [.ref x] (Pst D Y sz (wX x r tr pp h sl ++ (wR Y r q S ++ wR Y tr q1 Z)))) ((fun A : Nat → Prop => Qsi D (fun r9 w9 => r9 = (D_X3_untilAllMet S Z).1 ∧ w9 = wX x r tr pp h sl ++ (wR Y r q S ++ wR Y tr q1 ((D_X3_untilAllMet S Z).2))) A) (va_A (wX x r tr pp h sl ++ (wR Y r q S ++ wR Y tr q1 Z)) sz)) 0 0 (va_A (wX x r tr pp h sl ++ (wR Y r q S ++ wR Y tr q1 Z)) sz) := by
  refine ct_in (cc := cX3_untilAllMet) (maxL := 4) (ret := (some .int)) (Qc := fun A : Nat → Prop => Qsi D (fun r9 w9 => r9 = (D_X3_untilAllMet S Z).1 ∧ w9 = wX x r tr pp h sl ++ (wR Y r q S ++ wR Y tr q1 ((D_X3_untilAllMet S Z).2))) A) (by decide +kernel) rfl (Nat.le_of_ble_eq_true rfl) ?_
  intro p e s m below meth c A ls hx hb hr hts hown hml hlk hin hsz hA hP hD hK hS hl
  have hown : s.vm.findClass RX3 = some m.cls := hown
  have hl : lv_has ls 4 [(0, .ref x)] := hl
  show W p l e ({ frames := 4, cells := 0, slots := 0, locals := 92 } : Room) s m ([.ref x] : List Value).toArray below meth c s.heap [] 0 0 (MQ below (Qsi D (fun r9 w9 => r9 = (D_X3_untilAllMet S Z).1 ∧ w9 = wX x r tr pp h sl ++ (wR Y r q S ++ wR Y tr q1 ((D_X3_untilAllMet S Z).2))) A) ([.ref x] : List Value).toArray s 0 0 A) (F0 m 0 ls [])
  refine lv_aload_n hx hb dX3_untilAllMet_0 rfl (lv_at hl 0 rfl) ?_
  refine va_get (D := D) (ci := 3) (v := .ref tr) (C := RX3) (T := TX3) (N := 5) hx hb hts in_X3_untilAllMet_RX3 hown hK.1 hP 0 rfl rfl 1 (by decide) (hts (.fieldLink RX3 16 "NineDancers" "trial" "LNineDancers$Ring;") (by decide +kernel)) (fun _ h9 => h9) rfl dX3_untilAllMet_1 ?_
  refine lv_aload_n hx hb dX3_untilAllMet_4 rfl (lv_at hl 0 rfl) ?_
  refine va_get (D := D) (ci := 3) (v := .ref r) (C := RX3) (T := TX3) (N := 5) hx hb hts in_X3_untilAllMet_RX3 hown hK.1 hP 0 rfl rfl 0 (by decide) (hts (.fieldLink RX3 12 "NineDancers" "ring" "LNineDancers$Ring;") (by decide +kernel)) (fun _ h9 => h9) rfl dX3_untilAllMet_5 ?_
  refine ck_vD (wr := wX x r tr pp h sl) (ws' := wX x r tr pp h sl ++ (wR Y r q S ++ wR Y tr q1 (D_X2_copyFrom Z S))) (va_runV (As := [.ref r]) (rest := []) ⟨hx, hb, hml, hown, hts⟩ (c_X2_copyFrom l D Y s.heap.size q1 q Z S tr r) (cwV 1 hts gX3_untilAllMet_X2_copyFrom rfl rfl rfl (by decide +kernel) ⟨Nat.le_of_ble_eq_true rfl, Nat.le_of_ble_eq_true rfl⟩) (pst_V hK hP hD [12, 13, 14, 15, 16, 17, 18, 19, 20, 21, 22, 1, 2, 3, 4, 5, 6, 7, 8, 9, 10, 11] rfl (by decide) (q0 := 0) rfl rfl) rfl rfl hl.1 rfl (lv_room (Nat.le_of_ble_eq_true rfl)) dX3_untilAllMet_8 ⟨Nat.zero_le _, Nat.zero_le _⟩) hP hD hS hA [12, 13, 14, 15, 16, 17, 18, 19, 20, 21, 22, 1, 2, 3, 4, 5, 6, 7, 8, 9, 10, 11] [0] [0, 12, 13, 14, 15, 16, 17, 18, 19, 20, 21, 22, 1, 2, 3, 4, 5, 6, 7, 8, 9, 10, 11] rfl rfl (by decide) (by decide) rfl (by decide) (fun H locs hP hD hS => ?_)
  obtain ⟨S_1, eS_1⟩ : ∃ z9, (D_X2_copyFrom Z S) = z9 := ⟨_, rfl⟩
  rw [eS_1] at hP hD
  refine lv_aload_n hx hb dX3_untilAllMet_11 rfl (lv_at hl 0 rfl) ?_
  refine va_get (D := D) (ci := 3) (v := .ref tr) (C := RX3) (T := TX3) (N := 5) hx hb hts in_X3_untilAllMet_RX3 hown hK.1 hP 0 rfl rfl 1 (by decide) (hts (.fieldLink RX3 16 "NineDancers" "trial" "LNineDancers$Ring;") (by decide +kernel)) (fun _ h9 => h9) rfl dX3_untilAllMet_12 ?_
  refine ck_iD (wr := wX x r tr pp h sl ++ wR Y r q S) (ws' := wX x r tr pp h sl ++ (wR Y r q S ++ wR Y tr q1 S_1)) (va_runV (As := []) (rest := []) ⟨hx, hb, hml, hown, hts⟩ (c_X2_unmetPairs l D Y H.size q1 S_1 tr) (cwV 0 hts gX3_untilAllMet_X2_unmetPairs rfl rfl rfl (by decide +kernel) ⟨Nat.le_of_ble_eq_true rfl, Nat.le_of_ble_eq_true rfl⟩) (pst_V hK hP hD [12, 13, 14, 15, 16, 17, 18, 19, 20, 21, 22] rfl (by decide) (q0 := 0) rfl rfl) rfl rfl hl.1 rfl (lv_room (Nat.le_of_ble_eq_true rfl)) dX3_untilAllMet_15 ⟨Nat.zero_le _, Nat.zero_le _⟩) hP hD hS hA [12, 13, 14, 15, 16, 17, 18, 19, 20, 21, 22] [0, 1, 2, 3, 4, 5, 6, 7, 8, 9, 10, 11] [0, 1, 2, 3, 4, 5, 6, 7, 8, 9, 10, 11, 12, 13, 14, 15, 16, 17, 18, 19, 20, 21, 22] rfl rfl (by decide) (by decide) rfl (by decide) (fun H locs hP hD hS => ?_)
  refine lv_istore_n (lv' := [(1, .int (D_X2_unmetPairs S_1)), (0, .ref x)]) hx hb dX3_untilAllMet_18 rfl hl (by decide) rfl (fun ls hl => ?_)
  refine lv_iconst (v := 0) hx hb dX3_untilAllMet_19 (by decide) ?_
  refine lv_istore_n (lv' := [(2, .int 0), (1, .int (D_X2_unmetPairs S_1)), (0, .ref x)]) hx hb dX3_untilAllMet_20 rfl hl (by decide) rfl (fun ls hl => ?_)
  have loop_21 : ∀ (n_21 k_21 : Nat) (i : Int32) (u : Int32) (Z1 : Nat → Nat → Int32) (H : Heap) (locs : List Loc) (ls : Array Slot), 501 ≤ k_21 + n_21 → k_21 ≤ 500 → i = nI k_21 → va_P D vwCl (wX x r tr pp h sl ++ (wR Y r q S ++ wR Y tr q1 Z1)) H → va_D A (wX x r tr pp h sl ++ (wR Y r q S ++ wR Y tr q1 Z1)) → va_S A s.heap H locs → lv_has ls 4 [(2, .int i), (1, .int u), (0, .ref x)] → L_X3_untilAllMet_21 S Z S_1 n_21 i u Z1 = L_X3_untilAllMet_21 S Z S_1 501 0 (D_X2_unmetPairs S_1) S_1 → W p l e ({ frames := 4, cells := 0, slots := 0, locals := 92 } : Room) s m ([.ref x] : List Value).toArray below meth c H locs 0 0 (MQ below (Qsi D (fun r9 w9 => r9 = (D_X3_untilAllMet S Z).1 ∧ w9 = wX x r tr pp h sl ++ (wR Y r q S ++ wR Y tr q1 ((D_X3_untilAllMet S Z).2))) A) ([.ref x] : List Value).toArray s 0 0 A) (F0 m 21 ls []) := by
    intro n_21
    induction n_21 with
    | zero => intro k_21 i u Z1 H locs ls hkf hkN_21 ex_21 hP hD hS hl hR_21; exact absurd hkf (by omega)
    | succ n_21 ih_21 =>
      intro k_21 i u Z1 H locs ls hkf hkN_21 ex_21 hP hD hS hl hR_21
      refine lv_iload_n hx hb dX3_untilAllMet_21 rfl (lv_at hl 0 rfl) ?_
      refine lv_sipush (v := 500) hx hb dX3_untilAllMet_22 (by decide) ?_
      refine lv_icmp_ge (tgt := 64) hx hb dX3_untilAllMet_25 (by decide) (fun c_1 => ?_) (fun c_1 => ?_)
      · have e8 : L_X3_untilAllMet_21 S Z S_1 (n_21 + 1) i u Z1 = (u, Z1) := by rw [L_X3_untilAllMet_21, if_pos c_1]
        have e8 := hR_21.symm.trans e8
        have eu : (L_X3_untilAllMet_21 S Z S_1 501 0 (D_X2_unmetPairs S_1) S_1).1 = u := by rw [e8]
        have eZ1 : (L_X3_untilAllMet_21 S Z S_1 501 0 (D_X2_unmetPairs S_1) S_1).2 = Z1 := by rw [e8]
        clear e8 hR_21 ih_21
        refine lv_iload_n hx hb dX3_untilAllMet_64 rfl (lv_at hl 1 rfl) ?_
        refine lv_if_le (tgt := 73) hx hb dX3_untilAllMet_65 (by decide) (fun c_2 => ?_) (fun c_2 => ?_)
        · refine lv_aload_n hx hb dX3_untilAllMet_73 rfl (lv_at hl 2 rfl) ?_
          refine va_get (D := D) (ci := 3) (v := .ref tr) (C := RX3) (T := TX3) (N := 5) hx hb hts in_X3_untilAllMet_RX3 hown hK.1 hP 0 rfl rfl 1 (by decide) (hts (.fieldLink RX3 16 "NineDancers" "trial" "LNineDancers$Ring;") (by decide +kernel)) (fun _ h9 => h9) rfl dX3_untilAllMet_74 ?_
          refine va_get (D := D) (ci := 2) (v := .int (Z1 10 1)) (C := RX2) (T := TX2) (N := 13) hx hb hts in_X3_untilAllMet_RX2 hown hK.1 hP 12 rfl rfl 11 (by decide) (hts (.fieldLink RX3 75 "NineDancers$Ring" "rounds" "I") (by decide +kernel)) (fun _ h9 => h9) rfl dX3_untilAllMet_77 ?_
          refine lv_aload_n hx hb dX3_untilAllMet_80 rfl (lv_at hl 2 rfl) ?_
          refine va_get (D := D) (ci := 3) (v := .ref r) (C := RX3) (T := TX3) (N := 5) hx hb hts in_X3_untilAllMet_RX3 hown hK.1 hP 0 rfl rfl 0 (by decide) (hts (.fieldLink RX3 12 "NineDancers" "ring" "LNineDancers$Ring;") (by decide +kernel)) (fun _ h9 => h9) rfl dX3_untilAllMet_81 ?_
          refine va_get (D := D) (ci := 2) (v := .int (S 10 1)) (C := RX2) (T := TX2) (N := 13) hx hb hts in_X3_untilAllMet_RX2 hown hK.1 hP 1 rfl rfl 11 (by decide) (hts (.fieldLink RX3 75 "NineDancers$Ring" "rounds" "I") (by decide +kernel)) (fun _ h9 => h9) rfl dX3_untilAllMet_84 ?_
          refine lv_isub hx hb dX3_untilAllMet_87 ?_
          subst eZ1
          subst eu
          subst eS_1
          have e9 : D_X3_untilAllMet S Z = ((((L_X3_untilAllMet_21 S Z (D_X2_copyFrom Z S) 501 0 (D_X2_unmetPairs (D_X2_copyFrom Z S)) (D_X2_copyFrom Z S)).2) 10 1) - (S 10 1), ((L_X3_untilAllMet_21 S Z (D_X2_copyFrom Z S) 501 0 (D_X2_unmetPairs (D_X2_copyFrom Z S)) (D_X2_copyFrom Z S)).2)) := by rw [D_X3_untilAllMet, if_pos c_2]
          exact ret_i hx hb hr hlk hP hD hS dX3_untilAllMet_88 ⟨Nat.zero_le _, Nat.zero_le _⟩ ⟨by rw [e9], by rw [e9]⟩
        · refine lv_ldc (v := (-1000006)) hx hb hown (hts (.constant RX3 86 (-1000006)) (by decide +kernel)) dX3_untilAllMet_68 ?_
          refine lv_goto (tgt := 88) hx hb dX3_untilAllMet_70 (by decide) ?_
          subst eZ1
          subst eu
          subst eS_1
          have e9 : D_X3_untilAllMet S Z = ((-1000006), ((L_X3_untilAllMet_21 S Z (D_X2_copyFrom Z S) 501 0 (D_X2_unmetPairs (D_X2_copyFrom Z S)) (D_X2_copyFrom Z S)).2)) := by rw [D_X3_untilAllMet, if_neg c_2]
          exact ret_i hx hb hr hlk hP hD hS dX3_untilAllMet_88 ⟨Nat.zero_le _, Nat.zero_le _⟩ ⟨by rw [e9], by rw [e9]⟩
      · have hk_21 := my_lt ex_21 (show (500 : Int32) = nI 500 from rfl) (by decide) hkN_21 c_1
        refine lv_iload_n hx hb dX3_untilAllMet_28 rfl (lv_at hl 1 rfl) ?_
        refine lv_if_le (tgt := 64) hx hb dX3_untilAllMet_29 (by decide) (fun c_3 => ?_) (fun c_3 => ?_)
        · have e8 : L_X3_untilAllMet_21 S Z S_1 (n_21 + 1) i u Z1 = (u, Z1) := by rw [L_X3_untilAllMet_21, if_neg c_1, if_pos c_3]
          have e8 := hR_21.symm.trans e8
          have eu : (L_X3_untilAllMet_21 S Z S_1 501 0 (D_X2_unmetPairs S_1) S_1).1 = u := by rw [e8]
          have eZ1 : (L_X3_untilAllMet_21 S Z S_1 501 0 (D_X2_unmetPairs S_1) S_1).2 = Z1 := by rw [e8]
          clear e8 hR_21 ih_21
          refine lv_iload_n hx hb dX3_untilAllMet_64 rfl (lv_at hl 1 rfl) ?_
          refine lv_if_le (tgt := 73) hx hb dX3_untilAllMet_65 (by decide) (fun c_4 => ?_) (fun c_4 => ?_)
          · refine lv_aload_n hx hb dX3_untilAllMet_73 rfl (lv_at hl 2 rfl) ?_
            refine va_get (D := D) (ci := 3) (v := .ref tr) (C := RX3) (T := TX3) (N := 5) hx hb hts in_X3_untilAllMet_RX3 hown hK.1 hP 0 rfl rfl 1 (by decide) (hts (.fieldLink RX3 16 "NineDancers" "trial" "LNineDancers$Ring;") (by decide +kernel)) (fun _ h9 => h9) rfl dX3_untilAllMet_74 ?_
            refine va_get (D := D) (ci := 2) (v := .int (Z1 10 1)) (C := RX2) (T := TX2) (N := 13) hx hb hts in_X3_untilAllMet_RX2 hown hK.1 hP 12 rfl rfl 11 (by decide) (hts (.fieldLink RX3 75 "NineDancers$Ring" "rounds" "I") (by decide +kernel)) (fun _ h9 => h9) rfl dX3_untilAllMet_77 ?_
            refine lv_aload_n hx hb dX3_untilAllMet_80 rfl (lv_at hl 2 rfl) ?_
            refine va_get (D := D) (ci := 3) (v := .ref r) (C := RX3) (T := TX3) (N := 5) hx hb hts in_X3_untilAllMet_RX3 hown hK.1 hP 0 rfl rfl 0 (by decide) (hts (.fieldLink RX3 12 "NineDancers" "ring" "LNineDancers$Ring;") (by decide +kernel)) (fun _ h9 => h9) rfl dX3_untilAllMet_81 ?_
            refine va_get (D := D) (ci := 2) (v := .int (S 10 1)) (C := RX2) (T := TX2) (N := 13) hx hb hts in_X3_untilAllMet_RX2 hown hK.1 hP 1 rfl rfl 11 (by decide) (hts (.fieldLink RX3 75 "NineDancers$Ring" "rounds" "I") (by decide +kernel)) (fun _ h9 => h9) rfl dX3_untilAllMet_84 ?_
            refine lv_isub hx hb dX3_untilAllMet_87 ?_
            subst eZ1
            subst eu
            subst eS_1
            have e9 : D_X3_untilAllMet S Z = ((((L_X3_untilAllMet_21 S Z (D_X2_copyFrom Z S) 501 0 (D_X2_unmetPairs (D_X2_copyFrom Z S)) (D_X2_copyFrom Z S)).2) 10 1) - (S 10 1), ((L_X3_untilAllMet_21 S Z (D_X2_copyFrom Z S) 501 0 (D_X2_unmetPairs (D_X2_copyFrom Z S)) (D_X2_copyFrom Z S)).2)) := by rw [D_X3_untilAllMet, if_pos c_4]
            exact ret_i hx hb hr hlk hP hD hS dX3_untilAllMet_88 ⟨Nat.zero_le _, Nat.zero_le _⟩ ⟨by rw [e9], by rw [e9]⟩
          · refine lv_ldc (v := (-1000006)) hx hb hown (hts (.constant RX3 86 (-1000006)) (by decide +kernel)) dX3_untilAllMet_68 ?_
            refine lv_goto (tgt := 88) hx hb dX3_untilAllMet_70 (by decide) ?_
            subst eZ1
            subst eu
            subst eS_1
            have e9 : D_X3_untilAllMet S Z = ((-1000006), ((L_X3_untilAllMet_21 S Z (D_X2_copyFrom Z S) 501 0 (D_X2_unmetPairs (D_X2_copyFrom Z S)) (D_X2_copyFrom Z S)).2)) := by rw [D_X3_untilAllMet, if_neg c_4]
            exact ret_i hx hb hr hlk hP hD hS dX3_untilAllMet_88 ⟨Nat.zero_le _, Nat.zero_le _⟩ ⟨by rw [e9], by rw [e9]⟩
        · refine lv_iload_n hx hb dX3_untilAllMet_32 rfl (lv_at hl 0 rfl) ?_
          refine ck_iD (wr := wX x r tr pp h sl ++ (wR Y r q S ++ wR Y tr q1 Z1)) (ws' := wX x r tr pp h sl ++ (wR Y r q S ++ wR Y tr q1 Z1)) (va_runS (As := [.int i]) (rest := []) ⟨hx, hb, hml, hown, hts⟩ (c_X3_remainderOf l D Y H.size i) (va_cwS 1 hts gX3_untilAllMet_X3_remainderOf rfl rfl rfl (by decide +kernel) ⟨Nat.le_of_ble_eq_true rfl, Nat.le_of_ble_eq_true rfl⟩) (pst_S hK hP hD [] rfl (by decide)) rfl rfl hl.1 rfl (lv_room (Nat.le_of_ble_eq_true rfl)) dX3_untilAllMet_33 ⟨Nat.zero_le _, Nat.zero_le _⟩) hP hD hS hA [] [0, 1, 2, 3, 4, 5, 6, 7, 8, 9, 10, 11, 12, 13, 14, 15, 16, 17, 18, 19, 20, 21, 22] [0, 1, 2, 3, 4, 5, 6, 7, 8, 9, 10, 11, 12, 13, 14, 15, 16, 17, 18, 19, 20, 21, 22] rfl rfl (by decide) (by decide) rfl (by decide) (fun H locs hP hD hS => ?_)
          refine lv_istore_n (lv' := [(3, .int (D_X3_remainderOf i)), (2, .int i), (1, .int u), (0, .ref x)]) hx hb dX3_untilAllMet_36 rfl hl (by decide) rfl (fun ls hl => ?_)
          refine lv_iload_n hx hb dX3_untilAllMet_37 rfl (lv_at hl 2 rfl) ?_
          refine lv_aload_n hx hb dX3_untilAllMet_38 rfl (lv_at hl 3 rfl) ?_
          refine va_get (D := D) (ci := 3) (v := .ref tr) (C := RX3) (T := TX3) (N := 5) hx hb hts in_X3_untilAllMet_RX3 hown hK.1 hP 0 rfl rfl 1 (by decide) (hts (.fieldLink RX3 16 "NineDancers" "trial" "LNineDancers$Ring;") (by decide +kernel)) (fun _ h9 => h9) rfl dX3_untilAllMet_39 ?_
          refine lv_iload_n hx hb dX3_untilAllMet_42 rfl (lv_at hl 0 rfl) ?_
          refine lv_iconst (v := 3) hx hb dX3_untilAllMet_43 (by decide) ?_
          refine ck_iD (wr := wX x r tr pp h sl ++ wR Y r q S) (ws' := wX x r tr pp h sl ++ (wR Y r q S ++ wR Y tr q1 Z1)) (va_runV (As := [.int (D_X3_remainderOf i), .int 3]) (rest := [.int u]) ⟨hx, hb, hml, hown, hts⟩ (c_X2_wouldBring l D Y H.size q1 Z1 tr (D_X3_remainderOf i) 3) (cwV 2 hts gX3_untilAllMet_X2_wouldBring rfl rfl rfl (by decide +kernel) ⟨Nat.le_of_ble_eq_true rfl, Nat.le_of_ble_eq_true rfl⟩) (pst_V hK hP hD [12, 13, 14, 15, 16, 17, 18, 19, 20, 21, 22] rfl (by decide) (q0 := 0) rfl rfl) rfl rfl hl.1 rfl (lv_room (Nat.le_of_ble_eq_true rfl)) dX3_untilAllMet_44 ⟨Nat.zero_le _, Nat.zero_le _⟩) hP hD hS hA [12, 13, 14, 15, 16, 17, 18, 19, 20, 21, 22] [0, 1, 2, 3, 4, 5, 6, 7, 8, 9, 10, 11] [0, 1, 2, 3, 4, 5, 6, 7, 8, 9, 10, 11, 12, 13, 14, 15, 16, 17, 18, 19, 20, 21, 22] rfl rfl (by decide) (by decide) rfl (by decide) (fun H locs hP hD hS => ?_)
          refine lv_isub hx hb dX3_untilAllMet_47 ?_
          refine lv_istore_n (lv' := [(1, .int (u - (D_X2_wouldBring Z1 (D_X3_remainderOf i) 3))), (3, .int (D_X3_remainderOf i)), (2, .int i), (0, .ref x)]) hx hb dX3_untilAllMet_48 rfl hl (by decide) rfl (fun ls hl => ?_)
          refine lv_aload_n hx hb dX3_untilAllMet_49 rfl (lv_at hl 3 rfl) ?_
          refine va_get (D := D) (ci := 3) (v := .ref tr) (C := RX3) (T := TX3) (N := 5) hx hb hts in_X3_untilAllMet_RX3 hown hK.1 hP 0 rfl rfl 1 (by decide) (hts (.fieldLink RX3 16 "NineDancers" "trial" "LNineDancers$Ring;") (by decide +kernel)) (fun _ h9 => h9) rfl dX3_untilAllMet_50 ?_
          refine lv_iload_n hx hb dX3_untilAllMet_53 rfl (lv_at hl 1 rfl) ?_
          refine ck_iD (wr := wX x r tr pp h sl ++ wR Y r q S) (ws' := wX x r tr pp h sl ++ (wR Y r q S ++ wR Y tr q1 ((D_X2_danceRound Z1 (D_X3_remainderOf i)).2))) (va_runV (As := [.int (D_X3_remainderOf i)]) (rest := []) ⟨hx, hb, hml, hown, hts⟩ (c_X2_danceRound l D Y H.size q1 Z1 tr (D_X3_remainderOf i)) (cwV 1 hts gX3_untilAllMet_X2_danceRound rfl rfl rfl (by decide +kernel) ⟨Nat.le_of_ble_eq_true rfl, Nat.le_of_ble_eq_true rfl⟩) (pst_V hK hP hD [12, 13, 14, 15, 16, 17, 18, 19, 20, 21, 22] rfl (by decide) (q0 := 0) rfl rfl) rfl rfl hl.1 rfl (lv_room (Nat.le_of_ble_eq_true rfl)) dX3_untilAllMet_54 ⟨Nat.zero_le _, Nat.zero_le _⟩) hP hD hS hA [12, 13, 14, 15, 16, 17, 18, 19, 20, 21, 22] [0, 1, 2, 3, 4, 5, 6, 7, 8, 9, 10, 11] [0, 1, 2, 3, 4, 5, 6, 7, 8, 9, 10, 11, 12, 13, 14, 15, 16, 17, 18, 19, 20, 21, 22] rfl rfl (by decide) (by decide) rfl (by decide) (fun H locs hP hD hS => ?_)
          obtain ⟨S_2, eS_2⟩ : ∃ z9, (D_X2_danceRound Z1 (D_X3_remainderOf i)).2 = z9 := ⟨_, rfl⟩
          rw [eS_2] at hP hD
          refine lv_pop hx hb dX3_untilAllMet_57 rfl ?_
          refine lv_iinc (v := i + 1) (lv' := [(2, .int (i + 1)), (1, .int (u - (D_X2_wouldBring Z1 (D_X3_remainderOf i) 3))), (3, .int (D_X3_remainderOf i)), (0, .ref x)]) hx hb dX3_untilAllMet_58 hl (k := 2) rfl rfl (by decide) rfl (fun ls hl => ?_)
          refine lv_goto (tgt := 21) hx hb dX3_untilAllMet_61 (by decide) ?_
          subst eS_2
          exact ih_21 (k_21 + 1) (i + 1) (u - (D_X2_wouldBring Z1 (D_X3_remainderOf i) 3)) ((D_X2_danceRound Z1 (D_X3_remainderOf i)).2) _ _ _ (by omega) (by omega) (by rw [ex_21]; exact nI_1 k_21)  hP hD hS (lv_sub hl [0, 1, 3] rfl) (by rw [L_X3_untilAllMet_21, if_neg c_1, if_neg c_3] at hR_21; exact hR_21)
  exact loop_21 501 0 0 (D_X2_unmetPairs S_1) S_1 _ _ _ (by omega) (Nat.zero_le _) nI_0.symm  hP hD hS (lv_sub hl [0, 1, 2] rfl) rfl
def T_X1_empty_1 (P : Nat → Nat → Int32) : Nat → Nat → Int32 := s2 P 1 0 0
def D_X1_empty (P : Nat → Nat → Int32)  : (Int32) × (Nat → Nat → Int32) := (P 1 0, (T_X1_empty_1 P))
set_option maxRecDepth 100000 in
theorem in_X1_empty_RX1 : ∀ w ∈ u_ws RX1 TX1 2, w ∈ wsX1_empty := by decide +kernel
set_option maxHeartbeats 4000000 in
set_option maxRecDepth 100000 in
theorem c_X1_empty (l : Launch) (D : va_G) (Y : YY) (sz : Nat) (tx : Nat) (P : Nat → Nat → Int32) (pp : Nat) : Met l yX1_empty wsX1_empty ({ frames := 0, cells := 0, slots := 0, locals := 0 } : Room) (va_Pc [.ref pp] (Pst D Y sz (wP Y pp tx P))) ((fun A : Nat → Prop => Qsi D (fun r9 w9 => r9 = (D_X1_empty P).1 ∧ w9 = wP Y pp tx ((D_X1_empty P).2)) A) (va_A (wP Y pp tx P) sz)) 0 0 (va_A (wP Y pp tx P) sz) := by
  refine ct_in (cc := cX1_empty) (maxL := 2) (ret := (some .int)) (Qc := fun A : Nat → Prop => Qsi D (fun r9 w9 => r9 = (D_X1_empty P).1 ∧ w9 = wP Y pp tx ((D_X1_empty P).2)) A) (by decide +kernel) rfl (Nat.le_of_ble_eq_true rfl) ?_
  intro p e s m below meth c A ls hx hb hr hts hown hml hlk hin hsz hA hP hD hK hS hl
  have hown : s.vm.findClass RX1 = some m.cls := hown
  have hl : lv_has ls 2 [(0, .ref pp)] := hl
  show W p l e ({ frames := 0, cells := 0, slots := 0, locals := 0 } : Room) s m ([.ref pp] : List Value).toArray below meth c s.heap [] 0 0 (MQ below (Qsi D (fun r9 w9 => r9 = (D_X1_empty P).1 ∧ w9 = wP Y pp tx ((D_X1_empty P).2)) A) ([.ref pp] : List Value).toArray s 0 0 A) (F0 m 0 ls [])
  refine lv_aload_n hx hb dX1_empty_0 rfl (lv_at hl 0 rfl) ?_
  refine va_get (D := D) (ci := 1) (v := .int (P 1 0)) (C := RX1) (T := TX1) (N := 2) hx hb hts in_X1_empty_RX1 hown hK.1 hP 0 rfl rfl 1 (by decide) (hts (.fieldLink RX1 15 "NineDancers$Pad" "length" "I") (by decide +kernel)) (fun _ h9 => h9) rfl dX1_empty_1 ?_
  refine lv_istore_n (lv' := [(1, .int (P 1 0)), (0, .ref pp)]) hx hb dX1_empty_4 rfl hl (by decide) rfl (fun ls hl => ?_)
  refine lv_aload_n hx hb dX1_empty_5 rfl (lv_at hl 1 rfl) ?_
  refine lv_iconst (v := 0) hx hb dX1_empty_6 (by decide) ?_
  refine va_put (D := D) (ci := 1) (v := .int 0) (ty := .int) (C := RX1) (T := TX1) (N := 2) hx hb hts in_X1_empty_RX1 tyX1 tyX1_ok nmX1 hown hK.1 hP hD hS 0 rfl rfl 1 (by decide) (hts (.fieldLink RX1 15 "NineDancers$Pad" "length" "I") (by decide +kernel)) (fun _ h9 => h9) rfl (by decide +kernel) rfl rfl (Nat.le_of_ble_eq_true rfl) dX1_empty_7 (fun H locs hP hD hS => ?_)
  have hP : va_P D vwCl (wP Y pp tx (T_X1_empty_1 P)) H := hP
  have hD : va_D A (wP Y pp tx (T_X1_empty_1 P)) := hD
  obtain ⟨S_1, eS_1⟩ : ∃ z9, T_X1_empty_1 P = z9 := ⟨_, rfl⟩
  rw [eS_1] at hP hD
  refine lv_iload_n hx hb dX1_empty_10 rfl (lv_at hl 0 rfl) ?_
  subst eS_1
  have e9 : D_X1_empty P = (P 1 0, (T_X1_empty_1 P)) := by rw [D_X1_empty]
  exact ret_i hx hb hr hlk hP hD hS dX1_empty_11 ⟨Nat.zero_le _, Nat.zero_le _⟩ ⟨by rw [e9], by rw [e9]⟩
def D_X3_wipe (P : Nat → Nat → Int32)  : (Int32) × (Nat → Nat → Int32) := ((D_X1_empty P).1, ((D_X1_empty P).2))
set_option maxRecDepth 100000 in
theorem in_X3_wipe_RX3 : ∀ w ∈ u_ws RX3 TX3 5, w ∈ wsX3_wipe := by decide +kernel
set_option maxHeartbeats 4000000 in
set_option maxRecDepth 100000 in
theorem c_X3_wipe (l : Launch) (D : va_G) (Y : YY) (sz : Nat) (r : Nat) (tr : Nat) (pp : Nat) (h : Nat) (sl : Nat) (tx : Nat) (P : Nat → Nat → Int32) (x : Nat) : Met l yX3_wipe wsX3_wipe ({ frames := 1, cells := 0, slots := 0, locals := 21 } : Room) (va_Pc [.ref x] (Pst D Y sz (wX x r tr pp h sl ++ wP Y pp tx P))) ((fun A : Nat → Prop => Qsi D (fun r9 w9 => r9 = (D_X3_wipe P).1 ∧ w9 = wX x r tr pp h sl ++ wP Y pp tx ((D_X3_wipe P).2)) A) (va_A (wX x r tr pp h sl ++ wP Y pp tx P) sz)) 0 0 (va_A (wX x r tr pp h sl ++ wP Y pp tx P) sz) := by
  refine ct_in (cc := cX3_wipe) (maxL := 1) (ret := (some .int)) (Qc := fun A : Nat → Prop => Qsi D (fun r9 w9 => r9 = (D_X3_wipe P).1 ∧ w9 = wX x r tr pp h sl ++ wP Y pp tx ((D_X3_wipe P).2)) A) (by decide +kernel) rfl (Nat.le_of_ble_eq_true rfl) ?_
  intro p e s m below meth c A ls hx hb hr hts hown hml hlk hin hsz hA hP hD hK hS hl
  have hown : s.vm.findClass RX3 = some m.cls := hown
  have hl : lv_has ls 1 [(0, .ref x)] := hl
  show W p l e ({ frames := 1, cells := 0, slots := 0, locals := 21 } : Room) s m ([.ref x] : List Value).toArray below meth c s.heap [] 0 0 (MQ below (Qsi D (fun r9 w9 => r9 = (D_X3_wipe P).1 ∧ w9 = wX x r tr pp h sl ++ wP Y pp tx ((D_X3_wipe P).2)) A) ([.ref x] : List Value).toArray s 0 0 A) (F0 m 0 ls [])
  refine lv_aload_n hx hb dX3_wipe_0 rfl (lv_at hl 0 rfl) ?_
  refine va_get (D := D) (ci := 3) (v := .ref pp) (C := RX3) (T := TX3) (N := 5) hx hb hts in_X3_wipe_RX3 hown hK.1 hP 0 rfl rfl 2 (by decide) (hts (.fieldLink RX3 22 "NineDancers" "pad" "LNineDancers$Pad;") (by decide +kernel)) (fun _ h9 => h9) rfl dX3_wipe_1 ?_
  refine ck_iD (wr := wX x r tr pp h sl) (ws' := wX x r tr pp h sl ++ wP Y pp tx ((D_X1_empty P).2)) (va_runV (As := []) (rest := []) ⟨hx, hb, hml, hown, hts⟩ (c_X1_empty l D Y s.heap.size tx P pp) (cwV 0 hts gX3_wipe_X1_empty rfl rfl rfl (by decide +kernel) ⟨Nat.le_of_ble_eq_true rfl, Nat.le_of_ble_eq_true rfl⟩) (pst_V hK hP hD [1, 2] rfl (by decide) (q0 := 0) rfl rfl) rfl rfl hl.1 rfl (lv_room (Nat.le_of_ble_eq_true rfl)) dX3_wipe_4 ⟨Nat.zero_le _, Nat.zero_le _⟩) hP hD hS hA [1, 2] [0] [0, 1, 2] rfl rfl (by decide) (by decide) rfl (by decide) (fun H locs hP hD hS => ?_)
  obtain ⟨S_1, eS_1⟩ : ∃ z9, (D_X1_empty P).2 = z9 := ⟨_, rfl⟩
  rw [eS_1] at hP hD
  subst eS_1
  have e9 : D_X3_wipe P = ((D_X1_empty P).1, ((D_X1_empty P).2)) := by rw [D_X3_wipe]
  exact ret_i hx hb hr hlk hP hD hS dX3_wipe_7 ⟨Nat.zero_le _, Nat.zero_le _⟩ ⟨by rw [e9], by rw [e9]⟩
end
section
abbrev HS : Type := Nat × (Nat → Option Nat) × (Nat → Nat) × (Nat → Nat → Nat) × (Nat → Nat → Nat → Int32)
def wHi (Y : YY) (h sa : Nat) (u : HS) : va_W := wH h sa (nI u.1) ++ (wA Y sa 6 u.2.1 ++ (wR Y (u.2.2.1 0) (u.2.2.2.1 0) (u.2.2.2.2 0) ++ (wR Y (u.2.2.1 1) (u.2.2.2.1 1) (u.2.2.2.2 1) ++ (wR Y (u.2.2.1 2) (u.2.2.2.1 2) (u.2.2.2.2 2) ++ (wR Y (u.2.2.1 3) (u.2.2.2.1 3) (u.2.2.2.2 3) ++ (wR Y (u.2.2.1 4) (u.2.2.2.1 4) (u.2.2.2.2 4) ++ wR Y (u.2.2.1 5) (u.2.2.2.1 5) (u.2.2.2.2 5)))))))
def hok (u : HS) : Prop := u.1 ≤ 6 ∧ ∀ k, k < 6 → u.2.1 k = some (u.2.2.1 k)
def rot {α : Type} (g : Nat → α) (j : Nat) : α := if j = 5 then g 0 else g (j + 1)
def D_X0_dropOldest (n : Int32) (f : Nat → Option Nat) (ra : Nat → Nat) (rq : Nat → Nat → Nat) (Z : Nat → Nat → Nat → Int32)  : (Int32) × (Nat → Option Nat) := ((n - 1), (va_up (va_up (va_up (va_up (va_up (va_up f (0 : Int32).toNatClampNeg (some (ra 1))) (1 : Int32).toNatClampNeg (some (ra 2))) (2 : Int32).toNatClampNeg (some (ra 3))) (3 : Int32).toNatClampNeg (some (ra 4))) (4 : Int32).toNatClampNeg (some (ra 5))) (5 : Int32).toNatClampNeg (some (ra 0))))
set_option maxRecDepth 100000 in
theorem in_X0_dropOldest_RX0 : ∀ w ∈ u_ws RX0 TX0 2, w ∈ wsX0_dropOldest := by decide +kernel
set_option maxHeartbeats 4000000 in
set_option maxRecDepth 100000 in
theorem c_X0_dropOldest (l : Launch) (D : va_G) (Y : YY) (sz : Nat) (sa : Nat) (n : Int32) (f : Nat → Option Nat) (ra : Nat → Nat) (rq : Nat → Nat → Nat) (Z : Nat → Nat → Nat → Int32) (h : Nat) (hf : ∀ k, k < 6 → f k = some (ra k)) : Met l yX0_dropOldest wsX0_dropOldest ({ frames := 0, cells := 0, slots := 0, locals := 0 } : Room) (va_Pc [.ref h] (Pst D Y sz (wH h sa n ++ (wA Y sa 6 f ++ (wR Y (ra 0) (rq 0) (Z 0) ++ (wR Y (ra 1) (rq 1) (Z 1) ++ (wR Y (ra 2) (rq 2) (Z 2) ++ (wR Y (ra 3) (rq 3) (Z 3) ++ (wR Y (ra 4) (rq 4) (Z 4) ++ wR Y (ra 5) (rq 5) (Z 5)))))))))) ((fun A : Nat → Prop => Qsv D (fun w9 => w9 = wH h sa ((D_X0_dropOldest n f ra rq Z).1) ++ (wA Y sa 6 ((D_X0_dropOldest n f ra rq Z).2) ++ (wR Y (ra 0) (rq 0) (Z 0) ++ (wR Y (ra 1) (rq 1) (Z 1) ++ (wR Y (ra 2) (rq 2) (Z 2) ++ (wR Y (ra 3) (rq 3) (Z 3) ++ (wR Y (ra 4) (rq 4) (Z 4) ++ wR Y (ra 5) (rq 5) (Z 5)))))))) A) (va_A (wH h sa n ++ (wA Y sa 6 f ++ (wR Y (ra 0) (rq 0) (Z 0) ++ (wR Y (ra 1) (rq 1) (Z 1) ++ (wR Y (ra 2) (rq 2) (Z 2) ++ (wR Y (ra 3) (rq 3) (Z 3) ++ (wR Y (ra 4) (rq 4) (Z 4) ++ wR Y (ra 5) (rq 5) (Z 5)))))))) sz)) 0 0 (va_A (wH h sa n ++ (wA Y sa 6 f ++ (wR Y (ra 0) (rq 0) (Z 0) ++ (wR Y (ra 1) (rq 1) (Z 1) ++ (wR Y (ra 2) (rq 2) (Z 2) ++ (wR Y (ra 3) (rq 3) (Z 3) ++ (wR Y (ra 4) (rq 4) (Z 4) ++ wR Y (ra 5) (rq 5) (Z 5)))))))) sz) := by
  refine ct_in (cc := cX0_dropOldest) (maxL := 3) (ret := none) (Qc := fun A : Nat → Prop => Qsv D (fun w9 => w9 = wH h sa ((D_X0_dropOldest n f ra rq Z).1) ++ (wA Y sa 6 ((D_X0_dropOldest n f ra rq Z).2) ++ (wR Y (ra 0) (rq 0) (Z 0) ++ (wR Y (ra 1) (rq 1) (Z 1) ++ (wR Y (ra 2) (rq 2) (Z 2) ++ (wR Y (ra 3) (rq 3) (Z 3) ++ (wR Y (ra 4) (rq 4) (Z 4) ++ wR Y (ra 5) (rq 5) (Z 5)))))))) A) (by decide +kernel) rfl (Nat.le_of_ble_eq_true rfl) ?_
  intro p e s m below meth c A ls hx hb hr hts hown hml hlk hin hsz hA hP hD hK hS hl
  have hown : s.vm.findClass RX0 = some m.cls := hown
  have hl : lv_has ls 3 [(0, .ref h)] := hl
  show W p l e ({ frames := 0, cells := 0, slots := 0, locals := 0 } : Room) s m ([.ref h] : List Value).toArray below meth c s.heap [] 0 0 (MQ below (Qsv D (fun w9 => w9 = wH h sa ((D_X0_dropOldest n f ra rq Z).1) ++ (wA Y sa 6 ((D_X0_dropOldest n f ra rq Z).2) ++ (wR Y (ra 0) (rq 0) (Z 0) ++ (wR Y (ra 1) (rq 1) (Z 1) ++ (wR Y (ra 2) (rq 2) (Z 2) ++ (wR Y (ra 3) (rq 3) (Z 3) ++ (wR Y (ra 4) (rq 4) (Z 4) ++ wR Y (ra 5) (rq 5) (Z 5)))))))) A) ([.ref h] : List Value).toArray s 0 0 A) (F0 m 0 ls [])
  refine lv_aload_n hx hb dX0_dropOldest_0 rfl (lv_at hl 0 rfl) ?_
  refine va_get (D := D) (ci := 0) (v := .ref sa) (C := RX0) (T := TX0) (N := 2) hx hb hts in_X0_dropOldest_RX0 hown hK.1 hP 0 rfl rfl 0 (by decide) (hts (.fieldLink RX0 11 "NineDancers$History" "states" "[LNineDancers$Ring;") (by decide +kernel)) (fun _ h9 => h9) rfl dX0_dropOldest_1 ?_
  refine lv_iconst (v := 0) hx hb dX0_dropOldest_4 (by decide) ?_
  refine my_aldq (D := D) hx hb hK.1 hP 1 2 rfl rfl (by unfold vp_in; decide) (v := .ref (ra 0)) (congrArg va_rf (show f (0 : Int32).toNatClampNeg = some (ra 0) from hf 0 (by decide))) dX0_dropOldest_5 ?_
  refine lv_astore_n (lv' := [(1, .ref (ra 0)), (0, .ref h)]) hx hb dX0_dropOldest_6 rfl hl (by decide) rfl (fun ls hl => ?_)
  refine lv_iconst (v := 1) hx hb dX0_dropOldest_7 (by decide) ?_
  refine lv_istore_n (lv' := [(2, .int 1), (1, .ref (ra 0)), (0, .ref h)]) hx hb dX0_dropOldest_8 rfl hl (by decide) rfl (fun ls hl => ?_)
  refine lv_iload_n hx hb dX0_dropOldest_9 rfl (lv_at hl 0 rfl) ?_
  refine lv_bipush (v := 6) hx hb dX0_dropOldest_10 (by decide) ?_
  refine lv_icmp_ge (tgt := 35) hx hb dX0_dropOldest_12 (by decide) (fun c_1 => ?_) (fun c_1 => ?_)
  · exact absurd c_1 (by decide)
  · refine lv_aload_n hx hb dX0_dropOldest_15 rfl (lv_at hl 2 rfl) ?_
    refine va_get (D := D) (ci := 0) (v := .ref sa) (C := RX0) (T := TX0) (N := 2) hx hb hts in_X0_dropOldest_RX0 hown hK.1 hP 0 rfl rfl 0 (by decide) (hts (.fieldLink RX0 11 "NineDancers$History" "states" "[LNineDancers$Ring;") (by decide +kernel)) (fun _ h9 => h9) rfl dX0_dropOldest_16 ?_
    refine lv_iload_n hx hb dX0_dropOldest_19 rfl (lv_at hl 0 rfl) ?_
    refine lv_iconst (v := 1) hx hb dX0_dropOldest_20 (by decide) ?_
    refine lv_isub hx hb dX0_dropOldest_21 ?_
    refine lv_topi (fun y9 e9 => ?_)
    obtain rfl : y9 = 0 := e9.trans (by decide)
    refine lv_aload_n hx hb dX0_dropOldest_22 rfl (lv_at hl 2 rfl) ?_
    refine va_get (D := D) (ci := 0) (v := .ref sa) (C := RX0) (T := TX0) (N := 2) hx hb hts in_X0_dropOldest_RX0 hown hK.1 hP 0 rfl rfl 0 (by decide) (hts (.fieldLink RX0 11 "NineDancers$History" "states" "[LNineDancers$Ring;") (by decide +kernel)) (fun _ h9 => h9) rfl dX0_dropOldest_23 ?_
    refine lv_iload_n hx hb dX0_dropOldest_26 rfl (lv_at hl 0 rfl) ?_
    refine my_aldq (D := D) hx hb hK.1 hP 1 2 rfl rfl (by unfold vp_in; decide) (v := .ref (ra 1)) (congrArg va_rf (show f (1 : Int32).toNatClampNeg = some (ra 1) from hf 1 (by decide))) dX0_dropOldest_27 ?_
    refine va_astq (D := D) hx hb hK.1 hP hD hS 1 2 13 2 rfl rfl rfl rfl (by unfold vp_in; decide) dX0_dropOldest_28 (fun H locs hP hD hS => ?_)
    have hP : va_P D vwCl (wH h sa n ++ (wA Y sa 6 (va_up f (0 : Int32).toNatClampNeg (some (ra 1))) ++ (wR Y (ra 0) (rq 0) (Z 0) ++ (wR Y (ra 1) (rq 1) (Z 1) ++ (wR Y (ra 2) (rq 2) (Z 2) ++ (wR Y (ra 3) (rq 3) (Z 3) ++ (wR Y (ra 4) (rq 4) (Z 4) ++ wR Y (ra 5) (rq 5) (Z 5)))))))) H := hP
    have hD : va_D A (wH h sa n ++ (wA Y sa 6 (va_up f (0 : Int32).toNatClampNeg (some (ra 1))) ++ (wR Y (ra 0) (rq 0) (Z 0) ++ (wR Y (ra 1) (rq 1) (Z 1) ++ (wR Y (ra 2) (rq 2) (Z 2) ++ (wR Y (ra 3) (rq 3) (Z 3) ++ (wR Y (ra 4) (rq 4) (Z 4) ++ wR Y (ra 5) (rq 5) (Z 5)))))))) := hD
    refine lv_iinc (v := 2) (lv' := [(2, .int 2), (1, .ref (ra 0)), (0, .ref h)]) hx hb dX0_dropOldest_29 hl (k := 0) rfl rfl (by decide) rfl (fun ls hl => ?_)
    refine lv_goto (tgt := 9) hx hb dX0_dropOldest_32 (by decide) ?_
    refine lv_iload_n hx hb dX0_dropOldest_9 rfl (lv_at hl 0 rfl) ?_
    refine lv_bipush (v := 6) hx hb dX0_dropOldest_10 (by decide) ?_
    refine lv_icmp_ge (tgt := 35) hx hb dX0_dropOldest_12 (by decide) (fun c_2 => ?_) (fun c_2 => ?_)
    · exact absurd c_2 (by decide)
    · refine lv_aload_n hx hb dX0_dropOldest_15 rfl (lv_at hl 2 rfl) ?_
      refine va_get (D := D) (ci := 0) (v := .ref sa) (C := RX0) (T := TX0) (N := 2) hx hb hts in_X0_dropOldest_RX0 hown hK.1 hP 0 rfl rfl 0 (by decide) (hts (.fieldLink RX0 11 "NineDancers$History" "states" "[LNineDancers$Ring;") (by decide +kernel)) (fun _ h9 => h9) rfl dX0_dropOldest_16 ?_
      refine lv_iload_n hx hb dX0_dropOldest_19 rfl (lv_at hl 0 rfl) ?_
      refine lv_iconst (v := 1) hx hb dX0_dropOldest_20 (by decide) ?_
      refine lv_isub hx hb dX0_dropOldest_21 ?_
      refine lv_topi (fun y9 e9 => ?_)
      obtain rfl : y9 = 1 := e9.trans (by decide)
      refine lv_aload_n hx hb dX0_dropOldest_22 rfl (lv_at hl 2 rfl) ?_
      refine va_get (D := D) (ci := 0) (v := .ref sa) (C := RX0) (T := TX0) (N := 2) hx hb hts in_X0_dropOldest_RX0 hown hK.1 hP 0 rfl rfl 0 (by decide) (hts (.fieldLink RX0 11 "NineDancers$History" "states" "[LNineDancers$Ring;") (by decide +kernel)) (fun _ h9 => h9) rfl dX0_dropOldest_23 ?_
      refine lv_iload_n hx hb dX0_dropOldest_26 rfl (lv_at hl 0 rfl) ?_
      refine my_aldq (D := D) hx hb hK.1 hP 1 2 rfl rfl (by unfold vp_in; decide) (v := .ref (ra 2)) (congrArg va_rf (show (va_up f (0 : Int32).toNatClampNeg (some (ra 1))) (2 : Int32).toNatClampNeg = some (ra 2) from hf 2 (by decide))) dX0_dropOldest_27 ?_
      refine va_astq (D := D) hx hb hK.1 hP hD hS 1 2 24 2 rfl rfl rfl rfl (by unfold vp_in; decide) dX0_dropOldest_28 (fun H locs hP hD hS => ?_)
      have hP : va_P D vwCl (wH h sa n ++ (wA Y sa 6 (va_up (va_up f (0 : Int32).toNatClampNeg (some (ra 1))) (1 : Int32).toNatClampNeg (some (ra 2))) ++ (wR Y (ra 0) (rq 0) (Z 0) ++ (wR Y (ra 1) (rq 1) (Z 1) ++ (wR Y (ra 2) (rq 2) (Z 2) ++ (wR Y (ra 3) (rq 3) (Z 3) ++ (wR Y (ra 4) (rq 4) (Z 4) ++ wR Y (ra 5) (rq 5) (Z 5)))))))) H := hP
      have hD : va_D A (wH h sa n ++ (wA Y sa 6 (va_up (va_up f (0 : Int32).toNatClampNeg (some (ra 1))) (1 : Int32).toNatClampNeg (some (ra 2))) ++ (wR Y (ra 0) (rq 0) (Z 0) ++ (wR Y (ra 1) (rq 1) (Z 1) ++ (wR Y (ra 2) (rq 2) (Z 2) ++ (wR Y (ra 3) (rq 3) (Z 3) ++ (wR Y (ra 4) (rq 4) (Z 4) ++ wR Y (ra 5) (rq 5) (Z 5)))))))) := hD
      refine lv_iinc (v := 3) (lv' := [(2, .int 3), (1, .ref (ra 0)), (0, .ref h)]) hx hb dX0_dropOldest_29 hl (k := 0) rfl rfl (by decide) rfl (fun ls hl => ?_)
      refine lv_goto (tgt := 9) hx hb dX0_dropOldest_32 (by decide) ?_
      refine lv_iload_n hx hb dX0_dropOldest_9 rfl (lv_at hl 0 rfl) ?_
      refine lv_bipush (v := 6) hx hb dX0_dropOldest_10 (by decide) ?_
      refine lv_icmp_ge (tgt := 35) hx hb dX0_dropOldest_12 (by decide) (fun c_3 => ?_) (fun c_3 => ?_)
      · exact absurd c_3 (by decide)
      · refine lv_aload_n hx hb dX0_dropOldest_15 rfl (lv_at hl 2 rfl) ?_
        refine va_get (D := D) (ci := 0) (v := .ref sa) (C := RX0) (T := TX0) (N := 2) hx hb hts in_X0_dropOldest_RX0 hown hK.1 hP 0 rfl rfl 0 (by decide) (hts (.fieldLink RX0 11 "NineDancers$History" "states" "[LNineDancers$Ring;") (by decide +kernel)) (fun _ h9 => h9) rfl dX0_dropOldest_16 ?_
        refine lv_iload_n hx hb dX0_dropOldest_19 rfl (lv_at hl 0 rfl) ?_
        refine lv_iconst (v := 1) hx hb dX0_dropOldest_20 (by decide) ?_
        refine lv_isub hx hb dX0_dropOldest_21 ?_
        refine lv_topi (fun y9 e9 => ?_)
        obtain rfl : y9 = 2 := e9.trans (by decide)
        refine lv_aload_n hx hb dX0_dropOldest_22 rfl (lv_at hl 2 rfl) ?_
        refine va_get (D := D) (ci := 0) (v := .ref sa) (C := RX0) (T := TX0) (N := 2) hx hb hts in_X0_dropOldest_RX0 hown hK.1 hP 0 rfl rfl 0 (by decide) (hts (.fieldLink RX0 11 "NineDancers$History" "states" "[LNineDancers$Ring;") (by decide +kernel)) (fun _ h9 => h9) rfl dX0_dropOldest_23 ?_
        refine lv_iload_n hx hb dX0_dropOldest_26 rfl (lv_at hl 0 rfl) ?_
        refine my_aldq (D := D) hx hb hK.1 hP 1 2 rfl rfl (by unfold vp_in; decide) (v := .ref (ra 3)) (congrArg va_rf (show (va_up (va_up f (0 : Int32).toNatClampNeg (some (ra 1))) (1 : Int32).toNatClampNeg (some (ra 2))) (3 : Int32).toNatClampNeg = some (ra 3) from hf 3 (by decide))) dX0_dropOldest_27 ?_
        refine va_astq (D := D) hx hb hK.1 hP hD hS 1 2 35 2 rfl rfl rfl rfl (by unfold vp_in; decide) dX0_dropOldest_28 (fun H locs hP hD hS => ?_)
        have hP : va_P D vwCl (wH h sa n ++ (wA Y sa 6 (va_up (va_up (va_up f (0 : Int32).toNatClampNeg (some (ra 1))) (1 : Int32).toNatClampNeg (some (ra 2))) (2 : Int32).toNatClampNeg (some (ra 3))) ++ (wR Y (ra 0) (rq 0) (Z 0) ++ (wR Y (ra 1) (rq 1) (Z 1) ++ (wR Y (ra 2) (rq 2) (Z 2) ++ (wR Y (ra 3) (rq 3) (Z 3) ++ (wR Y (ra 4) (rq 4) (Z 4) ++ wR Y (ra 5) (rq 5) (Z 5)))))))) H := hP
        have hD : va_D A (wH h sa n ++ (wA Y sa 6 (va_up (va_up (va_up f (0 : Int32).toNatClampNeg (some (ra 1))) (1 : Int32).toNatClampNeg (some (ra 2))) (2 : Int32).toNatClampNeg (some (ra 3))) ++ (wR Y (ra 0) (rq 0) (Z 0) ++ (wR Y (ra 1) (rq 1) (Z 1) ++ (wR Y (ra 2) (rq 2) (Z 2) ++ (wR Y (ra 3) (rq 3) (Z 3) ++ (wR Y (ra 4) (rq 4) (Z 4) ++ wR Y (ra 5) (rq 5) (Z 5)))))))) := hD
        refine lv_iinc (v := 4) (lv' := [(2, .int 4), (1, .ref (ra 0)), (0, .ref h)]) hx hb dX0_dropOldest_29 hl (k := 0) rfl rfl (by decide) rfl (fun ls hl => ?_)
        refine lv_goto (tgt := 9) hx hb dX0_dropOldest_32 (by decide) ?_
        refine lv_iload_n hx hb dX0_dropOldest_9 rfl (lv_at hl 0 rfl) ?_
        refine lv_bipush (v := 6) hx hb dX0_dropOldest_10 (by decide) ?_
        refine lv_icmp_ge (tgt := 35) hx hb dX0_dropOldest_12 (by decide) (fun c_4 => ?_) (fun c_4 => ?_)
        · exact absurd c_4 (by decide)
        · refine lv_aload_n hx hb dX0_dropOldest_15 rfl (lv_at hl 2 rfl) ?_
          refine va_get (D := D) (ci := 0) (v := .ref sa) (C := RX0) (T := TX0) (N := 2) hx hb hts in_X0_dropOldest_RX0 hown hK.1 hP 0 rfl rfl 0 (by decide) (hts (.fieldLink RX0 11 "NineDancers$History" "states" "[LNineDancers$Ring;") (by decide +kernel)) (fun _ h9 => h9) rfl dX0_dropOldest_16 ?_
          refine lv_iload_n hx hb dX0_dropOldest_19 rfl (lv_at hl 0 rfl) ?_
          refine lv_iconst (v := 1) hx hb dX0_dropOldest_20 (by decide) ?_
          refine lv_isub hx hb dX0_dropOldest_21 ?_
          refine lv_topi (fun y9 e9 => ?_)
          obtain rfl : y9 = 3 := e9.trans (by decide)
          refine lv_aload_n hx hb dX0_dropOldest_22 rfl (lv_at hl 2 rfl) ?_
          refine va_get (D := D) (ci := 0) (v := .ref sa) (C := RX0) (T := TX0) (N := 2) hx hb hts in_X0_dropOldest_RX0 hown hK.1 hP 0 rfl rfl 0 (by decide) (hts (.fieldLink RX0 11 "NineDancers$History" "states" "[LNineDancers$Ring;") (by decide +kernel)) (fun _ h9 => h9) rfl dX0_dropOldest_23 ?_
          refine lv_iload_n hx hb dX0_dropOldest_26 rfl (lv_at hl 0 rfl) ?_
          refine my_aldq (D := D) hx hb hK.1 hP 1 2 rfl rfl (by unfold vp_in; decide) (v := .ref (ra 4)) (congrArg va_rf (show (va_up (va_up (va_up f (0 : Int32).toNatClampNeg (some (ra 1))) (1 : Int32).toNatClampNeg (some (ra 2))) (2 : Int32).toNatClampNeg (some (ra 3))) (4 : Int32).toNatClampNeg = some (ra 4) from hf 4 (by decide))) dX0_dropOldest_27 ?_
          refine va_astq (D := D) hx hb hK.1 hP hD hS 1 2 46 2 rfl rfl rfl rfl (by unfold vp_in; decide) dX0_dropOldest_28 (fun H locs hP hD hS => ?_)
          have hP : va_P D vwCl (wH h sa n ++ (wA Y sa 6 (va_up (va_up (va_up (va_up f (0 : Int32).toNatClampNeg (some (ra 1))) (1 : Int32).toNatClampNeg (some (ra 2))) (2 : Int32).toNatClampNeg (some (ra 3))) (3 : Int32).toNatClampNeg (some (ra 4))) ++ (wR Y (ra 0) (rq 0) (Z 0) ++ (wR Y (ra 1) (rq 1) (Z 1) ++ (wR Y (ra 2) (rq 2) (Z 2) ++ (wR Y (ra 3) (rq 3) (Z 3) ++ (wR Y (ra 4) (rq 4) (Z 4) ++ wR Y (ra 5) (rq 5) (Z 5)))))))) H := hP
          have hD : va_D A (wH h sa n ++ (wA Y sa 6 (va_up (va_up (va_up (va_up f (0 : Int32).toNatClampNeg (some (ra 1))) (1 : Int32).toNatClampNeg (some (ra 2))) (2 : Int32).toNatClampNeg (some (ra 3))) (3 : Int32).toNatClampNeg (some (ra 4))) ++ (wR Y (ra 0) (rq 0) (Z 0) ++ (wR Y (ra 1) (rq 1) (Z 1) ++ (wR Y (ra 2) (rq 2) (Z 2) ++ (wR Y (ra 3) (rq 3) (Z 3) ++ (wR Y (ra 4) (rq 4) (Z 4) ++ wR Y (ra 5) (rq 5) (Z 5)))))))) := hD
          refine lv_iinc (v := 5) (lv' := [(2, .int 5), (1, .ref (ra 0)), (0, .ref h)]) hx hb dX0_dropOldest_29 hl (k := 0) rfl rfl (by decide) rfl (fun ls hl => ?_)
          refine lv_goto (tgt := 9) hx hb dX0_dropOldest_32 (by decide) ?_
          refine lv_iload_n hx hb dX0_dropOldest_9 rfl (lv_at hl 0 rfl) ?_
          refine lv_bipush (v := 6) hx hb dX0_dropOldest_10 (by decide) ?_
          refine lv_icmp_ge (tgt := 35) hx hb dX0_dropOldest_12 (by decide) (fun c_5 => ?_) (fun c_5 => ?_)
          · exact absurd c_5 (by decide)
          · refine lv_aload_n hx hb dX0_dropOldest_15 rfl (lv_at hl 2 rfl) ?_
            refine va_get (D := D) (ci := 0) (v := .ref sa) (C := RX0) (T := TX0) (N := 2) hx hb hts in_X0_dropOldest_RX0 hown hK.1 hP 0 rfl rfl 0 (by decide) (hts (.fieldLink RX0 11 "NineDancers$History" "states" "[LNineDancers$Ring;") (by decide +kernel)) (fun _ h9 => h9) rfl dX0_dropOldest_16 ?_
            refine lv_iload_n hx hb dX0_dropOldest_19 rfl (lv_at hl 0 rfl) ?_
            refine lv_iconst (v := 1) hx hb dX0_dropOldest_20 (by decide) ?_
            refine lv_isub hx hb dX0_dropOldest_21 ?_
            refine lv_topi (fun y9 e9 => ?_)
            obtain rfl : y9 = 4 := e9.trans (by decide)
            refine lv_aload_n hx hb dX0_dropOldest_22 rfl (lv_at hl 2 rfl) ?_
            refine va_get (D := D) (ci := 0) (v := .ref sa) (C := RX0) (T := TX0) (N := 2) hx hb hts in_X0_dropOldest_RX0 hown hK.1 hP 0 rfl rfl 0 (by decide) (hts (.fieldLink RX0 11 "NineDancers$History" "states" "[LNineDancers$Ring;") (by decide +kernel)) (fun _ h9 => h9) rfl dX0_dropOldest_23 ?_
            refine lv_iload_n hx hb dX0_dropOldest_26 rfl (lv_at hl 0 rfl) ?_
            refine my_aldq (D := D) hx hb hK.1 hP 1 2 rfl rfl (by unfold vp_in; decide) (v := .ref (ra 5)) (congrArg va_rf (show (va_up (va_up (va_up (va_up f (0 : Int32).toNatClampNeg (some (ra 1))) (1 : Int32).toNatClampNeg (some (ra 2))) (2 : Int32).toNatClampNeg (some (ra 3))) (3 : Int32).toNatClampNeg (some (ra 4))) (5 : Int32).toNatClampNeg = some (ra 5) from hf 5 (by decide))) dX0_dropOldest_27 ?_
            refine va_astq (D := D) hx hb hK.1 hP hD hS 1 2 57 2 rfl rfl rfl rfl (by unfold vp_in; decide) dX0_dropOldest_28 (fun H locs hP hD hS => ?_)
            have hP : va_P D vwCl (wH h sa n ++ (wA Y sa 6 (va_up (va_up (va_up (va_up (va_up f (0 : Int32).toNatClampNeg (some (ra 1))) (1 : Int32).toNatClampNeg (some (ra 2))) (2 : Int32).toNatClampNeg (some (ra 3))) (3 : Int32).toNatClampNeg (some (ra 4))) (4 : Int32).toNatClampNeg (some (ra 5))) ++ (wR Y (ra 0) (rq 0) (Z 0) ++ (wR Y (ra 1) (rq 1) (Z 1) ++ (wR Y (ra 2) (rq 2) (Z 2) ++ (wR Y (ra 3) (rq 3) (Z 3) ++ (wR Y (ra 4) (rq 4) (Z 4) ++ wR Y (ra 5) (rq 5) (Z 5)))))))) H := hP
            have hD : va_D A (wH h sa n ++ (wA Y sa 6 (va_up (va_up (va_up (va_up (va_up f (0 : Int32).toNatClampNeg (some (ra 1))) (1 : Int32).toNatClampNeg (some (ra 2))) (2 : Int32).toNatClampNeg (some (ra 3))) (3 : Int32).toNatClampNeg (some (ra 4))) (4 : Int32).toNatClampNeg (some (ra 5))) ++ (wR Y (ra 0) (rq 0) (Z 0) ++ (wR Y (ra 1) (rq 1) (Z 1) ++ (wR Y (ra 2) (rq 2) (Z 2) ++ (wR Y (ra 3) (rq 3) (Z 3) ++ (wR Y (ra 4) (rq 4) (Z 4) ++ wR Y (ra 5) (rq 5) (Z 5)))))))) := hD
            refine lv_iinc (v := 6) (lv' := [(2, .int 6), (1, .ref (ra 0)), (0, .ref h)]) hx hb dX0_dropOldest_29 hl (k := 0) rfl rfl (by decide) rfl (fun ls hl => ?_)
            refine lv_goto (tgt := 9) hx hb dX0_dropOldest_32 (by decide) ?_
            refine lv_iload_n hx hb dX0_dropOldest_9 rfl (lv_at hl 0 rfl) ?_
            refine lv_bipush (v := 6) hx hb dX0_dropOldest_10 (by decide) ?_
            refine lv_icmp_ge (tgt := 35) hx hb dX0_dropOldest_12 (by decide) (fun c_6 => ?_) (fun c_6 => ?_)
            · refine lv_aload_n hx hb dX0_dropOldest_35 rfl (lv_at hl 2 rfl) ?_
              refine va_get (D := D) (ci := 0) (v := .ref sa) (C := RX0) (T := TX0) (N := 2) hx hb hts in_X0_dropOldest_RX0 hown hK.1 hP 0 rfl rfl 0 (by decide) (hts (.fieldLink RX0 11 "NineDancers$History" "states" "[LNineDancers$Ring;") (by decide +kernel)) (fun _ h9 => h9) rfl dX0_dropOldest_36 ?_
              refine lv_iconst (v := 5) hx hb dX0_dropOldest_39 (by decide) ?_
              refine lv_aload_n hx hb dX0_dropOldest_40 rfl (lv_at hl 1 rfl) ?_
              refine va_astq (D := D) hx hb hK.1 hP hD hS 1 2 2 2 rfl rfl rfl rfl (by unfold vp_in; decide) dX0_dropOldest_41 (fun H locs hP hD hS => ?_)
              have hP : va_P D vwCl (wH h sa n ++ (wA Y sa 6 (va_up (va_up (va_up (va_up (va_up (va_up f (0 : Int32).toNatClampNeg (some (ra 1))) (1 : Int32).toNatClampNeg (some (ra 2))) (2 : Int32).toNatClampNeg (some (ra 3))) (3 : Int32).toNatClampNeg (some (ra 4))) (4 : Int32).toNatClampNeg (some (ra 5))) (5 : Int32).toNatClampNeg (some (ra 0))) ++ (wR Y (ra 0) (rq 0) (Z 0) ++ (wR Y (ra 1) (rq 1) (Z 1) ++ (wR Y (ra 2) (rq 2) (Z 2) ++ (wR Y (ra 3) (rq 3) (Z 3) ++ (wR Y (ra 4) (rq 4) (Z 4) ++ wR Y (ra 5) (rq 5) (Z 5)))))))) H := hP
              have hD : va_D A (wH h sa n ++ (wA Y sa 6 (va_up (va_up (va_up (va_up (va_up (va_up f (0 : Int32).toNatClampNeg (some (ra 1))) (1 : Int32).toNatClampNeg (some (ra 2))) (2 : Int32).toNatClampNeg (some (ra 3))) (3 : Int32).toNatClampNeg (some (ra 4))) (4 : Int32).toNatClampNeg (some (ra 5))) (5 : Int32).toNatClampNeg (some (ra 0))) ++ (wR Y (ra 0) (rq 0) (Z 0) ++ (wR Y (ra 1) (rq 1) (Z 1) ++ (wR Y (ra 2) (rq 2) (Z 2) ++ (wR Y (ra 3) (rq 3) (Z 3) ++ (wR Y (ra 4) (rq 4) (Z 4) ++ wR Y (ra 5) (rq 5) (Z 5)))))))) := hD
              refine lv_aload_n hx hb dX0_dropOldest_42 rfl (lv_at hl 2 rfl) ?_
              refine lv_dup hx hb dX0_dropOldest_43 rfl ?_
              refine va_get (D := D) (ci := 0) (v := .int n) (C := RX0) (T := TX0) (N := 2) hx hb hts in_X0_dropOldest_RX0 hown hK.1 hP 0 rfl rfl 1 (by decide) (hts (.fieldLink RX0 17 "NineDancers$History" "length" "I") (by decide +kernel)) (fun _ h9 => h9) rfl dX0_dropOldest_44 ?_
              refine lv_iconst (v := 1) hx hb dX0_dropOldest_47 (by decide) ?_
              refine lv_isub hx hb dX0_dropOldest_48 ?_
              refine va_put (D := D) (ci := 0) (v := .int (n - 1)) (ty := .int) (C := RX0) (T := TX0) (N := 2) hx hb hts in_X0_dropOldest_RX0 tyX0 tyX0_ok nmX0 hown hK.1 hP hD hS 0 rfl rfl 1 (by decide) (hts (.fieldLink RX0 17 "NineDancers$History" "length" "I") (by decide +kernel)) (fun _ h9 => h9) rfl (by decide +kernel) rfl rfl (Nat.le_of_ble_eq_true rfl) dX0_dropOldest_49 (fun H locs hP hD hS => ?_)
              have hP : va_P D vwCl (wH h sa (n - 1) ++ (wA Y sa 6 (va_up (va_up (va_up (va_up (va_up (va_up f (0 : Int32).toNatClampNeg (some (ra 1))) (1 : Int32).toNatClampNeg (some (ra 2))) (2 : Int32).toNatClampNeg (some (ra 3))) (3 : Int32).toNatClampNeg (some (ra 4))) (4 : Int32).toNatClampNeg (some (ra 5))) (5 : Int32).toNatClampNeg (some (ra 0))) ++ (wR Y (ra 0) (rq 0) (Z 0) ++ (wR Y (ra 1) (rq 1) (Z 1) ++ (wR Y (ra 2) (rq 2) (Z 2) ++ (wR Y (ra 3) (rq 3) (Z 3) ++ (wR Y (ra 4) (rq 4) (Z 4) ++ wR Y (ra 5) (rq 5) (Z 5)))))))) H := hP
              have hD : va_D A (wH h sa (n - 1) ++ (wA Y sa 6 (va_up (va_up (va_up (va_up (va_up (va_up f (0 : Int32).toNatClampNeg (some (ra 1))) (1 : Int32).toNatClampNeg (some (ra 2))) (2 : Int32).toNatClampNeg (some (ra 3))) (3 : Int32).toNatClampNeg (some (ra 4))) (4 : Int32).toNatClampNeg (some (ra 5))) (5 : Int32).toNatClampNeg (some (ra 0))) ++ (wR Y (ra 0) (rq 0) (Z 0) ++ (wR Y (ra 1) (rq 1) (Z 1) ++ (wR Y (ra 2) (rq 2) (Z 2) ++ (wR Y (ra 3) (rq 3) (Z 3) ++ (wR Y (ra 4) (rq 4) (Z 4) ++ wR Y (ra 5) (rq 5) (Z 5)))))))) := hD
              obtain ⟨S_1, eS_1⟩ : ∃ z9, n - 1 = z9 := ⟨_, rfl⟩
              rw [eS_1] at hP hD
              subst eS_1
              have e9 : D_X0_dropOldest n f ra rq Z = ((n - 1), (va_up (va_up (va_up (va_up (va_up (va_up f (0 : Int32).toNatClampNeg (some (ra 1))) (1 : Int32).toNatClampNeg (some (ra 2))) (2 : Int32).toNatClampNeg (some (ra 3))) (3 : Int32).toNatClampNeg (some (ra 4))) (4 : Int32).toNatClampNeg (some (ra 5))) (5 : Int32).toNatClampNeg (some (ra 0)))) := by rw [D_X0_dropOldest]
              exact ret_v hx hb hr hlk hP hD hS dX0_dropOldest_52 ⟨Nat.zero_le _, Nat.zero_le _⟩ (by rw [e9])
            · exact absurd c_6 (by decide)
def D_X0_remember (u : HS) (S : Nat → Nat → Int32) : HS := if u.1 < 6 then (u.1 + 1, u.2.1, u.2.2.1, u.2.2.2.1, va_up u.2.2.2.2 u.1 (D_X2_copyFrom (u.2.2.2.2 u.1) S)) else (6, (D_X0_dropOldest 6 u.2.1 u.2.2.1 u.2.2.2.1 u.2.2.2.2).2, rot u.2.2.1, rot u.2.2.2.1, va_up (rot u.2.2.2.2) 5 (D_X2_copyFrom (u.2.2.2.2 0) S))
def D_X0_takeBackInto (u : HS) (S : Nat → Nat → Int32) : HS × (Nat → Nat → Int32) := if u.1 = 0 then (u, S) else ((u.1 - 1, u.2), D_X2_copyFrom S (u.2.2.2.2 (u.1 - 1)))
set_option maxRecDepth 100000 in
theorem in_X0_remember_0_RX0 : ∀ w ∈ u_ws RX0 TX0 2, w ∈ wsX0_remember := by decide +kernel
set_option maxHeartbeats 4000000 in
set_option maxRecDepth 100000 in
theorem c_X0_remember_0 (l : Launch) (D : va_G) (Y : YY) (sz : Nat) (sa : Nat) (q : Nat → Nat) (f : Nat → Option Nat) (ra : Nat → Nat) (rq : Nat → Nat → Nat) (Z : Nat → Nat → Nat → Int32) (S : Nat → Nat → Int32) (h : Nat) (r : Nat) (hf : ∀ k, k < 6 → f k = some (ra k)) : Met l yX0_remember wsX0_remember ({ frames := 4, cells := 0, slots := 0, locals := 150 } : Room) (va_Pc [.ref h, .ref r] (Pst D Y sz (wH h sa 0 ++ (wA Y sa 6 f ++ (wR Y (ra 0) (rq 0) (Z 0) ++ (wR Y (ra 1) (rq 1) (Z 1) ++ (wR Y (ra 2) (rq 2) (Z 2) ++ (wR Y (ra 3) (rq 3) (Z 3) ++ (wR Y (ra 4) (rq 4) (Z 4) ++ (wR Y (ra 5) (rq 5) (Z 5) ++ wR Y r q S)))))))))) ((fun A : Nat → Prop => Qsv D (fun w9 => w9 = wHi Y h sa (D_X0_remember (0, f, ra, rq, Z) S) ++ wR Y r q S) A) (va_A (wH h sa 0 ++ (wA Y sa 6 f ++ (wR Y (ra 0) (rq 0) (Z 0) ++ (wR Y (ra 1) (rq 1) (Z 1) ++ (wR Y (ra 2) (rq 2) (Z 2) ++ (wR Y (ra 3) (rq 3) (Z 3) ++ (wR Y (ra 4) (rq 4) (Z 4) ++ (wR Y (ra 5) (rq 5) (Z 5) ++ wR Y r q S)))))))) sz)) 0 0 (va_A (wH h sa 0 ++ (wA Y sa 6 f ++ (wR Y (ra 0) (rq 0) (Z 0) ++ (wR Y (ra 1) (rq 1) (Z 1) ++ (wR Y (ra 2) (rq 2) (Z 2) ++ (wR Y (ra 3) (rq 3) (Z 3) ++ (wR Y (ra 4) (rq 4) (Z 4) ++ (wR Y (ra 5) (rq 5) (Z 5) ++ wR Y r q S)))))))) sz) := by
  refine ct_in (cc := cX0_remember) (maxL := 2) (ret := none) (Qc := fun A : Nat → Prop => Qsv D (fun w9 => w9 = wHi Y h sa (D_X0_remember (0, f, ra, rq, Z) S) ++ wR Y r q S) A) (by decide +kernel) rfl (Nat.le_of_ble_eq_true rfl) ?_
  intro p e s m below meth c A ls hx hb hr hts hown hml hlk hin hsz hA hP hD hK hS hl
  have hown : s.vm.findClass RX0 = some m.cls := hown
  have hl : lv_has ls 2 [(0, .ref h), (1, .ref r)] := hl
  show W p l e ({ frames := 4, cells := 0, slots := 0, locals := 150 } : Room) s m ([.ref h, .ref r] : List Value).toArray below meth c s.heap [] 0 0 (MQ below (Qsv D (fun w9 => w9 = wHi Y h sa (D_X0_remember (0, f, ra, rq, Z) S) ++ wR Y r q S) A) ([.ref h, .ref r] : List Value).toArray s 0 0 A) (F0 m 0 ls [])
  refine lv_aload_n hx hb dX0_remember_0 rfl (lv_at hl 0 rfl) ?_
  refine va_get (D := D) (ci := 0) (v := .int 0) (C := RX0) (T := TX0) (N := 2) hx hb hts in_X0_remember_0_RX0 hown hK.1 hP 0 rfl rfl 1 (by decide) (hts (.fieldLink RX0 17 "NineDancers$History" "length" "I") (by decide +kernel)) (fun _ h9 => h9) rfl dX0_remember_1 ?_
  refine lv_bipush (v := 6) hx hb dX0_remember_4 (by decide) ?_
  refine lv_icmp_ne (tgt := 13) hx hb dX0_remember_6 (by decide) (fun c_1 => ?_) (fun c_1 => ?_)
  · refine lv_aload_n hx hb dX0_remember_13 rfl (lv_at hl 0 rfl) ?_
    refine va_get (D := D) (ci := 0) (v := .ref sa) (C := RX0) (T := TX0) (N := 2) hx hb hts in_X0_remember_0_RX0 hown hK.1 hP 0 rfl rfl 0 (by decide) (hts (.fieldLink RX0 11 "NineDancers$History" "states" "[LNineDancers$Ring;") (by decide +kernel)) (fun _ h9 => h9) rfl dX0_remember_14 ?_
    refine lv_aload_n hx hb dX0_remember_17 rfl (lv_at hl 0 rfl) ?_
    refine va_get (D := D) (ci := 0) (v := .int 0) (C := RX0) (T := TX0) (N := 2) hx hb hts in_X0_remember_0_RX0 hown hK.1 hP 0 rfl rfl 1 (by decide) (hts (.fieldLink RX0 17 "NineDancers$History" "length" "I") (by decide +kernel)) (fun _ h9 => h9) rfl dX0_remember_18 ?_
    refine my_aldq (D := D) hx hb hK.1 hP 1 2 rfl rfl (by unfold vp_in; decide) (v := .ref (ra 0)) (congrArg va_rf (hf 0 (by decide))) dX0_remember_21 ?_
    refine lv_aload_n hx hb dX0_remember_22 rfl (lv_at hl 1 rfl) ?_
    refine ck_vD (wr := wH h sa 0 ++ (wA Y sa 6 f ++ (wR Y (ra 1) (rq 1) (Z 1) ++ (wR Y (ra 2) (rq 2) (Z 2) ++ (wR Y (ra 3) (rq 3) (Z 3) ++ (wR Y (ra 4) (rq 4) (Z 4) ++ wR Y (ra 5) (rq 5) (Z 5))))))) (ws' := wH h sa 0 ++ (wA Y sa 6 f ++ (wR Y (ra 0) (rq 0) (D_X2_copyFrom (Z 0) S) ++ (wR Y (ra 1) (rq 1) (Z 1) ++ (wR Y (ra 2) (rq 2) (Z 2) ++ (wR Y (ra 3) (rq 3) (Z 3) ++ (wR Y (ra 4) (rq 4) (Z 4) ++ (wR Y (ra 5) (rq 5) (Z 5) ++ wR Y r q S)))))))) (va_runV (As := [.ref r]) (rest := []) ⟨hx, hb, hml, hown, hts⟩ (c_X2_copyFrom l D Y s.heap.size (rq 0) q (Z 0) S (ra 0) r) (cwV 1 hts gX0_remember_X2_copyFrom rfl rfl rfl (by decide +kernel) ⟨Nat.le_of_ble_eq_true rfl, Nat.le_of_ble_eq_true rfl⟩) (pst_V hK hP hD [2, 3, 4, 5, 6, 7, 8, 9, 10, 11, 12, 68, 69, 70, 71, 72, 73, 74, 75, 76, 77, 78] rfl (by decide) (q0 := 0) rfl rfl) rfl rfl hl.1 rfl (lv_room (Nat.le_of_ble_eq_true rfl)) dX0_remember_23 ⟨Nat.zero_le _, Nat.zero_le _⟩) hP hD hS hA [2, 3, 4, 5, 6, 7, 8, 9, 10, 11, 12, 68, 69, 70, 71, 72, 73, 74, 75, 76, 77, 78] [0, 1, 13, 14, 15, 16, 17, 18, 19, 20, 21, 22, 23, 24, 25, 26, 27, 28, 29, 30, 31, 32, 33, 34, 35, 36, 37, 38, 39, 40, 41, 42, 43, 44, 45, 46, 47, 48, 49, 50, 51, 52, 53, 54, 55, 56, 57, 58, 59, 60, 61, 62, 63, 64, 65, 66, 67] [0, 1, 57, 58, 59, 60, 61, 62, 63, 64, 65, 66, 67, 2, 3, 4, 5, 6, 7, 8, 9, 10, 11, 12, 13, 14, 15, 16, 17, 18, 19, 20, 21, 22, 23, 24, 25, 26, 27, 28, 29, 30, 31, 32, 33, 34, 35, 36, 37, 38, 39, 40, 41, 42, 43, 44, 45, 46, 47, 48, 49, 50, 51, 52, 53, 54, 55, 56, 68, 69, 70, 71, 72, 73, 74, 75, 76, 77, 78] rfl rfl (by decide) (by decide) rfl (by decide) (fun H locs hP hD hS => ?_)
    obtain ⟨S_1, eS_1⟩ : ∃ z9, (D_X2_copyFrom (Z 0) S) = z9 := ⟨_, rfl⟩
    rw [eS_1] at hP hD
    refine lv_aload_n hx hb dX0_remember_26 rfl (lv_at hl 0 rfl) ?_
    refine lv_dup hx hb dX0_remember_27 rfl ?_
    refine va_get (D := D) (ci := 0) (v := .int 0) (C := RX0) (T := TX0) (N := 2) hx hb hts in_X0_remember_0_RX0 hown hK.1 hP 0 rfl rfl 1 (by decide) (hts (.fieldLink RX0 17 "NineDancers$History" "length" "I") (by decide +kernel)) (fun _ h9 => h9) rfl dX0_remember_28 ?_
    refine lv_iconst (v := 1) hx hb dX0_remember_31 (by decide) ?_
    refine lv_iadd hx hb dX0_remember_32 ?_
    refine lv_topi (fun y9 e9 => ?_)
    obtain rfl : y9 = 1 := e9.trans (by decide)
    refine va_put (D := D) (ci := 0) (v := .int 1) (ty := .int) (C := RX0) (T := TX0) (N := 2) hx hb hts in_X0_remember_0_RX0 tyX0 tyX0_ok nmX0 hown hK.1 hP hD hS 0 rfl rfl 1 (by decide) (hts (.fieldLink RX0 17 "NineDancers$History" "length" "I") (by decide +kernel)) (fun _ h9 => h9) rfl (by decide +kernel) rfl rfl (Nat.le_of_ble_eq_true rfl) dX0_remember_33 (fun H locs hP hD hS => ?_)
    have hP : va_P D vwCl (wH h sa 1 ++ (wA Y sa 6 f ++ (wR Y (ra 0) (rq 0) S_1 ++ (wR Y (ra 1) (rq 1) (Z 1) ++ (wR Y (ra 2) (rq 2) (Z 2) ++ (wR Y (ra 3) (rq 3) (Z 3) ++ (wR Y (ra 4) (rq 4) (Z 4) ++ (wR Y (ra 5) (rq 5) (Z 5) ++ wR Y r q S)))))))) H := hP
    have hD : va_D A (wH h sa 1 ++ (wA Y sa 6 f ++ (wR Y (ra 0) (rq 0) S_1 ++ (wR Y (ra 1) (rq 1) (Z 1) ++ (wR Y (ra 2) (rq 2) (Z 2) ++ (wR Y (ra 3) (rq 3) (Z 3) ++ (wR Y (ra 4) (rq 4) (Z 4) ++ (wR Y (ra 5) (rq 5) (Z 5) ++ wR Y r q S)))))))) := hD
    subst eS_1
    have hP9 : va_P D vwCl (wHi Y h sa (D_X0_remember (0, f, ra, rq, Z) S) ++ wR Y r q S) H := hP
    have hD9 : va_D A (wHi Y h sa (D_X0_remember (0, f, ra, rq, Z) S) ++ wR Y r q S) := hD
    exact ret_v hx hb hr hlk hP9 hD9 hS dX0_remember_36 ⟨Nat.zero_le _, Nat.zero_le _⟩ rfl
  · exact absurd c_1 (by decide)
set_option maxRecDepth 100000 in
theorem in_X0_remember_1_RX0 : ∀ w ∈ u_ws RX0 TX0 2, w ∈ wsX0_remember := by decide +kernel
set_option maxHeartbeats 4000000 in
set_option maxRecDepth 100000 in
theorem c_X0_remember_1 (l : Launch) (D : va_G) (Y : YY) (sz : Nat) (sa : Nat) (q : Nat → Nat) (f : Nat → Option Nat) (ra : Nat → Nat) (rq : Nat → Nat → Nat) (Z : Nat → Nat → Nat → Int32) (S : Nat → Nat → Int32) (h : Nat) (r : Nat) (hf : ∀ k, k < 6 → f k = some (ra k)) : Met l yX0_remember wsX0_remember ({ frames := 4, cells := 0, slots := 0, locals := 150 } : Room) (va_Pc [.ref h, .ref r] (Pst D Y sz (wH h sa 1 ++ (wA Y sa 6 f ++ (wR Y (ra 0) (rq 0) (Z 0) ++ (wR Y (ra 1) (rq 1) (Z 1) ++ (wR Y (ra 2) (rq 2) (Z 2) ++ (wR Y (ra 3) (rq 3) (Z 3) ++ (wR Y (ra 4) (rq 4) (Z 4) ++ (wR Y (ra 5) (rq 5) (Z 5) ++ wR Y r q S)))))))))) ((fun A : Nat → Prop => Qsv D (fun w9 => w9 = wHi Y h sa (D_X0_remember (1, f, ra, rq, Z) S) ++ wR Y r q S) A) (va_A (wH h sa 1 ++ (wA Y sa 6 f ++ (wR Y (ra 0) (rq 0) (Z 0) ++ (wR Y (ra 1) (rq 1) (Z 1) ++ (wR Y (ra 2) (rq 2) (Z 2) ++ (wR Y (ra 3) (rq 3) (Z 3) ++ (wR Y (ra 4) (rq 4) (Z 4) ++ (wR Y (ra 5) (rq 5) (Z 5) ++ wR Y r q S)))))))) sz)) 0 0 (va_A (wH h sa 1 ++ (wA Y sa 6 f ++ (wR Y (ra 0) (rq 0) (Z 0) ++ (wR Y (ra 1) (rq 1) (Z 1) ++ (wR Y (ra 2) (rq 2) (Z 2) ++ (wR Y (ra 3) (rq 3) (Z 3) ++ (wR Y (ra 4) (rq 4) (Z 4) ++ (wR Y (ra 5) (rq 5) (Z 5) ++ wR Y r q S)))))))) sz) := by
  refine ct_in (cc := cX0_remember) (maxL := 2) (ret := none) (Qc := fun A : Nat → Prop => Qsv D (fun w9 => w9 = wHi Y h sa (D_X0_remember (1, f, ra, rq, Z) S) ++ wR Y r q S) A) (by decide +kernel) rfl (Nat.le_of_ble_eq_true rfl) ?_
  intro p e s m below meth c A ls hx hb hr hts hown hml hlk hin hsz hA hP hD hK hS hl
  have hown : s.vm.findClass RX0 = some m.cls := hown
  have hl : lv_has ls 2 [(0, .ref h), (1, .ref r)] := hl
  show W p l e ({ frames := 4, cells := 0, slots := 0, locals := 150 } : Room) s m ([.ref h, .ref r] : List Value).toArray below meth c s.heap [] 0 0 (MQ below (Qsv D (fun w9 => w9 = wHi Y h sa (D_X0_remember (1, f, ra, rq, Z) S) ++ wR Y r q S) A) ([.ref h, .ref r] : List Value).toArray s 0 0 A) (F0 m 0 ls [])
  refine lv_aload_n hx hb dX0_remember_0 rfl (lv_at hl 0 rfl) ?_
  refine va_get (D := D) (ci := 0) (v := .int 1) (C := RX0) (T := TX0) (N := 2) hx hb hts in_X0_remember_1_RX0 hown hK.1 hP 0 rfl rfl 1 (by decide) (hts (.fieldLink RX0 17 "NineDancers$History" "length" "I") (by decide +kernel)) (fun _ h9 => h9) rfl dX0_remember_1 ?_
  refine lv_bipush (v := 6) hx hb dX0_remember_4 (by decide) ?_
  refine lv_icmp_ne (tgt := 13) hx hb dX0_remember_6 (by decide) (fun c_1 => ?_) (fun c_1 => ?_)
  · refine lv_aload_n hx hb dX0_remember_13 rfl (lv_at hl 0 rfl) ?_
    refine va_get (D := D) (ci := 0) (v := .ref sa) (C := RX0) (T := TX0) (N := 2) hx hb hts in_X0_remember_1_RX0 hown hK.1 hP 0 rfl rfl 0 (by decide) (hts (.fieldLink RX0 11 "NineDancers$History" "states" "[LNineDancers$Ring;") (by decide +kernel)) (fun _ h9 => h9) rfl dX0_remember_14 ?_
    refine lv_aload_n hx hb dX0_remember_17 rfl (lv_at hl 0 rfl) ?_
    refine va_get (D := D) (ci := 0) (v := .int 1) (C := RX0) (T := TX0) (N := 2) hx hb hts in_X0_remember_1_RX0 hown hK.1 hP 0 rfl rfl 1 (by decide) (hts (.fieldLink RX0 17 "NineDancers$History" "length" "I") (by decide +kernel)) (fun _ h9 => h9) rfl dX0_remember_18 ?_
    refine my_aldq (D := D) hx hb hK.1 hP 1 2 rfl rfl (by unfold vp_in; decide) (v := .ref (ra 1)) (congrArg va_rf (hf 1 (by decide))) dX0_remember_21 ?_
    refine lv_aload_n hx hb dX0_remember_22 rfl (lv_at hl 1 rfl) ?_
    refine ck_vD (wr := wH h sa 1 ++ (wA Y sa 6 f ++ (wR Y (ra 0) (rq 0) (Z 0) ++ (wR Y (ra 2) (rq 2) (Z 2) ++ (wR Y (ra 3) (rq 3) (Z 3) ++ (wR Y (ra 4) (rq 4) (Z 4) ++ wR Y (ra 5) (rq 5) (Z 5))))))) (ws' := wH h sa 1 ++ (wA Y sa 6 f ++ (wR Y (ra 0) (rq 0) (Z 0) ++ (wR Y (ra 1) (rq 1) (D_X2_copyFrom (Z 1) S) ++ (wR Y (ra 2) (rq 2) (Z 2) ++ (wR Y (ra 3) (rq 3) (Z 3) ++ (wR Y (ra 4) (rq 4) (Z 4) ++ (wR Y (ra 5) (rq 5) (Z 5) ++ wR Y r q S)))))))) (va_runV (As := [.ref r]) (rest := []) ⟨hx, hb, hml, hown, hts⟩ (c_X2_copyFrom l D Y s.heap.size (rq 1) q (Z 1) S (ra 1) r) (cwV 1 hts gX0_remember_X2_copyFrom rfl rfl rfl (by decide +kernel) ⟨Nat.le_of_ble_eq_true rfl, Nat.le_of_ble_eq_true rfl⟩) (pst_V hK hP hD [13, 14, 15, 16, 17, 18, 19, 20, 21, 22, 23, 68, 69, 70, 71, 72, 73, 74, 75, 76, 77, 78] rfl (by decide) (q0 := 0) rfl rfl) rfl rfl hl.1 rfl (lv_room (Nat.le_of_ble_eq_true rfl)) dX0_remember_23 ⟨Nat.zero_le _, Nat.zero_le _⟩) hP hD hS hA [13, 14, 15, 16, 17, 18, 19, 20, 21, 22, 23, 68, 69, 70, 71, 72, 73, 74, 75, 76, 77, 78] [0, 1, 2, 3, 4, 5, 6, 7, 8, 9, 10, 11, 12, 24, 25, 26, 27, 28, 29, 30, 31, 32, 33, 34, 35, 36, 37, 38, 39, 40, 41, 42, 43, 44, 45, 46, 47, 48, 49, 50, 51, 52, 53, 54, 55, 56, 57, 58, 59, 60, 61, 62, 63, 64, 65, 66, 67] [0, 1, 2, 3, 4, 5, 6, 7, 8, 9, 10, 11, 12, 57, 58, 59, 60, 61, 62, 63, 64, 65, 66, 67, 13, 14, 15, 16, 17, 18, 19, 20, 21, 22, 23, 24, 25, 26, 27, 28, 29, 30, 31, 32, 33, 34, 35, 36, 37, 38, 39, 40, 41, 42, 43, 44, 45, 46, 47, 48, 49, 50, 51, 52, 53, 54, 55, 56, 68, 69, 70, 71, 72, 73, 74, 75, 76, 77, 78] rfl rfl (by decide) (by decide) rfl (by decide) (fun H locs hP hD hS => ?_)
    obtain ⟨S_1, eS_1⟩ : ∃ z9, (D_X2_copyFrom (Z 1) S) = z9 := ⟨_, rfl⟩
    rw [eS_1] at hP hD
    refine lv_aload_n hx hb dX0_remember_26 rfl (lv_at hl 0 rfl) ?_
    refine lv_dup hx hb dX0_remember_27 rfl ?_
    refine va_get (D := D) (ci := 0) (v := .int 1) (C := RX0) (T := TX0) (N := 2) hx hb hts in_X0_remember_1_RX0 hown hK.1 hP 0 rfl rfl 1 (by decide) (hts (.fieldLink RX0 17 "NineDancers$History" "length" "I") (by decide +kernel)) (fun _ h9 => h9) rfl dX0_remember_28 ?_
    refine lv_iconst (v := 1) hx hb dX0_remember_31 (by decide) ?_
    refine lv_iadd hx hb dX0_remember_32 ?_
    refine lv_topi (fun y9 e9 => ?_)
    obtain rfl : y9 = 2 := e9.trans (by decide)
    refine va_put (D := D) (ci := 0) (v := .int 2) (ty := .int) (C := RX0) (T := TX0) (N := 2) hx hb hts in_X0_remember_1_RX0 tyX0 tyX0_ok nmX0 hown hK.1 hP hD hS 0 rfl rfl 1 (by decide) (hts (.fieldLink RX0 17 "NineDancers$History" "length" "I") (by decide +kernel)) (fun _ h9 => h9) rfl (by decide +kernel) rfl rfl (Nat.le_of_ble_eq_true rfl) dX0_remember_33 (fun H locs hP hD hS => ?_)
    have hP : va_P D vwCl (wH h sa 2 ++ (wA Y sa 6 f ++ (wR Y (ra 0) (rq 0) (Z 0) ++ (wR Y (ra 1) (rq 1) S_1 ++ (wR Y (ra 2) (rq 2) (Z 2) ++ (wR Y (ra 3) (rq 3) (Z 3) ++ (wR Y (ra 4) (rq 4) (Z 4) ++ (wR Y (ra 5) (rq 5) (Z 5) ++ wR Y r q S)))))))) H := hP
    have hD : va_D A (wH h sa 2 ++ (wA Y sa 6 f ++ (wR Y (ra 0) (rq 0) (Z 0) ++ (wR Y (ra 1) (rq 1) S_1 ++ (wR Y (ra 2) (rq 2) (Z 2) ++ (wR Y (ra 3) (rq 3) (Z 3) ++ (wR Y (ra 4) (rq 4) (Z 4) ++ (wR Y (ra 5) (rq 5) (Z 5) ++ wR Y r q S)))))))) := hD
    subst eS_1
    have hP9 : va_P D vwCl (wHi Y h sa (D_X0_remember (1, f, ra, rq, Z) S) ++ wR Y r q S) H := hP
    have hD9 : va_D A (wHi Y h sa (D_X0_remember (1, f, ra, rq, Z) S) ++ wR Y r q S) := hD
    exact ret_v hx hb hr hlk hP9 hD9 hS dX0_remember_36 ⟨Nat.zero_le _, Nat.zero_le _⟩ rfl
  · exact absurd c_1 (by decide)
set_option maxRecDepth 100000 in
theorem in_X0_remember_2_RX0 : ∀ w ∈ u_ws RX0 TX0 2, w ∈ wsX0_remember := by decide +kernel
set_option maxHeartbeats 4000000 in
set_option maxRecDepth 100000 in
theorem c_X0_remember_2 (l : Launch) (D : va_G) (Y : YY) (sz : Nat) (sa : Nat) (q : Nat → Nat) (f : Nat → Option Nat) (ra : Nat → Nat) (rq : Nat → Nat → Nat) (Z : Nat → Nat → Nat → Int32) (S : Nat → Nat → Int32) (h : Nat) (r : Nat) (hf : ∀ k, k < 6 → f k = some (ra k)) : Met l yX0_remember wsX0_remember ({ frames := 4, cells := 0, slots := 0, locals := 150 } : Room) (va_Pc [.ref h, .ref r] (Pst D Y sz (wH h sa 2 ++ (wA Y sa 6 f ++ (wR Y (ra 0) (rq 0) (Z 0) ++ (wR Y (ra 1) (rq 1) (Z 1) ++ (wR Y (ra 2) (rq 2) (Z 2) ++ (wR Y (ra 3) (rq 3) (Z 3) ++ (wR Y (ra 4) (rq 4) (Z 4) ++ (wR Y (ra 5) (rq 5) (Z 5) ++ wR Y r q S)))))))))) ((fun A : Nat → Prop => Qsv D (fun w9 => w9 = wHi Y h sa (D_X0_remember (2, f, ra, rq, Z) S) ++ wR Y r q S) A) (va_A (wH h sa 2 ++ (wA Y sa 6 f ++ (wR Y (ra 0) (rq 0) (Z 0) ++ (wR Y (ra 1) (rq 1) (Z 1) ++ (wR Y (ra 2) (rq 2) (Z 2) ++ (wR Y (ra 3) (rq 3) (Z 3) ++ (wR Y (ra 4) (rq 4) (Z 4) ++ (wR Y (ra 5) (rq 5) (Z 5) ++ wR Y r q S)))))))) sz)) 0 0 (va_A (wH h sa 2 ++ (wA Y sa 6 f ++ (wR Y (ra 0) (rq 0) (Z 0) ++ (wR Y (ra 1) (rq 1) (Z 1) ++ (wR Y (ra 2) (rq 2) (Z 2) ++ (wR Y (ra 3) (rq 3) (Z 3) ++ (wR Y (ra 4) (rq 4) (Z 4) ++ (wR Y (ra 5) (rq 5) (Z 5) ++ wR Y r q S)))))))) sz) := by
  refine ct_in (cc := cX0_remember) (maxL := 2) (ret := none) (Qc := fun A : Nat → Prop => Qsv D (fun w9 => w9 = wHi Y h sa (D_X0_remember (2, f, ra, rq, Z) S) ++ wR Y r q S) A) (by decide +kernel) rfl (Nat.le_of_ble_eq_true rfl) ?_
  intro p e s m below meth c A ls hx hb hr hts hown hml hlk hin hsz hA hP hD hK hS hl
  have hown : s.vm.findClass RX0 = some m.cls := hown
  have hl : lv_has ls 2 [(0, .ref h), (1, .ref r)] := hl
  show W p l e ({ frames := 4, cells := 0, slots := 0, locals := 150 } : Room) s m ([.ref h, .ref r] : List Value).toArray below meth c s.heap [] 0 0 (MQ below (Qsv D (fun w9 => w9 = wHi Y h sa (D_X0_remember (2, f, ra, rq, Z) S) ++ wR Y r q S) A) ([.ref h, .ref r] : List Value).toArray s 0 0 A) (F0 m 0 ls [])
  refine lv_aload_n hx hb dX0_remember_0 rfl (lv_at hl 0 rfl) ?_
  refine va_get (D := D) (ci := 0) (v := .int 2) (C := RX0) (T := TX0) (N := 2) hx hb hts in_X0_remember_2_RX0 hown hK.1 hP 0 rfl rfl 1 (by decide) (hts (.fieldLink RX0 17 "NineDancers$History" "length" "I") (by decide +kernel)) (fun _ h9 => h9) rfl dX0_remember_1 ?_
  refine lv_bipush (v := 6) hx hb dX0_remember_4 (by decide) ?_
  refine lv_icmp_ne (tgt := 13) hx hb dX0_remember_6 (by decide) (fun c_1 => ?_) (fun c_1 => ?_)
  · refine lv_aload_n hx hb dX0_remember_13 rfl (lv_at hl 0 rfl) ?_
    refine va_get (D := D) (ci := 0) (v := .ref sa) (C := RX0) (T := TX0) (N := 2) hx hb hts in_X0_remember_2_RX0 hown hK.1 hP 0 rfl rfl 0 (by decide) (hts (.fieldLink RX0 11 "NineDancers$History" "states" "[LNineDancers$Ring;") (by decide +kernel)) (fun _ h9 => h9) rfl dX0_remember_14 ?_
    refine lv_aload_n hx hb dX0_remember_17 rfl (lv_at hl 0 rfl) ?_
    refine va_get (D := D) (ci := 0) (v := .int 2) (C := RX0) (T := TX0) (N := 2) hx hb hts in_X0_remember_2_RX0 hown hK.1 hP 0 rfl rfl 1 (by decide) (hts (.fieldLink RX0 17 "NineDancers$History" "length" "I") (by decide +kernel)) (fun _ h9 => h9) rfl dX0_remember_18 ?_
    refine my_aldq (D := D) hx hb hK.1 hP 1 2 rfl rfl (by unfold vp_in; decide) (v := .ref (ra 2)) (congrArg va_rf (hf 2 (by decide))) dX0_remember_21 ?_
    refine lv_aload_n hx hb dX0_remember_22 rfl (lv_at hl 1 rfl) ?_
    refine ck_vD (wr := wH h sa 2 ++ (wA Y sa 6 f ++ (wR Y (ra 0) (rq 0) (Z 0) ++ (wR Y (ra 1) (rq 1) (Z 1) ++ (wR Y (ra 3) (rq 3) (Z 3) ++ (wR Y (ra 4) (rq 4) (Z 4) ++ wR Y (ra 5) (rq 5) (Z 5))))))) (ws' := wH h sa 2 ++ (wA Y sa 6 f ++ (wR Y (ra 0) (rq 0) (Z 0) ++ (wR Y (ra 1) (rq 1) (Z 1) ++ (wR Y (ra 2) (rq 2) (D_X2_copyFrom (Z 2) S) ++ (wR Y (ra 3) (rq 3) (Z 3) ++ (wR Y (ra 4) (rq 4) (Z 4) ++ (wR Y (ra 5) (rq 5) (Z 5) ++ wR Y r q S)))))))) (va_runV (As := [.ref r]) (rest := []) ⟨hx, hb, hml, hown, hts⟩ (c_X2_copyFrom l D Y s.heap.size (rq 2) q (Z 2) S (ra 2) r) (cwV 1 hts gX0_remember_X2_copyFrom rfl rfl rfl (by decide +kernel) ⟨Nat.le_of_ble_eq_true rfl, Nat.le_of_ble_eq_true rfl⟩) (pst_V hK hP hD [24, 25, 26, 27, 28, 29, 30, 31, 32, 33, 34, 68, 69, 70, 71, 72, 73, 74, 75, 76, 77, 78] rfl (by decide) (q0 := 0) rfl rfl) rfl rfl hl.1 rfl (lv_room (Nat.le_of_ble_eq_true rfl)) dX0_remember_23 ⟨Nat.zero_le _, Nat.zero_le _⟩) hP hD hS hA [24, 25, 26, 27, 28, 29, 30, 31, 32, 33, 34, 68, 69, 70, 71, 72, 73, 74, 75, 76, 77, 78] [0, 1, 2, 3, 4, 5, 6, 7, 8, 9, 10, 11, 12, 13, 14, 15, 16, 17, 18, 19, 20, 21, 22, 23, 35, 36, 37, 38, 39, 40, 41, 42, 43, 44, 45, 46, 47, 48, 49, 50, 51, 52, 53, 54, 55, 56, 57, 58, 59, 60, 61, 62, 63, 64, 65, 66, 67] [0, 1, 2, 3, 4, 5, 6, 7, 8, 9, 10, 11, 12, 13, 14, 15, 16, 17, 18, 19, 20, 21, 22, 23, 57, 58, 59, 60, 61, 62, 63, 64, 65, 66, 67, 24, 25, 26, 27, 28, 29, 30, 31, 32, 33, 34, 35, 36, 37, 38, 39, 40, 41, 42, 43, 44, 45, 46, 47, 48, 49, 50, 51, 52, 53, 54, 55, 56, 68, 69, 70, 71, 72, 73, 74, 75, 76, 77, 78] rfl rfl (by decide) (by decide) rfl (by decide) (fun H locs hP hD hS => ?_)
    obtain ⟨S_1, eS_1⟩ : ∃ z9, (D_X2_copyFrom (Z 2) S) = z9 := ⟨_, rfl⟩
    rw [eS_1] at hP hD
    refine lv_aload_n hx hb dX0_remember_26 rfl (lv_at hl 0 rfl) ?_
    refine lv_dup hx hb dX0_remember_27 rfl ?_
    refine va_get (D := D) (ci := 0) (v := .int 2) (C := RX0) (T := TX0) (N := 2) hx hb hts in_X0_remember_2_RX0 hown hK.1 hP 0 rfl rfl 1 (by decide) (hts (.fieldLink RX0 17 "NineDancers$History" "length" "I") (by decide +kernel)) (fun _ h9 => h9) rfl dX0_remember_28 ?_
    refine lv_iconst (v := 1) hx hb dX0_remember_31 (by decide) ?_
    refine lv_iadd hx hb dX0_remember_32 ?_
    refine lv_topi (fun y9 e9 => ?_)
    obtain rfl : y9 = 3 := e9.trans (by decide)
    refine va_put (D := D) (ci := 0) (v := .int 3) (ty := .int) (C := RX0) (T := TX0) (N := 2) hx hb hts in_X0_remember_2_RX0 tyX0 tyX0_ok nmX0 hown hK.1 hP hD hS 0 rfl rfl 1 (by decide) (hts (.fieldLink RX0 17 "NineDancers$History" "length" "I") (by decide +kernel)) (fun _ h9 => h9) rfl (by decide +kernel) rfl rfl (Nat.le_of_ble_eq_true rfl) dX0_remember_33 (fun H locs hP hD hS => ?_)
    have hP : va_P D vwCl (wH h sa 3 ++ (wA Y sa 6 f ++ (wR Y (ra 0) (rq 0) (Z 0) ++ (wR Y (ra 1) (rq 1) (Z 1) ++ (wR Y (ra 2) (rq 2) S_1 ++ (wR Y (ra 3) (rq 3) (Z 3) ++ (wR Y (ra 4) (rq 4) (Z 4) ++ (wR Y (ra 5) (rq 5) (Z 5) ++ wR Y r q S)))))))) H := hP
    have hD : va_D A (wH h sa 3 ++ (wA Y sa 6 f ++ (wR Y (ra 0) (rq 0) (Z 0) ++ (wR Y (ra 1) (rq 1) (Z 1) ++ (wR Y (ra 2) (rq 2) S_1 ++ (wR Y (ra 3) (rq 3) (Z 3) ++ (wR Y (ra 4) (rq 4) (Z 4) ++ (wR Y (ra 5) (rq 5) (Z 5) ++ wR Y r q S)))))))) := hD
    subst eS_1
    have hP9 : va_P D vwCl (wHi Y h sa (D_X0_remember (2, f, ra, rq, Z) S) ++ wR Y r q S) H := hP
    have hD9 : va_D A (wHi Y h sa (D_X0_remember (2, f, ra, rq, Z) S) ++ wR Y r q S) := hD
    exact ret_v hx hb hr hlk hP9 hD9 hS dX0_remember_36 ⟨Nat.zero_le _, Nat.zero_le _⟩ rfl
  · exact absurd c_1 (by decide)
set_option maxRecDepth 100000 in
theorem in_X0_remember_3_RX0 : ∀ w ∈ u_ws RX0 TX0 2, w ∈ wsX0_remember := by decide +kernel
set_option maxHeartbeats 4000000 in
set_option maxRecDepth 100000 in
theorem c_X0_remember_3 (l : Launch) (D : va_G) (Y : YY) (sz : Nat) (sa : Nat) (q : Nat → Nat) (f : Nat → Option Nat) (ra : Nat → Nat) (rq : Nat → Nat → Nat) (Z : Nat → Nat → Nat → Int32) (S : Nat → Nat → Int32) (h : Nat) (r : Nat) (hf : ∀ k, k < 6 → f k = some (ra k)) : Met l yX0_remember wsX0_remember ({ frames := 4, cells := 0, slots := 0, locals := 150 } : Room) (va_Pc [.ref h, .ref r] (Pst D Y sz (wH h sa 3 ++ (wA Y sa 6 f ++ (wR Y (ra 0) (rq 0) (Z 0) ++ (wR Y (ra 1) (rq 1) (Z 1) ++ (wR Y (ra 2) (rq 2) (Z 2) ++ (wR Y (ra 3) (rq 3) (Z 3) ++ (wR Y (ra 4) (rq 4) (Z 4) ++ (wR Y (ra 5) (rq 5) (Z 5) ++ wR Y r q S)))))))))) ((fun A : Nat → Prop => Qsv D (fun w9 => w9 = wHi Y h sa (D_X0_remember (3, f, ra, rq, Z) S) ++ wR Y r q S) A) (va_A (wH h sa 3 ++ (wA Y sa 6 f ++ (wR Y (ra 0) (rq 0) (Z 0) ++ (wR Y (ra 1) (rq 1) (Z 1) ++ (wR Y (ra 2) (rq 2) (Z 2) ++ (wR Y (ra 3) (rq 3) (Z 3) ++ (wR Y (ra 4) (rq 4) (Z 4) ++ (wR Y (ra 5) (rq 5) (Z 5) ++ wR Y r q S)))))))) sz)) 0 0 (va_A (wH h sa 3 ++ (wA Y sa 6 f ++ (wR Y (ra 0) (rq 0) (Z 0) ++ (wR Y (ra 1) (rq 1) (Z 1) ++ (wR Y (ra 2) (rq 2) (Z 2) ++ (wR Y (ra 3) (rq 3) (Z 3) ++ (wR Y (ra 4) (rq 4) (Z 4) ++ (wR Y (ra 5) (rq 5) (Z 5) ++ wR Y r q S)))))))) sz) := by
  refine ct_in (cc := cX0_remember) (maxL := 2) (ret := none) (Qc := fun A : Nat → Prop => Qsv D (fun w9 => w9 = wHi Y h sa (D_X0_remember (3, f, ra, rq, Z) S) ++ wR Y r q S) A) (by decide +kernel) rfl (Nat.le_of_ble_eq_true rfl) ?_
  intro p e s m below meth c A ls hx hb hr hts hown hml hlk hin hsz hA hP hD hK hS hl
  have hown : s.vm.findClass RX0 = some m.cls := hown
  have hl : lv_has ls 2 [(0, .ref h), (1, .ref r)] := hl
  show W p l e ({ frames := 4, cells := 0, slots := 0, locals := 150 } : Room) s m ([.ref h, .ref r] : List Value).toArray below meth c s.heap [] 0 0 (MQ below (Qsv D (fun w9 => w9 = wHi Y h sa (D_X0_remember (3, f, ra, rq, Z) S) ++ wR Y r q S) A) ([.ref h, .ref r] : List Value).toArray s 0 0 A) (F0 m 0 ls [])
  refine lv_aload_n hx hb dX0_remember_0 rfl (lv_at hl 0 rfl) ?_
  refine va_get (D := D) (ci := 0) (v := .int 3) (C := RX0) (T := TX0) (N := 2) hx hb hts in_X0_remember_3_RX0 hown hK.1 hP 0 rfl rfl 1 (by decide) (hts (.fieldLink RX0 17 "NineDancers$History" "length" "I") (by decide +kernel)) (fun _ h9 => h9) rfl dX0_remember_1 ?_
  refine lv_bipush (v := 6) hx hb dX0_remember_4 (by decide) ?_
  refine lv_icmp_ne (tgt := 13) hx hb dX0_remember_6 (by decide) (fun c_1 => ?_) (fun c_1 => ?_)
  · refine lv_aload_n hx hb dX0_remember_13 rfl (lv_at hl 0 rfl) ?_
    refine va_get (D := D) (ci := 0) (v := .ref sa) (C := RX0) (T := TX0) (N := 2) hx hb hts in_X0_remember_3_RX0 hown hK.1 hP 0 rfl rfl 0 (by decide) (hts (.fieldLink RX0 11 "NineDancers$History" "states" "[LNineDancers$Ring;") (by decide +kernel)) (fun _ h9 => h9) rfl dX0_remember_14 ?_
    refine lv_aload_n hx hb dX0_remember_17 rfl (lv_at hl 0 rfl) ?_
    refine va_get (D := D) (ci := 0) (v := .int 3) (C := RX0) (T := TX0) (N := 2) hx hb hts in_X0_remember_3_RX0 hown hK.1 hP 0 rfl rfl 1 (by decide) (hts (.fieldLink RX0 17 "NineDancers$History" "length" "I") (by decide +kernel)) (fun _ h9 => h9) rfl dX0_remember_18 ?_
    refine my_aldq (D := D) hx hb hK.1 hP 1 2 rfl rfl (by unfold vp_in; decide) (v := .ref (ra 3)) (congrArg va_rf (hf 3 (by decide))) dX0_remember_21 ?_
    refine lv_aload_n hx hb dX0_remember_22 rfl (lv_at hl 1 rfl) ?_
    refine ck_vD (wr := wH h sa 3 ++ (wA Y sa 6 f ++ (wR Y (ra 0) (rq 0) (Z 0) ++ (wR Y (ra 1) (rq 1) (Z 1) ++ (wR Y (ra 2) (rq 2) (Z 2) ++ (wR Y (ra 4) (rq 4) (Z 4) ++ wR Y (ra 5) (rq 5) (Z 5))))))) (ws' := wH h sa 3 ++ (wA Y sa 6 f ++ (wR Y (ra 0) (rq 0) (Z 0) ++ (wR Y (ra 1) (rq 1) (Z 1) ++ (wR Y (ra 2) (rq 2) (Z 2) ++ (wR Y (ra 3) (rq 3) (D_X2_copyFrom (Z 3) S) ++ (wR Y (ra 4) (rq 4) (Z 4) ++ (wR Y (ra 5) (rq 5) (Z 5) ++ wR Y r q S)))))))) (va_runV (As := [.ref r]) (rest := []) ⟨hx, hb, hml, hown, hts⟩ (c_X2_copyFrom l D Y s.heap.size (rq 3) q (Z 3) S (ra 3) r) (cwV 1 hts gX0_remember_X2_copyFrom rfl rfl rfl (by decide +kernel) ⟨Nat.le_of_ble_eq_true rfl, Nat.le_of_ble_eq_true rfl⟩) (pst_V hK hP hD [35, 36, 37, 38, 39, 40, 41, 42, 43, 44, 45, 68, 69, 70, 71, 72, 73, 74, 75, 76, 77, 78] rfl (by decide) (q0 := 0) rfl rfl) rfl rfl hl.1 rfl (lv_room (Nat.le_of_ble_eq_true rfl)) dX0_remember_23 ⟨Nat.zero_le _, Nat.zero_le _⟩) hP hD hS hA [35, 36, 37, 38, 39, 40, 41, 42, 43, 44, 45, 68, 69, 70, 71, 72, 73, 74, 75, 76, 77, 78] [0, 1, 2, 3, 4, 5, 6, 7, 8, 9, 10, 11, 12, 13, 14, 15, 16, 17, 18, 19, 20, 21, 22, 23, 24, 25, 26, 27, 28, 29, 30, 31, 32, 33, 34, 46, 47, 48, 49, 50, 51, 52, 53, 54, 55, 56, 57, 58, 59, 60, 61, 62, 63, 64, 65, 66, 67] [0, 1, 2, 3, 4, 5, 6, 7, 8, 9, 10, 11, 12, 13, 14, 15, 16, 17, 18, 19, 20, 21, 22, 23, 24, 25, 26, 27, 28, 29, 30, 31, 32, 33, 34, 57, 58, 59, 60, 61, 62, 63, 64, 65, 66, 67, 35, 36, 37, 38, 39, 40, 41, 42, 43, 44, 45, 46, 47, 48, 49, 50, 51, 52, 53, 54, 55, 56, 68, 69, 70, 71, 72, 73, 74, 75, 76, 77, 78] rfl rfl (by decide) (by decide) rfl (by decide) (fun H locs hP hD hS => ?_)
    obtain ⟨S_1, eS_1⟩ : ∃ z9, (D_X2_copyFrom (Z 3) S) = z9 := ⟨_, rfl⟩
    rw [eS_1] at hP hD
    refine lv_aload_n hx hb dX0_remember_26 rfl (lv_at hl 0 rfl) ?_
    refine lv_dup hx hb dX0_remember_27 rfl ?_
    refine va_get (D := D) (ci := 0) (v := .int 3) (C := RX0) (T := TX0) (N := 2) hx hb hts in_X0_remember_3_RX0 hown hK.1 hP 0 rfl rfl 1 (by decide) (hts (.fieldLink RX0 17 "NineDancers$History" "length" "I") (by decide +kernel)) (fun _ h9 => h9) rfl dX0_remember_28 ?_
    refine lv_iconst (v := 1) hx hb dX0_remember_31 (by decide) ?_
    refine lv_iadd hx hb dX0_remember_32 ?_
    refine lv_topi (fun y9 e9 => ?_)
    obtain rfl : y9 = 4 := e9.trans (by decide)
    refine va_put (D := D) (ci := 0) (v := .int 4) (ty := .int) (C := RX0) (T := TX0) (N := 2) hx hb hts in_X0_remember_3_RX0 tyX0 tyX0_ok nmX0 hown hK.1 hP hD hS 0 rfl rfl 1 (by decide) (hts (.fieldLink RX0 17 "NineDancers$History" "length" "I") (by decide +kernel)) (fun _ h9 => h9) rfl (by decide +kernel) rfl rfl (Nat.le_of_ble_eq_true rfl) dX0_remember_33 (fun H locs hP hD hS => ?_)
    have hP : va_P D vwCl (wH h sa 4 ++ (wA Y sa 6 f ++ (wR Y (ra 0) (rq 0) (Z 0) ++ (wR Y (ra 1) (rq 1) (Z 1) ++ (wR Y (ra 2) (rq 2) (Z 2) ++ (wR Y (ra 3) (rq 3) S_1 ++ (wR Y (ra 4) (rq 4) (Z 4) ++ (wR Y (ra 5) (rq 5) (Z 5) ++ wR Y r q S)))))))) H := hP
    have hD : va_D A (wH h sa 4 ++ (wA Y sa 6 f ++ (wR Y (ra 0) (rq 0) (Z 0) ++ (wR Y (ra 1) (rq 1) (Z 1) ++ (wR Y (ra 2) (rq 2) (Z 2) ++ (wR Y (ra 3) (rq 3) S_1 ++ (wR Y (ra 4) (rq 4) (Z 4) ++ (wR Y (ra 5) (rq 5) (Z 5) ++ wR Y r q S)))))))) := hD
    subst eS_1
    have hP9 : va_P D vwCl (wHi Y h sa (D_X0_remember (3, f, ra, rq, Z) S) ++ wR Y r q S) H := hP
    have hD9 : va_D A (wHi Y h sa (D_X0_remember (3, f, ra, rq, Z) S) ++ wR Y r q S) := hD
    exact ret_v hx hb hr hlk hP9 hD9 hS dX0_remember_36 ⟨Nat.zero_le _, Nat.zero_le _⟩ rfl
  · exact absurd c_1 (by decide)
set_option maxRecDepth 100000 in
theorem in_X0_remember_4_RX0 : ∀ w ∈ u_ws RX0 TX0 2, w ∈ wsX0_remember := by decide +kernel
set_option maxHeartbeats 4000000 in
set_option maxRecDepth 100000 in
theorem c_X0_remember_4 (l : Launch) (D : va_G) (Y : YY) (sz : Nat) (sa : Nat) (q : Nat → Nat) (f : Nat → Option Nat) (ra : Nat → Nat) (rq : Nat → Nat → Nat) (Z : Nat → Nat → Nat → Int32) (S : Nat → Nat → Int32) (h : Nat) (r : Nat) (hf : ∀ k, k < 6 → f k = some (ra k)) : Met l yX0_remember wsX0_remember ({ frames := 4, cells := 0, slots := 0, locals := 150 } : Room) (va_Pc [.ref h, .ref r] (Pst D Y sz (wH h sa 4 ++ (wA Y sa 6 f ++ (wR Y (ra 0) (rq 0) (Z 0) ++ (wR Y (ra 1) (rq 1) (Z 1) ++ (wR Y (ra 2) (rq 2) (Z 2) ++ (wR Y (ra 3) (rq 3) (Z 3) ++ (wR Y (ra 4) (rq 4) (Z 4) ++ (wR Y (ra 5) (rq 5) (Z 5) ++ wR Y r q S)))))))))) ((fun A : Nat → Prop => Qsv D (fun w9 => w9 = wHi Y h sa (D_X0_remember (4, f, ra, rq, Z) S) ++ wR Y r q S) A) (va_A (wH h sa 4 ++ (wA Y sa 6 f ++ (wR Y (ra 0) (rq 0) (Z 0) ++ (wR Y (ra 1) (rq 1) (Z 1) ++ (wR Y (ra 2) (rq 2) (Z 2) ++ (wR Y (ra 3) (rq 3) (Z 3) ++ (wR Y (ra 4) (rq 4) (Z 4) ++ (wR Y (ra 5) (rq 5) (Z 5) ++ wR Y r q S)))))))) sz)) 0 0 (va_A (wH h sa 4 ++ (wA Y sa 6 f ++ (wR Y (ra 0) (rq 0) (Z 0) ++ (wR Y (ra 1) (rq 1) (Z 1) ++ (wR Y (ra 2) (rq 2) (Z 2) ++ (wR Y (ra 3) (rq 3) (Z 3) ++ (wR Y (ra 4) (rq 4) (Z 4) ++ (wR Y (ra 5) (rq 5) (Z 5) ++ wR Y r q S)))))))) sz) := by
  refine ct_in (cc := cX0_remember) (maxL := 2) (ret := none) (Qc := fun A : Nat → Prop => Qsv D (fun w9 => w9 = wHi Y h sa (D_X0_remember (4, f, ra, rq, Z) S) ++ wR Y r q S) A) (by decide +kernel) rfl (Nat.le_of_ble_eq_true rfl) ?_
  intro p e s m below meth c A ls hx hb hr hts hown hml hlk hin hsz hA hP hD hK hS hl
  have hown : s.vm.findClass RX0 = some m.cls := hown
  have hl : lv_has ls 2 [(0, .ref h), (1, .ref r)] := hl
  show W p l e ({ frames := 4, cells := 0, slots := 0, locals := 150 } : Room) s m ([.ref h, .ref r] : List Value).toArray below meth c s.heap [] 0 0 (MQ below (Qsv D (fun w9 => w9 = wHi Y h sa (D_X0_remember (4, f, ra, rq, Z) S) ++ wR Y r q S) A) ([.ref h, .ref r] : List Value).toArray s 0 0 A) (F0 m 0 ls [])
  refine lv_aload_n hx hb dX0_remember_0 rfl (lv_at hl 0 rfl) ?_
  refine va_get (D := D) (ci := 0) (v := .int 4) (C := RX0) (T := TX0) (N := 2) hx hb hts in_X0_remember_4_RX0 hown hK.1 hP 0 rfl rfl 1 (by decide) (hts (.fieldLink RX0 17 "NineDancers$History" "length" "I") (by decide +kernel)) (fun _ h9 => h9) rfl dX0_remember_1 ?_
  refine lv_bipush (v := 6) hx hb dX0_remember_4 (by decide) ?_
  refine lv_icmp_ne (tgt := 13) hx hb dX0_remember_6 (by decide) (fun c_1 => ?_) (fun c_1 => ?_)
  · refine lv_aload_n hx hb dX0_remember_13 rfl (lv_at hl 0 rfl) ?_
    refine va_get (D := D) (ci := 0) (v := .ref sa) (C := RX0) (T := TX0) (N := 2) hx hb hts in_X0_remember_4_RX0 hown hK.1 hP 0 rfl rfl 0 (by decide) (hts (.fieldLink RX0 11 "NineDancers$History" "states" "[LNineDancers$Ring;") (by decide +kernel)) (fun _ h9 => h9) rfl dX0_remember_14 ?_
    refine lv_aload_n hx hb dX0_remember_17 rfl (lv_at hl 0 rfl) ?_
    refine va_get (D := D) (ci := 0) (v := .int 4) (C := RX0) (T := TX0) (N := 2) hx hb hts in_X0_remember_4_RX0 hown hK.1 hP 0 rfl rfl 1 (by decide) (hts (.fieldLink RX0 17 "NineDancers$History" "length" "I") (by decide +kernel)) (fun _ h9 => h9) rfl dX0_remember_18 ?_
    refine my_aldq (D := D) hx hb hK.1 hP 1 2 rfl rfl (by unfold vp_in; decide) (v := .ref (ra 4)) (congrArg va_rf (hf 4 (by decide))) dX0_remember_21 ?_
    refine lv_aload_n hx hb dX0_remember_22 rfl (lv_at hl 1 rfl) ?_
    refine ck_vD (wr := wH h sa 4 ++ (wA Y sa 6 f ++ (wR Y (ra 0) (rq 0) (Z 0) ++ (wR Y (ra 1) (rq 1) (Z 1) ++ (wR Y (ra 2) (rq 2) (Z 2) ++ (wR Y (ra 3) (rq 3) (Z 3) ++ wR Y (ra 5) (rq 5) (Z 5))))))) (ws' := wH h sa 4 ++ (wA Y sa 6 f ++ (wR Y (ra 0) (rq 0) (Z 0) ++ (wR Y (ra 1) (rq 1) (Z 1) ++ (wR Y (ra 2) (rq 2) (Z 2) ++ (wR Y (ra 3) (rq 3) (Z 3) ++ (wR Y (ra 4) (rq 4) (D_X2_copyFrom (Z 4) S) ++ (wR Y (ra 5) (rq 5) (Z 5) ++ wR Y r q S)))))))) (va_runV (As := [.ref r]) (rest := []) ⟨hx, hb, hml, hown, hts⟩ (c_X2_copyFrom l D Y s.heap.size (rq 4) q (Z 4) S (ra 4) r) (cwV 1 hts gX0_remember_X2_copyFrom rfl rfl rfl (by decide +kernel) ⟨Nat.le_of_ble_eq_true rfl, Nat.le_of_ble_eq_true rfl⟩) (pst_V hK hP hD [46, 47, 48, 49, 50, 51, 52, 53, 54, 55, 56, 68, 69, 70, 71, 72, 73, 74, 75, 76, 77, 78] rfl (by decide) (q0 := 0) rfl rfl) rfl rfl hl.1 rfl (lv_room (Nat.le_of_ble_eq_true rfl)) dX0_remember_23 ⟨Nat.zero_le _, Nat.zero_le _⟩) hP hD hS hA [46, 47, 48, 49, 50, 51, 52, 53, 54, 55, 56, 68, 69, 70, 71, 72, 73, 74, 75, 76, 77, 78] [0, 1, 2, 3, 4, 5, 6, 7, 8, 9, 10, 11, 12, 13, 14, 15, 16, 17, 18, 19, 20, 21, 22, 23, 24, 25, 26, 27, 28, 29, 30, 31, 32, 33, 34, 35, 36, 37, 38, 39, 40, 41, 42, 43, 44, 45, 57, 58, 59, 60, 61, 62, 63, 64, 65, 66, 67] [0, 1, 2, 3, 4, 5, 6, 7, 8, 9, 10, 11, 12, 13, 14, 15, 16, 17, 18, 19, 20, 21, 22, 23, 24, 25, 26, 27, 28, 29, 30, 31, 32, 33, 34, 35, 36, 37, 38, 39, 40, 41, 42, 43, 44, 45, 57, 58, 59, 60, 61, 62, 63, 64, 65, 66, 67, 46, 47, 48, 49, 50, 51, 52, 53, 54, 55, 56, 68, 69, 70, 71, 72, 73, 74, 75, 76, 77, 78] rfl rfl (by decide) (by decide) rfl (by decide) (fun H locs hP hD hS => ?_)
    obtain ⟨S_1, eS_1⟩ : ∃ z9, (D_X2_copyFrom (Z 4) S) = z9 := ⟨_, rfl⟩
    rw [eS_1] at hP hD
    refine lv_aload_n hx hb dX0_remember_26 rfl (lv_at hl 0 rfl) ?_
    refine lv_dup hx hb dX0_remember_27 rfl ?_
    refine va_get (D := D) (ci := 0) (v := .int 4) (C := RX0) (T := TX0) (N := 2) hx hb hts in_X0_remember_4_RX0 hown hK.1 hP 0 rfl rfl 1 (by decide) (hts (.fieldLink RX0 17 "NineDancers$History" "length" "I") (by decide +kernel)) (fun _ h9 => h9) rfl dX0_remember_28 ?_
    refine lv_iconst (v := 1) hx hb dX0_remember_31 (by decide) ?_
    refine lv_iadd hx hb dX0_remember_32 ?_
    refine lv_topi (fun y9 e9 => ?_)
    obtain rfl : y9 = 5 := e9.trans (by decide)
    refine va_put (D := D) (ci := 0) (v := .int 5) (ty := .int) (C := RX0) (T := TX0) (N := 2) hx hb hts in_X0_remember_4_RX0 tyX0 tyX0_ok nmX0 hown hK.1 hP hD hS 0 rfl rfl 1 (by decide) (hts (.fieldLink RX0 17 "NineDancers$History" "length" "I") (by decide +kernel)) (fun _ h9 => h9) rfl (by decide +kernel) rfl rfl (Nat.le_of_ble_eq_true rfl) dX0_remember_33 (fun H locs hP hD hS => ?_)
    have hP : va_P D vwCl (wH h sa 5 ++ (wA Y sa 6 f ++ (wR Y (ra 0) (rq 0) (Z 0) ++ (wR Y (ra 1) (rq 1) (Z 1) ++ (wR Y (ra 2) (rq 2) (Z 2) ++ (wR Y (ra 3) (rq 3) (Z 3) ++ (wR Y (ra 4) (rq 4) S_1 ++ (wR Y (ra 5) (rq 5) (Z 5) ++ wR Y r q S)))))))) H := hP
    have hD : va_D A (wH h sa 5 ++ (wA Y sa 6 f ++ (wR Y (ra 0) (rq 0) (Z 0) ++ (wR Y (ra 1) (rq 1) (Z 1) ++ (wR Y (ra 2) (rq 2) (Z 2) ++ (wR Y (ra 3) (rq 3) (Z 3) ++ (wR Y (ra 4) (rq 4) S_1 ++ (wR Y (ra 5) (rq 5) (Z 5) ++ wR Y r q S)))))))) := hD
    subst eS_1
    have hP9 : va_P D vwCl (wHi Y h sa (D_X0_remember (4, f, ra, rq, Z) S) ++ wR Y r q S) H := hP
    have hD9 : va_D A (wHi Y h sa (D_X0_remember (4, f, ra, rq, Z) S) ++ wR Y r q S) := hD
    exact ret_v hx hb hr hlk hP9 hD9 hS dX0_remember_36 ⟨Nat.zero_le _, Nat.zero_le _⟩ rfl
  · exact absurd c_1 (by decide)
set_option maxRecDepth 100000 in
theorem in_X0_remember_5_RX0 : ∀ w ∈ u_ws RX0 TX0 2, w ∈ wsX0_remember := by decide +kernel
set_option maxHeartbeats 4000000 in
set_option maxRecDepth 100000 in
theorem c_X0_remember_5 (l : Launch) (D : va_G) (Y : YY) (sz : Nat) (sa : Nat) (q : Nat → Nat) (f : Nat → Option Nat) (ra : Nat → Nat) (rq : Nat → Nat → Nat) (Z : Nat → Nat → Nat → Int32) (S : Nat → Nat → Int32) (h : Nat) (r : Nat) (hf : ∀ k, k < 6 → f k = some (ra k)) : Met l yX0_remember wsX0_remember ({ frames := 4, cells := 0, slots := 0, locals := 150 } : Room) (va_Pc [.ref h, .ref r] (Pst D Y sz (wH h sa 5 ++ (wA Y sa 6 f ++ (wR Y (ra 0) (rq 0) (Z 0) ++ (wR Y (ra 1) (rq 1) (Z 1) ++ (wR Y (ra 2) (rq 2) (Z 2) ++ (wR Y (ra 3) (rq 3) (Z 3) ++ (wR Y (ra 4) (rq 4) (Z 4) ++ (wR Y (ra 5) (rq 5) (Z 5) ++ wR Y r q S)))))))))) ((fun A : Nat → Prop => Qsv D (fun w9 => w9 = wHi Y h sa (D_X0_remember (5, f, ra, rq, Z) S) ++ wR Y r q S) A) (va_A (wH h sa 5 ++ (wA Y sa 6 f ++ (wR Y (ra 0) (rq 0) (Z 0) ++ (wR Y (ra 1) (rq 1) (Z 1) ++ (wR Y (ra 2) (rq 2) (Z 2) ++ (wR Y (ra 3) (rq 3) (Z 3) ++ (wR Y (ra 4) (rq 4) (Z 4) ++ (wR Y (ra 5) (rq 5) (Z 5) ++ wR Y r q S)))))))) sz)) 0 0 (va_A (wH h sa 5 ++ (wA Y sa 6 f ++ (wR Y (ra 0) (rq 0) (Z 0) ++ (wR Y (ra 1) (rq 1) (Z 1) ++ (wR Y (ra 2) (rq 2) (Z 2) ++ (wR Y (ra 3) (rq 3) (Z 3) ++ (wR Y (ra 4) (rq 4) (Z 4) ++ (wR Y (ra 5) (rq 5) (Z 5) ++ wR Y r q S)))))))) sz) := by
  refine ct_in (cc := cX0_remember) (maxL := 2) (ret := none) (Qc := fun A : Nat → Prop => Qsv D (fun w9 => w9 = wHi Y h sa (D_X0_remember (5, f, ra, rq, Z) S) ++ wR Y r q S) A) (by decide +kernel) rfl (Nat.le_of_ble_eq_true rfl) ?_
  intro p e s m below meth c A ls hx hb hr hts hown hml hlk hin hsz hA hP hD hK hS hl
  have hown : s.vm.findClass RX0 = some m.cls := hown
  have hl : lv_has ls 2 [(0, .ref h), (1, .ref r)] := hl
  show W p l e ({ frames := 4, cells := 0, slots := 0, locals := 150 } : Room) s m ([.ref h, .ref r] : List Value).toArray below meth c s.heap [] 0 0 (MQ below (Qsv D (fun w9 => w9 = wHi Y h sa (D_X0_remember (5, f, ra, rq, Z) S) ++ wR Y r q S) A) ([.ref h, .ref r] : List Value).toArray s 0 0 A) (F0 m 0 ls [])
  refine lv_aload_n hx hb dX0_remember_0 rfl (lv_at hl 0 rfl) ?_
  refine va_get (D := D) (ci := 0) (v := .int 5) (C := RX0) (T := TX0) (N := 2) hx hb hts in_X0_remember_5_RX0 hown hK.1 hP 0 rfl rfl 1 (by decide) (hts (.fieldLink RX0 17 "NineDancers$History" "length" "I") (by decide +kernel)) (fun _ h9 => h9) rfl dX0_remember_1 ?_
  refine lv_bipush (v := 6) hx hb dX0_remember_4 (by decide) ?_
  refine lv_icmp_ne (tgt := 13) hx hb dX0_remember_6 (by decide) (fun c_1 => ?_) (fun c_1 => ?_)
  · refine lv_aload_n hx hb dX0_remember_13 rfl (lv_at hl 0 rfl) ?_
    refine va_get (D := D) (ci := 0) (v := .ref sa) (C := RX0) (T := TX0) (N := 2) hx hb hts in_X0_remember_5_RX0 hown hK.1 hP 0 rfl rfl 0 (by decide) (hts (.fieldLink RX0 11 "NineDancers$History" "states" "[LNineDancers$Ring;") (by decide +kernel)) (fun _ h9 => h9) rfl dX0_remember_14 ?_
    refine lv_aload_n hx hb dX0_remember_17 rfl (lv_at hl 0 rfl) ?_
    refine va_get (D := D) (ci := 0) (v := .int 5) (C := RX0) (T := TX0) (N := 2) hx hb hts in_X0_remember_5_RX0 hown hK.1 hP 0 rfl rfl 1 (by decide) (hts (.fieldLink RX0 17 "NineDancers$History" "length" "I") (by decide +kernel)) (fun _ h9 => h9) rfl dX0_remember_18 ?_
    refine my_aldq (D := D) hx hb hK.1 hP 1 2 rfl rfl (by unfold vp_in; decide) (v := .ref (ra 5)) (congrArg va_rf (hf 5 (by decide))) dX0_remember_21 ?_
    refine lv_aload_n hx hb dX0_remember_22 rfl (lv_at hl 1 rfl) ?_
    refine ck_vD (wr := wH h sa 5 ++ (wA Y sa 6 f ++ (wR Y (ra 0) (rq 0) (Z 0) ++ (wR Y (ra 1) (rq 1) (Z 1) ++ (wR Y (ra 2) (rq 2) (Z 2) ++ (wR Y (ra 3) (rq 3) (Z 3) ++ wR Y (ra 4) (rq 4) (Z 4))))))) (ws' := wH h sa 5 ++ (wA Y sa 6 f ++ (wR Y (ra 0) (rq 0) (Z 0) ++ (wR Y (ra 1) (rq 1) (Z 1) ++ (wR Y (ra 2) (rq 2) (Z 2) ++ (wR Y (ra 3) (rq 3) (Z 3) ++ (wR Y (ra 4) (rq 4) (Z 4) ++ (wR Y (ra 5) (rq 5) (D_X2_copyFrom (Z 5) S) ++ wR Y r q S)))))))) (va_runV (As := [.ref r]) (rest := []) ⟨hx, hb, hml, hown, hts⟩ (c_X2_copyFrom l D Y s.heap.size (rq 5) q (Z 5) S (ra 5) r) (cwV 1 hts gX0_remember_X2_copyFrom rfl rfl rfl (by decide +kernel) ⟨Nat.le_of_ble_eq_true rfl, Nat.le_of_ble_eq_true rfl⟩) (pst_V hK hP hD [57, 58, 59, 60, 61, 62, 63, 64, 65, 66, 67, 68, 69, 70, 71, 72, 73, 74, 75, 76, 77, 78] rfl (by decide) (q0 := 0) rfl rfl) rfl rfl hl.1 rfl (lv_room (Nat.le_of_ble_eq_true rfl)) dX0_remember_23 ⟨Nat.zero_le _, Nat.zero_le _⟩) hP hD hS hA [57, 58, 59, 60, 61, 62, 63, 64, 65, 66, 67, 68, 69, 70, 71, 72, 73, 74, 75, 76, 77, 78] [0, 1, 2, 3, 4, 5, 6, 7, 8, 9, 10, 11, 12, 13, 14, 15, 16, 17, 18, 19, 20, 21, 22, 23, 24, 25, 26, 27, 28, 29, 30, 31, 32, 33, 34, 35, 36, 37, 38, 39, 40, 41, 42, 43, 44, 45, 46, 47, 48, 49, 50, 51, 52, 53, 54, 55, 56] [0, 1, 2, 3, 4, 5, 6, 7, 8, 9, 10, 11, 12, 13, 14, 15, 16, 17, 18, 19, 20, 21, 22, 23, 24, 25, 26, 27, 28, 29, 30, 31, 32, 33, 34, 35, 36, 37, 38, 39, 40, 41, 42, 43, 44, 45, 46, 47, 48, 49, 50, 51, 52, 53, 54, 55, 56, 57, 58, 59, 60, 61, 62, 63, 64, 65, 66, 67, 68, 69, 70, 71, 72, 73, 74, 75, 76, 77, 78] rfl rfl (by decide) (by decide) rfl (by decide) (fun H locs hP hD hS => ?_)
    obtain ⟨S_1, eS_1⟩ : ∃ z9, (D_X2_copyFrom (Z 5) S) = z9 := ⟨_, rfl⟩
    rw [eS_1] at hP hD
    refine lv_aload_n hx hb dX0_remember_26 rfl (lv_at hl 0 rfl) ?_
    refine lv_dup hx hb dX0_remember_27 rfl ?_
    refine va_get (D := D) (ci := 0) (v := .int 5) (C := RX0) (T := TX0) (N := 2) hx hb hts in_X0_remember_5_RX0 hown hK.1 hP 0 rfl rfl 1 (by decide) (hts (.fieldLink RX0 17 "NineDancers$History" "length" "I") (by decide +kernel)) (fun _ h9 => h9) rfl dX0_remember_28 ?_
    refine lv_iconst (v := 1) hx hb dX0_remember_31 (by decide) ?_
    refine lv_iadd hx hb dX0_remember_32 ?_
    refine lv_topi (fun y9 e9 => ?_)
    obtain rfl : y9 = 6 := e9.trans (by decide)
    refine va_put (D := D) (ci := 0) (v := .int 6) (ty := .int) (C := RX0) (T := TX0) (N := 2) hx hb hts in_X0_remember_5_RX0 tyX0 tyX0_ok nmX0 hown hK.1 hP hD hS 0 rfl rfl 1 (by decide) (hts (.fieldLink RX0 17 "NineDancers$History" "length" "I") (by decide +kernel)) (fun _ h9 => h9) rfl (by decide +kernel) rfl rfl (Nat.le_of_ble_eq_true rfl) dX0_remember_33 (fun H locs hP hD hS => ?_)
    have hP : va_P D vwCl (wH h sa 6 ++ (wA Y sa 6 f ++ (wR Y (ra 0) (rq 0) (Z 0) ++ (wR Y (ra 1) (rq 1) (Z 1) ++ (wR Y (ra 2) (rq 2) (Z 2) ++ (wR Y (ra 3) (rq 3) (Z 3) ++ (wR Y (ra 4) (rq 4) (Z 4) ++ (wR Y (ra 5) (rq 5) S_1 ++ wR Y r q S)))))))) H := hP
    have hD : va_D A (wH h sa 6 ++ (wA Y sa 6 f ++ (wR Y (ra 0) (rq 0) (Z 0) ++ (wR Y (ra 1) (rq 1) (Z 1) ++ (wR Y (ra 2) (rq 2) (Z 2) ++ (wR Y (ra 3) (rq 3) (Z 3) ++ (wR Y (ra 4) (rq 4) (Z 4) ++ (wR Y (ra 5) (rq 5) S_1 ++ wR Y r q S)))))))) := hD
    subst eS_1
    have hP9 : va_P D vwCl (wHi Y h sa (D_X0_remember (5, f, ra, rq, Z) S) ++ wR Y r q S) H := hP
    have hD9 : va_D A (wHi Y h sa (D_X0_remember (5, f, ra, rq, Z) S) ++ wR Y r q S) := hD
    exact ret_v hx hb hr hlk hP9 hD9 hS dX0_remember_36 ⟨Nat.zero_le _, Nat.zero_le _⟩ rfl
  · exact absurd c_1 (by decide)
set_option maxRecDepth 100000 in
theorem in_X0_remember_6_RX0 : ∀ w ∈ u_ws RX0 TX0 2, w ∈ wsX0_remember := by decide +kernel
set_option maxHeartbeats 4000000 in
set_option maxRecDepth 100000 in
theorem c_X0_remember_6 (l : Launch) (D : va_G) (Y : YY) (sz : Nat) (sa : Nat) (q : Nat → Nat) (f : Nat → Option Nat) (ra : Nat → Nat) (rq : Nat → Nat → Nat) (Z : Nat → Nat → Nat → Int32) (S : Nat → Nat → Int32) (h : Nat) (r : Nat) (hf : ∀ k, k < 6 → f k = some (ra k)) : Met l yX0_remember wsX0_remember ({ frames := 4, cells := 0, slots := 0, locals := 150 } : Room) (va_Pc [.ref h, .ref r] (Pst D Y sz (wH h sa 6 ++ (wA Y sa 6 f ++ (wR Y (ra 0) (rq 0) (Z 0) ++ (wR Y (ra 1) (rq 1) (Z 1) ++ (wR Y (ra 2) (rq 2) (Z 2) ++ (wR Y (ra 3) (rq 3) (Z 3) ++ (wR Y (ra 4) (rq 4) (Z 4) ++ (wR Y (ra 5) (rq 5) (Z 5) ++ wR Y r q S)))))))))) ((fun A : Nat → Prop => Qsv D (fun w9 => w9 = wHi Y h sa (D_X0_remember (6, f, ra, rq, Z) S) ++ wR Y r q S) A) (va_A (wH h sa 6 ++ (wA Y sa 6 f ++ (wR Y (ra 0) (rq 0) (Z 0) ++ (wR Y (ra 1) (rq 1) (Z 1) ++ (wR Y (ra 2) (rq 2) (Z 2) ++ (wR Y (ra 3) (rq 3) (Z 3) ++ (wR Y (ra 4) (rq 4) (Z 4) ++ (wR Y (ra 5) (rq 5) (Z 5) ++ wR Y r q S)))))))) sz)) 0 0 (va_A (wH h sa 6 ++ (wA Y sa 6 f ++ (wR Y (ra 0) (rq 0) (Z 0) ++ (wR Y (ra 1) (rq 1) (Z 1) ++ (wR Y (ra 2) (rq 2) (Z 2) ++ (wR Y (ra 3) (rq 3) (Z 3) ++ (wR Y (ra 4) (rq 4) (Z 4) ++ (wR Y (ra 5) (rq 5) (Z 5) ++ wR Y r q S)))))))) sz) := by
  refine ct_in (cc := cX0_remember) (maxL := 2) (ret := none) (Qc := fun A : Nat → Prop => Qsv D (fun w9 => w9 = wHi Y h sa (D_X0_remember (6, f, ra, rq, Z) S) ++ wR Y r q S) A) (by decide +kernel) rfl (Nat.le_of_ble_eq_true rfl) ?_
  intro p e s m below meth c A ls hx hb hr hts hown hml hlk hin hsz hA hP hD hK hS hl
  have hown : s.vm.findClass RX0 = some m.cls := hown
  have hl : lv_has ls 2 [(0, .ref h), (1, .ref r)] := hl
  show W p l e ({ frames := 4, cells := 0, slots := 0, locals := 150 } : Room) s m ([.ref h, .ref r] : List Value).toArray below meth c s.heap [] 0 0 (MQ below (Qsv D (fun w9 => w9 = wHi Y h sa (D_X0_remember (6, f, ra, rq, Z) S) ++ wR Y r q S) A) ([.ref h, .ref r] : List Value).toArray s 0 0 A) (F0 m 0 ls [])
  refine lv_aload_n hx hb dX0_remember_0 rfl (lv_at hl 0 rfl) ?_
  refine va_get (D := D) (ci := 0) (v := .int 6) (C := RX0) (T := TX0) (N := 2) hx hb hts in_X0_remember_6_RX0 hown hK.1 hP 0 rfl rfl 1 (by decide) (hts (.fieldLink RX0 17 "NineDancers$History" "length" "I") (by decide +kernel)) (fun _ h9 => h9) rfl dX0_remember_1 ?_
  refine lv_bipush (v := 6) hx hb dX0_remember_4 (by decide) ?_
  refine lv_icmp_ne (tgt := 13) hx hb dX0_remember_6 (by decide) (fun c_1 => ?_) (fun c_1 => ?_)
  · exact absurd c_1 (by decide)
  · refine lv_aload_n hx hb dX0_remember_9 rfl (lv_at hl 0 rfl) ?_
    refine ck_vD (wr := wR Y r q S) (ws' := wH h sa ((D_X0_dropOldest 6 f ra rq Z).1) ++ (wA Y sa 6 ((D_X0_dropOldest 6 f ra rq Z).2) ++ (wR Y (ra 0) (rq 0) (Z 0) ++ (wR Y (ra 1) (rq 1) (Z 1) ++ (wR Y (ra 2) (rq 2) (Z 2) ++ (wR Y (ra 3) (rq 3) (Z 3) ++ (wR Y (ra 4) (rq 4) (Z 4) ++ (wR Y (ra 5) (rq 5) (Z 5) ++ wR Y r q S)))))))) (va_runV (As := []) (rest := []) ⟨hx, hb, hml, hown, hts⟩ (c_X0_dropOldest l D Y s.heap.size sa 6 f ra rq Z h hf) (cwV 0 hts gX0_remember_X0_dropOldest rfl rfl rfl (by decide +kernel) ⟨Nat.le_of_ble_eq_true rfl, Nat.le_of_ble_eq_true rfl⟩) (pst_V hK hP hD [0, 1, 2, 3, 4, 5, 6, 7, 8, 9, 10, 11, 12, 13, 14, 15, 16, 17, 18, 19, 20, 21, 22, 23, 24, 25, 26, 27, 28, 29, 30, 31, 32, 33, 34, 35, 36, 37, 38, 39, 40, 41, 42, 43, 44, 45, 46, 47, 48, 49, 50, 51, 52, 53, 54, 55, 56, 57, 58, 59, 60, 61, 62, 63, 64, 65, 66, 67] rfl (by decide) (q0 := 0) rfl rfl) rfl rfl hl.1 rfl (lv_room (Nat.le_of_ble_eq_true rfl)) dX0_remember_10 ⟨Nat.zero_le _, Nat.zero_le _⟩) hP hD hS hA [0, 1, 2, 3, 4, 5, 6, 7, 8, 9, 10, 11, 12, 13, 14, 15, 16, 17, 18, 19, 20, 21, 22, 23, 24, 25, 26, 27, 28, 29, 30, 31, 32, 33, 34, 35, 36, 37, 38, 39, 40, 41, 42, 43, 44, 45, 46, 47, 48, 49, 50, 51, 52, 53, 54, 55, 56, 57, 58, 59, 60, 61, 62, 63, 64, 65, 66, 67] [68, 69, 70, 71, 72, 73, 74, 75, 76, 77, 78] [11, 12, 13, 14, 15, 16, 17, 18, 19, 20, 21, 22, 23, 24, 25, 26, 27, 28, 29, 30, 31, 32, 33, 34, 35, 36, 37, 38, 39, 40, 41, 42, 43, 44, 45, 46, 47, 48, 49, 50, 51, 52, 53, 54, 55, 56, 57, 58, 59, 60, 61, 62, 63, 64, 65, 66, 67, 68, 69, 70, 71, 72, 73, 74, 75, 76, 77, 78, 0, 1, 2, 3, 4, 5, 6, 7, 8, 9, 10] rfl rfl (by decide) (by decide) rfl (by decide) (fun H locs hP hD hS => ?_)
    obtain ⟨S_1, eS_1⟩ : ∃ z9, (D_X0_dropOldest 6 f ra rq Z).1 = z9 := ⟨_, rfl⟩
    rw [eS_1] at hP hD
    obtain ⟨S_2, eS_2⟩ : ∃ z9, (D_X0_dropOldest 6 f ra rq Z).2 = z9 := ⟨_, rfl⟩
    rw [eS_2] at hP hD
    refine lv_aload_n hx hb dX0_remember_13 rfl (lv_at hl 0 rfl) ?_
    refine va_get (D := D) (ci := 0) (v := .ref sa) (C := RX0) (T := TX0) (N := 2) hx hb hts in_X0_remember_6_RX0 hown hK.1 hP 0 rfl rfl 0 (by decide) (hts (.fieldLink RX0 11 "NineDancers$History" "states" "[LNineDancers$Ring;") (by decide +kernel)) (fun _ h9 => h9) rfl dX0_remember_14 ?_
    refine lv_aload_n hx hb dX0_remember_17 rfl (lv_at hl 0 rfl) ?_
    refine va_get (D := D) (ci := 0) (v := .int S_1) (C := RX0) (T := TX0) (N := 2) hx hb hts in_X0_remember_6_RX0 hown hK.1 hP 0 rfl rfl 1 (by decide) (hts (.fieldLink RX0 17 "NineDancers$History" "length" "I") (by decide +kernel)) (fun _ h9 => h9) rfl dX0_remember_18 ?_
    refine my_aldq (D := D) hx hb hK.1 hP 1 2 rfl rfl (by rw [← eS_1]; show vp_in (6 - 1) 6; unfold vp_in; decide) (v := .ref (ra 0)) (by rw [← eS_2, ← eS_1]; rfl) dX0_remember_21 ?_
    refine lv_aload_n hx hb dX0_remember_22 rfl (lv_at hl 1 rfl) ?_
    refine ck_vD (wr := wH h sa S_1 ++ (wA Y sa 6 S_2 ++ (wR Y (ra 1) (rq 1) (Z 1) ++ (wR Y (ra 2) (rq 2) (Z 2) ++ (wR Y (ra 3) (rq 3) (Z 3) ++ (wR Y (ra 4) (rq 4) (Z 4) ++ wR Y (ra 5) (rq 5) (Z 5))))))) (ws' := wH h sa S_1 ++ (wA Y sa 6 S_2 ++ (wR Y (ra 0) (rq 0) (D_X2_copyFrom (Z 0) S) ++ (wR Y (ra 1) (rq 1) (Z 1) ++ (wR Y (ra 2) (rq 2) (Z 2) ++ (wR Y (ra 3) (rq 3) (Z 3) ++ (wR Y (ra 4) (rq 4) (Z 4) ++ (wR Y (ra 5) (rq 5) (Z 5) ++ wR Y r q S)))))))) (va_runV (As := [.ref r]) (rest := []) ⟨hx, hb, hml, hown, hts⟩ (c_X2_copyFrom l D Y H.size (rq 0) q (Z 0) S (ra 0) r) (cwV 1 hts gX0_remember_X2_copyFrom rfl rfl rfl (by decide +kernel) ⟨Nat.le_of_ble_eq_true rfl, Nat.le_of_ble_eq_true rfl⟩) (pst_V hK hP hD [2, 3, 4, 5, 6, 7, 8, 9, 10, 11, 12, 68, 69, 70, 71, 72, 73, 74, 75, 76, 77, 78] rfl (by decide) (q0 := 0) rfl rfl) rfl rfl hl.1 rfl (lv_room (Nat.le_of_ble_eq_true rfl)) dX0_remember_23 ⟨Nat.zero_le _, Nat.zero_le _⟩) hP hD hS hA [2, 3, 4, 5, 6, 7, 8, 9, 10, 11, 12, 68, 69, 70, 71, 72, 73, 74, 75, 76, 77, 78] [0, 1, 13, 14, 15, 16, 17, 18, 19, 20, 21, 22, 23, 24, 25, 26, 27, 28, 29, 30, 31, 32, 33, 34, 35, 36, 37, 38, 39, 40, 41, 42, 43, 44, 45, 46, 47, 48, 49, 50, 51, 52, 53, 54, 55, 56, 57, 58, 59, 60, 61, 62, 63, 64, 65, 66, 67] [0, 1, 57, 58, 59, 60, 61, 62, 63, 64, 65, 66, 67, 2, 3, 4, 5, 6, 7, 8, 9, 10, 11, 12, 13, 14, 15, 16, 17, 18, 19, 20, 21, 22, 23, 24, 25, 26, 27, 28, 29, 30, 31, 32, 33, 34, 35, 36, 37, 38, 39, 40, 41, 42, 43, 44, 45, 46, 47, 48, 49, 50, 51, 52, 53, 54, 55, 56, 68, 69, 70, 71, 72, 73, 74, 75, 76, 77, 78] rfl rfl (by decide) (by decide) rfl (by decide) (fun H locs hP hD hS => ?_)
    obtain ⟨S_3, eS_3⟩ : ∃ z9, (D_X2_copyFrom (Z 0) S) = z9 := ⟨_, rfl⟩
    rw [eS_3] at hP hD
    refine lv_aload_n hx hb dX0_remember_26 rfl (lv_at hl 0 rfl) ?_
    refine lv_dup hx hb dX0_remember_27 rfl ?_
    refine va_get (D := D) (ci := 0) (v := .int S_1) (C := RX0) (T := TX0) (N := 2) hx hb hts in_X0_remember_6_RX0 hown hK.1 hP 0 rfl rfl 1 (by decide) (hts (.fieldLink RX0 17 "NineDancers$History" "length" "I") (by decide +kernel)) (fun _ h9 => h9) rfl dX0_remember_28 ?_
    refine lv_iconst (v := 1) hx hb dX0_remember_31 (by decide) ?_
    refine lv_iadd hx hb dX0_remember_32 ?_
    refine va_put (D := D) (ci := 0) (v := .int (S_1 + 1)) (ty := .int) (C := RX0) (T := TX0) (N := 2) hx hb hts in_X0_remember_6_RX0 tyX0 tyX0_ok nmX0 hown hK.1 hP hD hS 0 rfl rfl 1 (by decide) (hts (.fieldLink RX0 17 "NineDancers$History" "length" "I") (by decide +kernel)) (fun _ h9 => h9) rfl (by decide +kernel) rfl rfl (Nat.le_of_ble_eq_true rfl) dX0_remember_33 (fun H locs hP hD hS => ?_)
    have hP : va_P D vwCl (wH h sa (S_1 + 1) ++ (wA Y sa 6 S_2 ++ (wR Y (ra 0) (rq 0) S_3 ++ (wR Y (ra 1) (rq 1) (Z 1) ++ (wR Y (ra 2) (rq 2) (Z 2) ++ (wR Y (ra 3) (rq 3) (Z 3) ++ (wR Y (ra 4) (rq 4) (Z 4) ++ (wR Y (ra 5) (rq 5) (Z 5) ++ wR Y r q S)))))))) H := hP
    have hD : va_D A (wH h sa (S_1 + 1) ++ (wA Y sa 6 S_2 ++ (wR Y (ra 0) (rq 0) S_3 ++ (wR Y (ra 1) (rq 1) (Z 1) ++ (wR Y (ra 2) (rq 2) (Z 2) ++ (wR Y (ra 3) (rq 3) (Z 3) ++ (wR Y (ra 4) (rq 4) (Z 4) ++ (wR Y (ra 5) (rq 5) (Z 5) ++ wR Y r q S)))))))) := hD
    obtain ⟨S_4, eS_4⟩ : ∃ z9, S_1 + 1 = z9 := ⟨_, rfl⟩
    rw [eS_4] at hP hD
    subst eS_4
    subst eS_3
    subst eS_2
    subst eS_1
    have hP9 : va_P D vwCl (wHi Y h sa (D_X0_remember (6, f, ra, rq, Z) S) ++ wR Y r q S) H := my_sub hP (is := [0, 1, 13, 14, 15, 16, 17, 18, 19, 20, 21, 22, 23, 24, 25, 26, 27, 28, 29, 30, 31, 32, 33, 34, 35, 36, 37, 38, 39, 40, 41, 42, 43, 44, 45, 46, 47, 48, 49, 50, 51, 52, 53, 54, 55, 56, 57, 58, 59, 60, 61, 62, 63, 64, 65, 66, 67, 2, 3, 4, 5, 6, 7, 8, 9, 10, 11, 12, 68, 69, 70, 71, 72, 73, 74, 75, 76, 77, 78]) rfl
    have hD9 : va_D A (wHi Y h sa (D_X0_remember (6, f, ra, rq, Z) S) ++ wR Y r q S) := hD.sub [0, 1, 13, 14, 15, 16, 17, 18, 19, 20, 21, 22, 23, 24, 25, 26, 27, 28, 29, 30, 31, 32, 33, 34, 35, 36, 37, 38, 39, 40, 41, 42, 43, 44, 45, 46, 47, 48, 49, 50, 51, 52, 53, 54, 55, 56, 57, 58, 59, 60, 61, 62, 63, 64, 65, 66, 67, 2, 3, 4, 5, 6, 7, 8, 9, 10, 11, 12, 68, 69, 70, 71, 72, 73, 74, 75, 76, 77, 78] (by decide) rfl
    exact ret_v hx hb hr hlk hP9 hD9 hS dX0_remember_36 ⟨Nat.zero_le _, Nat.zero_le _⟩ rfl
set_option maxHeartbeats 4000000 in
set_option maxRecDepth 100000 in
theorem c_X0_remember (l : Launch) (D : va_G) (Y : YY) (sz : Nat) (sa : Nat) (q : Nat → Nat) (u : HS) (S : Nat → Nat → Int32) (h : Nat) (r : Nat) (hu : hok u) : Met l yX0_remember wsX0_remember ({ frames := 4, cells := 0, slots := 0, locals := 150 } : Room) (va_Pc [.ref h, .ref r] (Pst D Y sz (wHi Y h sa u ++ wR Y r q S))) ((fun A : Nat → Prop => Qsv D (fun w9 => w9 = wHi Y h sa (D_X0_remember u S) ++ wR Y r q S) A) (va_A (wHi Y h sa u ++ wR Y r q S) sz)) 0 0 (va_A (wHi Y h sa u ++ wR Y r q S) sz) := by
  obtain ⟨k, f, ra, rq, Z⟩ := u
  obtain ⟨hk, hf⟩ := hu
  have hk : k ≤ 6 := hk
  have hf : ∀ k, k < 6 → f k = some (ra k) := hf
  obtain rfl | rfl | rfl | rfl | rfl | rfl | rfl : k = 0 ∨ k = 1 ∨ k = 2 ∨ k = 3 ∨ k = 4 ∨ k = 5 ∨ k = 6 := by omega
  · have e : wHi Y h sa (0, f, ra, rq, Z) ++ wR Y r q S = wH h sa 0 ++ (wA Y sa 6 f ++ (wR Y (ra 0) (rq 0) (Z 0) ++ (wR Y (ra 1) (rq 1) (Z 1) ++ (wR Y (ra 2) (rq 2) (Z 2) ++ (wR Y (ra 3) (rq 3) (Z 3) ++ (wR Y (ra 4) (rq 4) (Z 4) ++ (wR Y (ra 5) (rq 5) (Z 5) ++ wR Y r q S))))))) := rfl
    rw [e]
    exact c_X0_remember_0 l D Y sz sa q f ra rq Z S h r hf
  · have e : wHi Y h sa (1, f, ra, rq, Z) ++ wR Y r q S = wH h sa 1 ++ (wA Y sa 6 f ++ (wR Y (ra 0) (rq 0) (Z 0) ++ (wR Y (ra 1) (rq 1) (Z 1) ++ (wR Y (ra 2) (rq 2) (Z 2) ++ (wR Y (ra 3) (rq 3) (Z 3) ++ (wR Y (ra 4) (rq 4) (Z 4) ++ (wR Y (ra 5) (rq 5) (Z 5) ++ wR Y r q S))))))) := rfl
    rw [e]
    exact c_X0_remember_1 l D Y sz sa q f ra rq Z S h r hf
  · have e : wHi Y h sa (2, f, ra, rq, Z) ++ wR Y r q S = wH h sa 2 ++ (wA Y sa 6 f ++ (wR Y (ra 0) (rq 0) (Z 0) ++ (wR Y (ra 1) (rq 1) (Z 1) ++ (wR Y (ra 2) (rq 2) (Z 2) ++ (wR Y (ra 3) (rq 3) (Z 3) ++ (wR Y (ra 4) (rq 4) (Z 4) ++ (wR Y (ra 5) (rq 5) (Z 5) ++ wR Y r q S))))))) := rfl
    rw [e]
    exact c_X0_remember_2 l D Y sz sa q f ra rq Z S h r hf
  · have e : wHi Y h sa (3, f, ra, rq, Z) ++ wR Y r q S = wH h sa 3 ++ (wA Y sa 6 f ++ (wR Y (ra 0) (rq 0) (Z 0) ++ (wR Y (ra 1) (rq 1) (Z 1) ++ (wR Y (ra 2) (rq 2) (Z 2) ++ (wR Y (ra 3) (rq 3) (Z 3) ++ (wR Y (ra 4) (rq 4) (Z 4) ++ (wR Y (ra 5) (rq 5) (Z 5) ++ wR Y r q S))))))) := rfl
    rw [e]
    exact c_X0_remember_3 l D Y sz sa q f ra rq Z S h r hf
  · have e : wHi Y h sa (4, f, ra, rq, Z) ++ wR Y r q S = wH h sa 4 ++ (wA Y sa 6 f ++ (wR Y (ra 0) (rq 0) (Z 0) ++ (wR Y (ra 1) (rq 1) (Z 1) ++ (wR Y (ra 2) (rq 2) (Z 2) ++ (wR Y (ra 3) (rq 3) (Z 3) ++ (wR Y (ra 4) (rq 4) (Z 4) ++ (wR Y (ra 5) (rq 5) (Z 5) ++ wR Y r q S))))))) := rfl
    rw [e]
    exact c_X0_remember_4 l D Y sz sa q f ra rq Z S h r hf
  · have e : wHi Y h sa (5, f, ra, rq, Z) ++ wR Y r q S = wH h sa 5 ++ (wA Y sa 6 f ++ (wR Y (ra 0) (rq 0) (Z 0) ++ (wR Y (ra 1) (rq 1) (Z 1) ++ (wR Y (ra 2) (rq 2) (Z 2) ++ (wR Y (ra 3) (rq 3) (Z 3) ++ (wR Y (ra 4) (rq 4) (Z 4) ++ (wR Y (ra 5) (rq 5) (Z 5) ++ wR Y r q S))))))) := rfl
    rw [e]
    exact c_X0_remember_5 l D Y sz sa q f ra rq Z S h r hf
  · have e : wHi Y h sa (6, f, ra, rq, Z) ++ wR Y r q S = wH h sa 6 ++ (wA Y sa 6 f ++ (wR Y (ra 0) (rq 0) (Z 0) ++ (wR Y (ra 1) (rq 1) (Z 1) ++ (wR Y (ra 2) (rq 2) (Z 2) ++ (wR Y (ra 3) (rq 3) (Z 3) ++ (wR Y (ra 4) (rq 4) (Z 4) ++ (wR Y (ra 5) (rq 5) (Z 5) ++ wR Y r q S))))))) := rfl
    rw [e]
    exact c_X0_remember_6 l D Y sz sa q f ra rq Z S h r hf
set_option maxRecDepth 100000 in
theorem in_X0_takeBackInto_0_RX0 : ∀ w ∈ u_ws RX0 TX0 2, w ∈ wsX0_takeBackInto := by decide +kernel
set_option maxHeartbeats 4000000 in
set_option maxRecDepth 100000 in
theorem c_X0_takeBackInto_0 (l : Launch) (D : va_G) (Y : YY) (sz : Nat) (sa : Nat) (q : Nat → Nat) (f : Nat → Option Nat) (ra : Nat → Nat) (rq : Nat → Nat → Nat) (Z : Nat → Nat → Nat → Int32) (S : Nat → Nat → Int32) (h : Nat) (r : Nat) (hf : ∀ k, k < 6 → f k = some (ra k)) : Met l yX0_takeBackInto wsX0_takeBackInto ({ frames := 4, cells := 0, slots := 0, locals := 150 } : Room) (va_Pc [.ref h, .ref r] (Pst D Y sz (wH h sa 0 ++ (wA Y sa 6 f ++ (wR Y (ra 0) (rq 0) (Z 0) ++ (wR Y (ra 1) (rq 1) (Z 1) ++ (wR Y (ra 2) (rq 2) (Z 2) ++ (wR Y (ra 3) (rq 3) (Z 3) ++ (wR Y (ra 4) (rq 4) (Z 4) ++ (wR Y (ra 5) (rq 5) (Z 5) ++ wR Y r q S)))))))))) ((fun A : Nat → Prop => Qsv D (fun w9 => w9 = wHi Y h sa (D_X0_takeBackInto (0, f, ra, rq, Z) S).1 ++ wR Y r q (D_X0_takeBackInto (0, f, ra, rq, Z) S).2) A) (va_A (wH h sa 0 ++ (wA Y sa 6 f ++ (wR Y (ra 0) (rq 0) (Z 0) ++ (wR Y (ra 1) (rq 1) (Z 1) ++ (wR Y (ra 2) (rq 2) (Z 2) ++ (wR Y (ra 3) (rq 3) (Z 3) ++ (wR Y (ra 4) (rq 4) (Z 4) ++ (wR Y (ra 5) (rq 5) (Z 5) ++ wR Y r q S)))))))) sz)) 0 0 (va_A (wH h sa 0 ++ (wA Y sa 6 f ++ (wR Y (ra 0) (rq 0) (Z 0) ++ (wR Y (ra 1) (rq 1) (Z 1) ++ (wR Y (ra 2) (rq 2) (Z 2) ++ (wR Y (ra 3) (rq 3) (Z 3) ++ (wR Y (ra 4) (rq 4) (Z 4) ++ (wR Y (ra 5) (rq 5) (Z 5) ++ wR Y r q S)))))))) sz) := by
  refine ct_in (cc := cX0_takeBackInto) (maxL := 2) (ret := none) (Qc := fun A : Nat → Prop => Qsv D (fun w9 => w9 = wHi Y h sa (D_X0_takeBackInto (0, f, ra, rq, Z) S).1 ++ wR Y r q (D_X0_takeBackInto (0, f, ra, rq, Z) S).2) A) (by decide +kernel) rfl (Nat.le_of_ble_eq_true rfl) ?_
  intro p e s m below meth c A ls hx hb hr hts hown hml hlk hin hsz hA hP hD hK hS hl
  have hown : s.vm.findClass RX0 = some m.cls := hown
  have hl : lv_has ls 2 [(0, .ref h), (1, .ref r)] := hl
  show W p l e ({ frames := 4, cells := 0, slots := 0, locals := 150 } : Room) s m ([.ref h, .ref r] : List Value).toArray below meth c s.heap [] 0 0 (MQ below (Qsv D (fun w9 => w9 = wHi Y h sa (D_X0_takeBackInto (0, f, ra, rq, Z) S).1 ++ wR Y r q (D_X0_takeBackInto (0, f, ra, rq, Z) S).2) A) ([.ref h, .ref r] : List Value).toArray s 0 0 A) (F0 m 0 ls [])
  refine lv_aload_n hx hb dX0_takeBackInto_0 rfl (lv_at hl 0 rfl) ?_
  refine va_get (D := D) (ci := 0) (v := .int 0) (C := RX0) (T := TX0) (N := 2) hx hb hts in_X0_takeBackInto_0_RX0 hown hK.1 hP 0 rfl rfl 1 (by decide) (hts (.fieldLink RX0 17 "NineDancers$History" "length" "I") (by decide +kernel)) (fun _ h9 => h9) rfl dX0_takeBackInto_1 ?_
  refine lv_if_le (tgt := 30) hx hb dX0_takeBackInto_4 (by decide) (fun c_1 => ?_) (fun c_1 => ?_)
  · have hP9 : va_P D vwCl (wHi Y h sa (D_X0_takeBackInto (0, f, ra, rq, Z) S).1 ++ wR Y r q (D_X0_takeBackInto (0, f, ra, rq, Z) S).2) s.heap := hP
    have hD9 : va_D A (wHi Y h sa (D_X0_takeBackInto (0, f, ra, rq, Z) S).1 ++ wR Y r q (D_X0_takeBackInto (0, f, ra, rq, Z) S).2) := hD
    exact ret_v hx hb hr hlk hP9 hD9 hS dX0_takeBackInto_30 ⟨Nat.zero_le _, Nat.zero_le _⟩ rfl
  · exact absurd c_1 (by decide)
set_option maxRecDepth 100000 in
theorem in_X0_takeBackInto_1_RX0 : ∀ w ∈ u_ws RX0 TX0 2, w ∈ wsX0_takeBackInto := by decide +kernel
set_option maxHeartbeats 4000000 in
set_option maxRecDepth 100000 in
theorem c_X0_takeBackInto_1 (l : Launch) (D : va_G) (Y : YY) (sz : Nat) (sa : Nat) (q : Nat → Nat) (f : Nat → Option Nat) (ra : Nat → Nat) (rq : Nat → Nat → Nat) (Z : Nat → Nat → Nat → Int32) (S : Nat → Nat → Int32) (h : Nat) (r : Nat) (hf : ∀ k, k < 6 → f k = some (ra k)) : Met l yX0_takeBackInto wsX0_takeBackInto ({ frames := 4, cells := 0, slots := 0, locals := 150 } : Room) (va_Pc [.ref h, .ref r] (Pst D Y sz (wH h sa 1 ++ (wA Y sa 6 f ++ (wR Y (ra 0) (rq 0) (Z 0) ++ (wR Y (ra 1) (rq 1) (Z 1) ++ (wR Y (ra 2) (rq 2) (Z 2) ++ (wR Y (ra 3) (rq 3) (Z 3) ++ (wR Y (ra 4) (rq 4) (Z 4) ++ (wR Y (ra 5) (rq 5) (Z 5) ++ wR Y r q S)))))))))) ((fun A : Nat → Prop => Qsv D (fun w9 => w9 = wHi Y h sa (D_X0_takeBackInto (1, f, ra, rq, Z) S).1 ++ wR Y r q (D_X0_takeBackInto (1, f, ra, rq, Z) S).2) A) (va_A (wH h sa 1 ++ (wA Y sa 6 f ++ (wR Y (ra 0) (rq 0) (Z 0) ++ (wR Y (ra 1) (rq 1) (Z 1) ++ (wR Y (ra 2) (rq 2) (Z 2) ++ (wR Y (ra 3) (rq 3) (Z 3) ++ (wR Y (ra 4) (rq 4) (Z 4) ++ (wR Y (ra 5) (rq 5) (Z 5) ++ wR Y r q S)))))))) sz)) 0 0 (va_A (wH h sa 1 ++ (wA Y sa 6 f ++ (wR Y (ra 0) (rq 0) (Z 0) ++ (wR Y (ra 1) (rq 1) (Z 1) ++ (wR Y (ra 2) (rq 2) (Z 2) ++ (wR Y (ra 3) (rq 3) (Z 3) ++ (wR Y (ra 4) (rq 4) (Z 4) ++ (wR Y (ra 5) (rq 5) (Z 5) ++ wR Y r q S)))))))) sz) := by
  refine ct_in (cc := cX0_takeBackInto) (maxL := 2) (ret := none) (Qc := fun A : Nat → Prop => Qsv D (fun w9 => w9 = wHi Y h sa (D_X0_takeBackInto (1, f, ra, rq, Z) S).1 ++ wR Y r q (D_X0_takeBackInto (1, f, ra, rq, Z) S).2) A) (by decide +kernel) rfl (Nat.le_of_ble_eq_true rfl) ?_
  intro p e s m below meth c A ls hx hb hr hts hown hml hlk hin hsz hA hP hD hK hS hl
  have hown : s.vm.findClass RX0 = some m.cls := hown
  have hl : lv_has ls 2 [(0, .ref h), (1, .ref r)] := hl
  show W p l e ({ frames := 4, cells := 0, slots := 0, locals := 150 } : Room) s m ([.ref h, .ref r] : List Value).toArray below meth c s.heap [] 0 0 (MQ below (Qsv D (fun w9 => w9 = wHi Y h sa (D_X0_takeBackInto (1, f, ra, rq, Z) S).1 ++ wR Y r q (D_X0_takeBackInto (1, f, ra, rq, Z) S).2) A) ([.ref h, .ref r] : List Value).toArray s 0 0 A) (F0 m 0 ls [])
  refine lv_aload_n hx hb dX0_takeBackInto_0 rfl (lv_at hl 0 rfl) ?_
  refine va_get (D := D) (ci := 0) (v := .int 1) (C := RX0) (T := TX0) (N := 2) hx hb hts in_X0_takeBackInto_1_RX0 hown hK.1 hP 0 rfl rfl 1 (by decide) (hts (.fieldLink RX0 17 "NineDancers$History" "length" "I") (by decide +kernel)) (fun _ h9 => h9) rfl dX0_takeBackInto_1 ?_
  refine lv_if_le (tgt := 30) hx hb dX0_takeBackInto_4 (by decide) (fun c_1 => ?_) (fun c_1 => ?_)
  · exact absurd c_1 (by decide)
  · refine lv_aload_n hx hb dX0_takeBackInto_7 rfl (lv_at hl 0 rfl) ?_
    refine lv_dup hx hb dX0_takeBackInto_8 rfl ?_
    refine va_get (D := D) (ci := 0) (v := .int 1) (C := RX0) (T := TX0) (N := 2) hx hb hts in_X0_takeBackInto_1_RX0 hown hK.1 hP 0 rfl rfl 1 (by decide) (hts (.fieldLink RX0 17 "NineDancers$History" "length" "I") (by decide +kernel)) (fun _ h9 => h9) rfl dX0_takeBackInto_9 ?_
    refine lv_iconst (v := 1) hx hb dX0_takeBackInto_12 (by decide) ?_
    refine lv_isub hx hb dX0_takeBackInto_13 ?_
    refine lv_topi (fun y9 e9 => ?_)
    obtain rfl : y9 = 0 := e9.trans (by decide)
    refine va_put (D := D) (ci := 0) (v := .int 0) (ty := .int) (C := RX0) (T := TX0) (N := 2) hx hb hts in_X0_takeBackInto_1_RX0 tyX0 tyX0_ok nmX0 hown hK.1 hP hD hS 0 rfl rfl 1 (by decide) (hts (.fieldLink RX0 17 "NineDancers$History" "length" "I") (by decide +kernel)) (fun _ h9 => h9) rfl (by decide +kernel) rfl rfl (Nat.le_of_ble_eq_true rfl) dX0_takeBackInto_14 (fun H locs hP hD hS => ?_)
    have hP : va_P D vwCl (wH h sa 0 ++ (wA Y sa 6 f ++ (wR Y (ra 0) (rq 0) (Z 0) ++ (wR Y (ra 1) (rq 1) (Z 1) ++ (wR Y (ra 2) (rq 2) (Z 2) ++ (wR Y (ra 3) (rq 3) (Z 3) ++ (wR Y (ra 4) (rq 4) (Z 4) ++ (wR Y (ra 5) (rq 5) (Z 5) ++ wR Y r q S)))))))) H := hP
    have hD : va_D A (wH h sa 0 ++ (wA Y sa 6 f ++ (wR Y (ra 0) (rq 0) (Z 0) ++ (wR Y (ra 1) (rq 1) (Z 1) ++ (wR Y (ra 2) (rq 2) (Z 2) ++ (wR Y (ra 3) (rq 3) (Z 3) ++ (wR Y (ra 4) (rq 4) (Z 4) ++ (wR Y (ra 5) (rq 5) (Z 5) ++ wR Y r q S)))))))) := hD
    refine lv_aload_n hx hb dX0_takeBackInto_17 rfl (lv_at hl 1 rfl) ?_
    refine lv_aload_n hx hb dX0_takeBackInto_18 rfl (lv_at hl 0 rfl) ?_
    refine va_get (D := D) (ci := 0) (v := .ref sa) (C := RX0) (T := TX0) (N := 2) hx hb hts in_X0_takeBackInto_1_RX0 hown hK.1 hP 0 rfl rfl 0 (by decide) (hts (.fieldLink RX0 11 "NineDancers$History" "states" "[LNineDancers$Ring;") (by decide +kernel)) (fun _ h9 => h9) rfl dX0_takeBackInto_19 ?_
    refine lv_aload_n hx hb dX0_takeBackInto_22 rfl (lv_at hl 0 rfl) ?_
    refine va_get (D := D) (ci := 0) (v := .int 0) (C := RX0) (T := TX0) (N := 2) hx hb hts in_X0_takeBackInto_1_RX0 hown hK.1 hP 0 rfl rfl 1 (by decide) (hts (.fieldLink RX0 17 "NineDancers$History" "length" "I") (by decide +kernel)) (fun _ h9 => h9) rfl dX0_takeBackInto_23 ?_
    refine my_aldq (D := D) hx hb hK.1 hP 1 2 rfl rfl (by unfold vp_in; decide) (v := .ref (ra 0)) (congrArg va_rf (hf 0 (by decide))) dX0_takeBackInto_26 ?_
    refine ck_vD (wr := wH h sa 0 ++ (wA Y sa 6 f ++ (wR Y (ra 1) (rq 1) (Z 1) ++ (wR Y (ra 2) (rq 2) (Z 2) ++ (wR Y (ra 3) (rq 3) (Z 3) ++ (wR Y (ra 4) (rq 4) (Z 4) ++ wR Y (ra 5) (rq 5) (Z 5))))))) (ws' := wH h sa 0 ++ (wA Y sa 6 f ++ (wR Y (ra 0) (rq 0) (Z 0) ++ (wR Y (ra 1) (rq 1) (Z 1) ++ (wR Y (ra 2) (rq 2) (Z 2) ++ (wR Y (ra 3) (rq 3) (Z 3) ++ (wR Y (ra 4) (rq 4) (Z 4) ++ (wR Y (ra 5) (rq 5) (Z 5) ++ wR Y r q (D_X2_copyFrom S (Z 0)))))))))) (va_runV (As := [.ref (ra 0)]) (rest := []) ⟨hx, hb, hml, hown, hts⟩ (c_X2_copyFrom l D Y H.size q (rq 0) S (Z 0) r (ra 0)) (cwV 1 hts gX0_takeBackInto_X2_copyFrom rfl rfl rfl (by decide +kernel) ⟨Nat.le_of_ble_eq_true rfl, Nat.le_of_ble_eq_true rfl⟩) (pst_V hK hP hD [68, 69, 70, 71, 72, 73, 74, 75, 76, 77, 78, 2, 3, 4, 5, 6, 7, 8, 9, 10, 11, 12] rfl (by decide) (q0 := 0) rfl rfl) rfl rfl hl.1 rfl (lv_room (Nat.le_of_ble_eq_true rfl)) dX0_takeBackInto_27 ⟨Nat.zero_le _, Nat.zero_le _⟩) hP hD hS hA [68, 69, 70, 71, 72, 73, 74, 75, 76, 77, 78, 2, 3, 4, 5, 6, 7, 8, 9, 10, 11, 12] [0, 1, 13, 14, 15, 16, 17, 18, 19, 20, 21, 22, 23, 24, 25, 26, 27, 28, 29, 30, 31, 32, 33, 34, 35, 36, 37, 38, 39, 40, 41, 42, 43, 44, 45, 46, 47, 48, 49, 50, 51, 52, 53, 54, 55, 56, 57, 58, 59, 60, 61, 62, 63, 64, 65, 66, 67] [0, 1, 68, 69, 70, 71, 72, 73, 74, 75, 76, 77, 78, 2, 3, 4, 5, 6, 7, 8, 9, 10, 11, 12, 13, 14, 15, 16, 17, 18, 19, 20, 21, 22, 23, 24, 25, 26, 27, 28, 29, 30, 31, 32, 33, 34, 35, 36, 37, 38, 39, 40, 41, 42, 43, 44, 45, 46, 47, 48, 49, 50, 51, 52, 53, 54, 55, 56, 57, 58, 59, 60, 61, 62, 63, 64, 65, 66, 67] rfl rfl (by decide) (by decide) rfl (by decide) (fun H locs hP hD hS => ?_)
    obtain ⟨S_1, eS_1⟩ : ∃ z9, (D_X2_copyFrom S (Z 0)) = z9 := ⟨_, rfl⟩
    rw [eS_1] at hP hD
    subst eS_1
    have hP9 : va_P D vwCl (wHi Y h sa (D_X0_takeBackInto (1, f, ra, rq, Z) S).1 ++ wR Y r q (D_X0_takeBackInto (1, f, ra, rq, Z) S).2) H := hP
    have hD9 : va_D A (wHi Y h sa (D_X0_takeBackInto (1, f, ra, rq, Z) S).1 ++ wR Y r q (D_X0_takeBackInto (1, f, ra, rq, Z) S).2) := hD
    exact ret_v hx hb hr hlk hP9 hD9 hS dX0_takeBackInto_30 ⟨Nat.zero_le _, Nat.zero_le _⟩ rfl
set_option maxRecDepth 100000 in
theorem in_X0_takeBackInto_2_RX0 : ∀ w ∈ u_ws RX0 TX0 2, w ∈ wsX0_takeBackInto := by decide +kernel
set_option maxHeartbeats 4000000 in
set_option maxRecDepth 100000 in
theorem c_X0_takeBackInto_2 (l : Launch) (D : va_G) (Y : YY) (sz : Nat) (sa : Nat) (q : Nat → Nat) (f : Nat → Option Nat) (ra : Nat → Nat) (rq : Nat → Nat → Nat) (Z : Nat → Nat → Nat → Int32) (S : Nat → Nat → Int32) (h : Nat) (r : Nat) (hf : ∀ k, k < 6 → f k = some (ra k)) : Met l yX0_takeBackInto wsX0_takeBackInto ({ frames := 4, cells := 0, slots := 0, locals := 150 } : Room) (va_Pc [.ref h, .ref r] (Pst D Y sz (wH h sa 2 ++ (wA Y sa 6 f ++ (wR Y (ra 0) (rq 0) (Z 0) ++ (wR Y (ra 1) (rq 1) (Z 1) ++ (wR Y (ra 2) (rq 2) (Z 2) ++ (wR Y (ra 3) (rq 3) (Z 3) ++ (wR Y (ra 4) (rq 4) (Z 4) ++ (wR Y (ra 5) (rq 5) (Z 5) ++ wR Y r q S)))))))))) ((fun A : Nat → Prop => Qsv D (fun w9 => w9 = wHi Y h sa (D_X0_takeBackInto (2, f, ra, rq, Z) S).1 ++ wR Y r q (D_X0_takeBackInto (2, f, ra, rq, Z) S).2) A) (va_A (wH h sa 2 ++ (wA Y sa 6 f ++ (wR Y (ra 0) (rq 0) (Z 0) ++ (wR Y (ra 1) (rq 1) (Z 1) ++ (wR Y (ra 2) (rq 2) (Z 2) ++ (wR Y (ra 3) (rq 3) (Z 3) ++ (wR Y (ra 4) (rq 4) (Z 4) ++ (wR Y (ra 5) (rq 5) (Z 5) ++ wR Y r q S)))))))) sz)) 0 0 (va_A (wH h sa 2 ++ (wA Y sa 6 f ++ (wR Y (ra 0) (rq 0) (Z 0) ++ (wR Y (ra 1) (rq 1) (Z 1) ++ (wR Y (ra 2) (rq 2) (Z 2) ++ (wR Y (ra 3) (rq 3) (Z 3) ++ (wR Y (ra 4) (rq 4) (Z 4) ++ (wR Y (ra 5) (rq 5) (Z 5) ++ wR Y r q S)))))))) sz) := by
  refine ct_in (cc := cX0_takeBackInto) (maxL := 2) (ret := none) (Qc := fun A : Nat → Prop => Qsv D (fun w9 => w9 = wHi Y h sa (D_X0_takeBackInto (2, f, ra, rq, Z) S).1 ++ wR Y r q (D_X0_takeBackInto (2, f, ra, rq, Z) S).2) A) (by decide +kernel) rfl (Nat.le_of_ble_eq_true rfl) ?_
  intro p e s m below meth c A ls hx hb hr hts hown hml hlk hin hsz hA hP hD hK hS hl
  have hown : s.vm.findClass RX0 = some m.cls := hown
  have hl : lv_has ls 2 [(0, .ref h), (1, .ref r)] := hl
  show W p l e ({ frames := 4, cells := 0, slots := 0, locals := 150 } : Room) s m ([.ref h, .ref r] : List Value).toArray below meth c s.heap [] 0 0 (MQ below (Qsv D (fun w9 => w9 = wHi Y h sa (D_X0_takeBackInto (2, f, ra, rq, Z) S).1 ++ wR Y r q (D_X0_takeBackInto (2, f, ra, rq, Z) S).2) A) ([.ref h, .ref r] : List Value).toArray s 0 0 A) (F0 m 0 ls [])
  refine lv_aload_n hx hb dX0_takeBackInto_0 rfl (lv_at hl 0 rfl) ?_
  refine va_get (D := D) (ci := 0) (v := .int 2) (C := RX0) (T := TX0) (N := 2) hx hb hts in_X0_takeBackInto_2_RX0 hown hK.1 hP 0 rfl rfl 1 (by decide) (hts (.fieldLink RX0 17 "NineDancers$History" "length" "I") (by decide +kernel)) (fun _ h9 => h9) rfl dX0_takeBackInto_1 ?_
  refine lv_if_le (tgt := 30) hx hb dX0_takeBackInto_4 (by decide) (fun c_1 => ?_) (fun c_1 => ?_)
  · exact absurd c_1 (by decide)
  · refine lv_aload_n hx hb dX0_takeBackInto_7 rfl (lv_at hl 0 rfl) ?_
    refine lv_dup hx hb dX0_takeBackInto_8 rfl ?_
    refine va_get (D := D) (ci := 0) (v := .int 2) (C := RX0) (T := TX0) (N := 2) hx hb hts in_X0_takeBackInto_2_RX0 hown hK.1 hP 0 rfl rfl 1 (by decide) (hts (.fieldLink RX0 17 "NineDancers$History" "length" "I") (by decide +kernel)) (fun _ h9 => h9) rfl dX0_takeBackInto_9 ?_
    refine lv_iconst (v := 1) hx hb dX0_takeBackInto_12 (by decide) ?_
    refine lv_isub hx hb dX0_takeBackInto_13 ?_
    refine lv_topi (fun y9 e9 => ?_)
    obtain rfl : y9 = 1 := e9.trans (by decide)
    refine va_put (D := D) (ci := 0) (v := .int 1) (ty := .int) (C := RX0) (T := TX0) (N := 2) hx hb hts in_X0_takeBackInto_2_RX0 tyX0 tyX0_ok nmX0 hown hK.1 hP hD hS 0 rfl rfl 1 (by decide) (hts (.fieldLink RX0 17 "NineDancers$History" "length" "I") (by decide +kernel)) (fun _ h9 => h9) rfl (by decide +kernel) rfl rfl (Nat.le_of_ble_eq_true rfl) dX0_takeBackInto_14 (fun H locs hP hD hS => ?_)
    have hP : va_P D vwCl (wH h sa 1 ++ (wA Y sa 6 f ++ (wR Y (ra 0) (rq 0) (Z 0) ++ (wR Y (ra 1) (rq 1) (Z 1) ++ (wR Y (ra 2) (rq 2) (Z 2) ++ (wR Y (ra 3) (rq 3) (Z 3) ++ (wR Y (ra 4) (rq 4) (Z 4) ++ (wR Y (ra 5) (rq 5) (Z 5) ++ wR Y r q S)))))))) H := hP
    have hD : va_D A (wH h sa 1 ++ (wA Y sa 6 f ++ (wR Y (ra 0) (rq 0) (Z 0) ++ (wR Y (ra 1) (rq 1) (Z 1) ++ (wR Y (ra 2) (rq 2) (Z 2) ++ (wR Y (ra 3) (rq 3) (Z 3) ++ (wR Y (ra 4) (rq 4) (Z 4) ++ (wR Y (ra 5) (rq 5) (Z 5) ++ wR Y r q S)))))))) := hD
    refine lv_aload_n hx hb dX0_takeBackInto_17 rfl (lv_at hl 1 rfl) ?_
    refine lv_aload_n hx hb dX0_takeBackInto_18 rfl (lv_at hl 0 rfl) ?_
    refine va_get (D := D) (ci := 0) (v := .ref sa) (C := RX0) (T := TX0) (N := 2) hx hb hts in_X0_takeBackInto_2_RX0 hown hK.1 hP 0 rfl rfl 0 (by decide) (hts (.fieldLink RX0 11 "NineDancers$History" "states" "[LNineDancers$Ring;") (by decide +kernel)) (fun _ h9 => h9) rfl dX0_takeBackInto_19 ?_
    refine lv_aload_n hx hb dX0_takeBackInto_22 rfl (lv_at hl 0 rfl) ?_
    refine va_get (D := D) (ci := 0) (v := .int 1) (C := RX0) (T := TX0) (N := 2) hx hb hts in_X0_takeBackInto_2_RX0 hown hK.1 hP 0 rfl rfl 1 (by decide) (hts (.fieldLink RX0 17 "NineDancers$History" "length" "I") (by decide +kernel)) (fun _ h9 => h9) rfl dX0_takeBackInto_23 ?_
    refine my_aldq (D := D) hx hb hK.1 hP 1 2 rfl rfl (by unfold vp_in; decide) (v := .ref (ra 1)) (congrArg va_rf (hf 1 (by decide))) dX0_takeBackInto_26 ?_
    refine ck_vD (wr := wH h sa 1 ++ (wA Y sa 6 f ++ (wR Y (ra 0) (rq 0) (Z 0) ++ (wR Y (ra 2) (rq 2) (Z 2) ++ (wR Y (ra 3) (rq 3) (Z 3) ++ (wR Y (ra 4) (rq 4) (Z 4) ++ wR Y (ra 5) (rq 5) (Z 5))))))) (ws' := wH h sa 1 ++ (wA Y sa 6 f ++ (wR Y (ra 0) (rq 0) (Z 0) ++ (wR Y (ra 1) (rq 1) (Z 1) ++ (wR Y (ra 2) (rq 2) (Z 2) ++ (wR Y (ra 3) (rq 3) (Z 3) ++ (wR Y (ra 4) (rq 4) (Z 4) ++ (wR Y (ra 5) (rq 5) (Z 5) ++ wR Y r q (D_X2_copyFrom S (Z 1)))))))))) (va_runV (As := [.ref (ra 1)]) (rest := []) ⟨hx, hb, hml, hown, hts⟩ (c_X2_copyFrom l D Y H.size q (rq 1) S (Z 1) r (ra 1)) (cwV 1 hts gX0_takeBackInto_X2_copyFrom rfl rfl rfl (by decide +kernel) ⟨Nat.le_of_ble_eq_true rfl, Nat.le_of_ble_eq_true rfl⟩) (pst_V hK hP hD [68, 69, 70, 71, 72, 73, 74, 75, 76, 77, 78, 13, 14, 15, 16, 17, 18, 19, 20, 21, 22, 23] rfl (by decide) (q0 := 0) rfl rfl) rfl rfl hl.1 rfl (lv_room (Nat.le_of_ble_eq_true rfl)) dX0_takeBackInto_27 ⟨Nat.zero_le _, Nat.zero_le _⟩) hP hD hS hA [68, 69, 70, 71, 72, 73, 74, 75, 76, 77, 78, 13, 14, 15, 16, 17, 18, 19, 20, 21, 22, 23] [0, 1, 2, 3, 4, 5, 6, 7, 8, 9, 10, 11, 12, 24, 25, 26, 27, 28, 29, 30, 31, 32, 33, 34, 35, 36, 37, 38, 39, 40, 41, 42, 43, 44, 45, 46, 47, 48, 49, 50, 51, 52, 53, 54, 55, 56, 57, 58, 59, 60, 61, 62, 63, 64, 65, 66, 67] [0, 1, 2, 3, 4, 5, 6, 7, 8, 9, 10, 11, 12, 68, 69, 70, 71, 72, 73, 74, 75, 76, 77, 78, 13, 14, 15, 16, 17, 18, 19, 20, 21, 22, 23, 24, 25, 26, 27, 28, 29, 30, 31, 32, 33, 34, 35, 36, 37, 38, 39, 40, 41, 42, 43, 44, 45, 46, 47, 48, 49, 50, 51, 52, 53, 54, 55, 56, 57, 58, 59, 60, 61, 62, 63, 64, 65, 66, 67] rfl rfl (by decide) (by decide) rfl (by decide) (fun H locs hP hD hS => ?_)
    obtain ⟨S_1, eS_1⟩ : ∃ z9, (D_X2_copyFrom S (Z 1)) = z9 := ⟨_, rfl⟩
    rw [eS_1] at hP hD
    subst eS_1
    have hP9 : va_P D vwCl (wHi Y h sa (D_X0_takeBackInto (2, f, ra, rq, Z) S).1 ++ wR Y r q (D_X0_takeBackInto (2, f, ra, rq, Z) S).2) H := hP
    have hD9 : va_D A (wHi Y h sa (D_X0_takeBackInto (2, f, ra, rq, Z) S).1 ++ wR Y r q (D_X0_takeBackInto (2, f, ra, rq, Z) S).2) := hD
    exact ret_v hx hb hr hlk hP9 hD9 hS dX0_takeBackInto_30 ⟨Nat.zero_le _, Nat.zero_le _⟩ rfl
set_option maxRecDepth 100000 in
theorem in_X0_takeBackInto_3_RX0 : ∀ w ∈ u_ws RX0 TX0 2, w ∈ wsX0_takeBackInto := by decide +kernel
set_option maxHeartbeats 4000000 in
set_option maxRecDepth 100000 in
theorem c_X0_takeBackInto_3 (l : Launch) (D : va_G) (Y : YY) (sz : Nat) (sa : Nat) (q : Nat → Nat) (f : Nat → Option Nat) (ra : Nat → Nat) (rq : Nat → Nat → Nat) (Z : Nat → Nat → Nat → Int32) (S : Nat → Nat → Int32) (h : Nat) (r : Nat) (hf : ∀ k, k < 6 → f k = some (ra k)) : Met l yX0_takeBackInto wsX0_takeBackInto ({ frames := 4, cells := 0, slots := 0, locals := 150 } : Room) (va_Pc [.ref h, .ref r] (Pst D Y sz (wH h sa 3 ++ (wA Y sa 6 f ++ (wR Y (ra 0) (rq 0) (Z 0) ++ (wR Y (ra 1) (rq 1) (Z 1) ++ (wR Y (ra 2) (rq 2) (Z 2) ++ (wR Y (ra 3) (rq 3) (Z 3) ++ (wR Y (ra 4) (rq 4) (Z 4) ++ (wR Y (ra 5) (rq 5) (Z 5) ++ wR Y r q S)))))))))) ((fun A : Nat → Prop => Qsv D (fun w9 => w9 = wHi Y h sa (D_X0_takeBackInto (3, f, ra, rq, Z) S).1 ++ wR Y r q (D_X0_takeBackInto (3, f, ra, rq, Z) S).2) A) (va_A (wH h sa 3 ++ (wA Y sa 6 f ++ (wR Y (ra 0) (rq 0) (Z 0) ++ (wR Y (ra 1) (rq 1) (Z 1) ++ (wR Y (ra 2) (rq 2) (Z 2) ++ (wR Y (ra 3) (rq 3) (Z 3) ++ (wR Y (ra 4) (rq 4) (Z 4) ++ (wR Y (ra 5) (rq 5) (Z 5) ++ wR Y r q S)))))))) sz)) 0 0 (va_A (wH h sa 3 ++ (wA Y sa 6 f ++ (wR Y (ra 0) (rq 0) (Z 0) ++ (wR Y (ra 1) (rq 1) (Z 1) ++ (wR Y (ra 2) (rq 2) (Z 2) ++ (wR Y (ra 3) (rq 3) (Z 3) ++ (wR Y (ra 4) (rq 4) (Z 4) ++ (wR Y (ra 5) (rq 5) (Z 5) ++ wR Y r q S)))))))) sz) := by
  refine ct_in (cc := cX0_takeBackInto) (maxL := 2) (ret := none) (Qc := fun A : Nat → Prop => Qsv D (fun w9 => w9 = wHi Y h sa (D_X0_takeBackInto (3, f, ra, rq, Z) S).1 ++ wR Y r q (D_X0_takeBackInto (3, f, ra, rq, Z) S).2) A) (by decide +kernel) rfl (Nat.le_of_ble_eq_true rfl) ?_
  intro p e s m below meth c A ls hx hb hr hts hown hml hlk hin hsz hA hP hD hK hS hl
  have hown : s.vm.findClass RX0 = some m.cls := hown
  have hl : lv_has ls 2 [(0, .ref h), (1, .ref r)] := hl
  show W p l e ({ frames := 4, cells := 0, slots := 0, locals := 150 } : Room) s m ([.ref h, .ref r] : List Value).toArray below meth c s.heap [] 0 0 (MQ below (Qsv D (fun w9 => w9 = wHi Y h sa (D_X0_takeBackInto (3, f, ra, rq, Z) S).1 ++ wR Y r q (D_X0_takeBackInto (3, f, ra, rq, Z) S).2) A) ([.ref h, .ref r] : List Value).toArray s 0 0 A) (F0 m 0 ls [])
  refine lv_aload_n hx hb dX0_takeBackInto_0 rfl (lv_at hl 0 rfl) ?_
  refine va_get (D := D) (ci := 0) (v := .int 3) (C := RX0) (T := TX0) (N := 2) hx hb hts in_X0_takeBackInto_3_RX0 hown hK.1 hP 0 rfl rfl 1 (by decide) (hts (.fieldLink RX0 17 "NineDancers$History" "length" "I") (by decide +kernel)) (fun _ h9 => h9) rfl dX0_takeBackInto_1 ?_
  refine lv_if_le (tgt := 30) hx hb dX0_takeBackInto_4 (by decide) (fun c_1 => ?_) (fun c_1 => ?_)
  · exact absurd c_1 (by decide)
  · refine lv_aload_n hx hb dX0_takeBackInto_7 rfl (lv_at hl 0 rfl) ?_
    refine lv_dup hx hb dX0_takeBackInto_8 rfl ?_
    refine va_get (D := D) (ci := 0) (v := .int 3) (C := RX0) (T := TX0) (N := 2) hx hb hts in_X0_takeBackInto_3_RX0 hown hK.1 hP 0 rfl rfl 1 (by decide) (hts (.fieldLink RX0 17 "NineDancers$History" "length" "I") (by decide +kernel)) (fun _ h9 => h9) rfl dX0_takeBackInto_9 ?_
    refine lv_iconst (v := 1) hx hb dX0_takeBackInto_12 (by decide) ?_
    refine lv_isub hx hb dX0_takeBackInto_13 ?_
    refine lv_topi (fun y9 e9 => ?_)
    obtain rfl : y9 = 2 := e9.trans (by decide)
    refine va_put (D := D) (ci := 0) (v := .int 2) (ty := .int) (C := RX0) (T := TX0) (N := 2) hx hb hts in_X0_takeBackInto_3_RX0 tyX0 tyX0_ok nmX0 hown hK.1 hP hD hS 0 rfl rfl 1 (by decide) (hts (.fieldLink RX0 17 "NineDancers$History" "length" "I") (by decide +kernel)) (fun _ h9 => h9) rfl (by decide +kernel) rfl rfl (Nat.le_of_ble_eq_true rfl) dX0_takeBackInto_14 (fun H locs hP hD hS => ?_)
    have hP : va_P D vwCl (wH h sa 2 ++ (wA Y sa 6 f ++ (wR Y (ra 0) (rq 0) (Z 0) ++ (wR Y (ra 1) (rq 1) (Z 1) ++ (wR Y (ra 2) (rq 2) (Z 2) ++ (wR Y (ra 3) (rq 3) (Z 3) ++ (wR Y (ra 4) (rq 4) (Z 4) ++ (wR Y (ra 5) (rq 5) (Z 5) ++ wR Y r q S)))))))) H := hP
    have hD : va_D A (wH h sa 2 ++ (wA Y sa 6 f ++ (wR Y (ra 0) (rq 0) (Z 0) ++ (wR Y (ra 1) (rq 1) (Z 1) ++ (wR Y (ra 2) (rq 2) (Z 2) ++ (wR Y (ra 3) (rq 3) (Z 3) ++ (wR Y (ra 4) (rq 4) (Z 4) ++ (wR Y (ra 5) (rq 5) (Z 5) ++ wR Y r q S)))))))) := hD
    refine lv_aload_n hx hb dX0_takeBackInto_17 rfl (lv_at hl 1 rfl) ?_
    refine lv_aload_n hx hb dX0_takeBackInto_18 rfl (lv_at hl 0 rfl) ?_
    refine va_get (D := D) (ci := 0) (v := .ref sa) (C := RX0) (T := TX0) (N := 2) hx hb hts in_X0_takeBackInto_3_RX0 hown hK.1 hP 0 rfl rfl 0 (by decide) (hts (.fieldLink RX0 11 "NineDancers$History" "states" "[LNineDancers$Ring;") (by decide +kernel)) (fun _ h9 => h9) rfl dX0_takeBackInto_19 ?_
    refine lv_aload_n hx hb dX0_takeBackInto_22 rfl (lv_at hl 0 rfl) ?_
    refine va_get (D := D) (ci := 0) (v := .int 2) (C := RX0) (T := TX0) (N := 2) hx hb hts in_X0_takeBackInto_3_RX0 hown hK.1 hP 0 rfl rfl 1 (by decide) (hts (.fieldLink RX0 17 "NineDancers$History" "length" "I") (by decide +kernel)) (fun _ h9 => h9) rfl dX0_takeBackInto_23 ?_
    refine my_aldq (D := D) hx hb hK.1 hP 1 2 rfl rfl (by unfold vp_in; decide) (v := .ref (ra 2)) (congrArg va_rf (hf 2 (by decide))) dX0_takeBackInto_26 ?_
    refine ck_vD (wr := wH h sa 2 ++ (wA Y sa 6 f ++ (wR Y (ra 0) (rq 0) (Z 0) ++ (wR Y (ra 1) (rq 1) (Z 1) ++ (wR Y (ra 3) (rq 3) (Z 3) ++ (wR Y (ra 4) (rq 4) (Z 4) ++ wR Y (ra 5) (rq 5) (Z 5))))))) (ws' := wH h sa 2 ++ (wA Y sa 6 f ++ (wR Y (ra 0) (rq 0) (Z 0) ++ (wR Y (ra 1) (rq 1) (Z 1) ++ (wR Y (ra 2) (rq 2) (Z 2) ++ (wR Y (ra 3) (rq 3) (Z 3) ++ (wR Y (ra 4) (rq 4) (Z 4) ++ (wR Y (ra 5) (rq 5) (Z 5) ++ wR Y r q (D_X2_copyFrom S (Z 2)))))))))) (va_runV (As := [.ref (ra 2)]) (rest := []) ⟨hx, hb, hml, hown, hts⟩ (c_X2_copyFrom l D Y H.size q (rq 2) S (Z 2) r (ra 2)) (cwV 1 hts gX0_takeBackInto_X2_copyFrom rfl rfl rfl (by decide +kernel) ⟨Nat.le_of_ble_eq_true rfl, Nat.le_of_ble_eq_true rfl⟩) (pst_V hK hP hD [68, 69, 70, 71, 72, 73, 74, 75, 76, 77, 78, 24, 25, 26, 27, 28, 29, 30, 31, 32, 33, 34] rfl (by decide) (q0 := 0) rfl rfl) rfl rfl hl.1 rfl (lv_room (Nat.le_of_ble_eq_true rfl)) dX0_takeBackInto_27 ⟨Nat.zero_le _, Nat.zero_le _⟩) hP hD hS hA [68, 69, 70, 71, 72, 73, 74, 75, 76, 77, 78, 24, 25, 26, 27, 28, 29, 30, 31, 32, 33, 34] [0, 1, 2, 3, 4, 5, 6, 7, 8, 9, 10, 11, 12, 13, 14, 15, 16, 17, 18, 19, 20, 21, 22, 23, 35, 36, 37, 38, 39, 40, 41, 42, 43, 44, 45, 46, 47, 48, 49, 50, 51, 52, 53, 54, 55, 56, 57, 58, 59, 60, 61, 62, 63, 64, 65, 66, 67] [0, 1, 2, 3, 4, 5, 6, 7, 8, 9, 10, 11, 12, 13, 14, 15, 16, 17, 18, 19, 20, 21, 22, 23, 68, 69, 70, 71, 72, 73, 74, 75, 76, 77, 78, 24, 25, 26, 27, 28, 29, 30, 31, 32, 33, 34, 35, 36, 37, 38, 39, 40, 41, 42, 43, 44, 45, 46, 47, 48, 49, 50, 51, 52, 53, 54, 55, 56, 57, 58, 59, 60, 61, 62, 63, 64, 65, 66, 67] rfl rfl (by decide) (by decide) rfl (by decide) (fun H locs hP hD hS => ?_)
    obtain ⟨S_1, eS_1⟩ : ∃ z9, (D_X2_copyFrom S (Z 2)) = z9 := ⟨_, rfl⟩
    rw [eS_1] at hP hD
    subst eS_1
    have hP9 : va_P D vwCl (wHi Y h sa (D_X0_takeBackInto (3, f, ra, rq, Z) S).1 ++ wR Y r q (D_X0_takeBackInto (3, f, ra, rq, Z) S).2) H := hP
    have hD9 : va_D A (wHi Y h sa (D_X0_takeBackInto (3, f, ra, rq, Z) S).1 ++ wR Y r q (D_X0_takeBackInto (3, f, ra, rq, Z) S).2) := hD
    exact ret_v hx hb hr hlk hP9 hD9 hS dX0_takeBackInto_30 ⟨Nat.zero_le _, Nat.zero_le _⟩ rfl
set_option maxRecDepth 100000 in
theorem in_X0_takeBackInto_4_RX0 : ∀ w ∈ u_ws RX0 TX0 2, w ∈ wsX0_takeBackInto := by decide +kernel
set_option maxHeartbeats 4000000 in
set_option maxRecDepth 100000 in
theorem c_X0_takeBackInto_4 (l : Launch) (D : va_G) (Y : YY) (sz : Nat) (sa : Nat) (q : Nat → Nat) (f : Nat → Option Nat) (ra : Nat → Nat) (rq : Nat → Nat → Nat) (Z : Nat → Nat → Nat → Int32) (S : Nat → Nat → Int32) (h : Nat) (r : Nat) (hf : ∀ k, k < 6 → f k = some (ra k)) : Met l yX0_takeBackInto wsX0_takeBackInto ({ frames := 4, cells := 0, slots := 0, locals := 150 } : Room) (va_Pc [.ref h, .ref r] (Pst D Y sz (wH h sa 4 ++ (wA Y sa 6 f ++ (wR Y (ra 0) (rq 0) (Z 0) ++ (wR Y (ra 1) (rq 1) (Z 1) ++ (wR Y (ra 2) (rq 2) (Z 2) ++ (wR Y (ra 3) (rq 3) (Z 3) ++ (wR Y (ra 4) (rq 4) (Z 4) ++ (wR Y (ra 5) (rq 5) (Z 5) ++ wR Y r q S)))))))))) ((fun A : Nat → Prop => Qsv D (fun w9 => w9 = wHi Y h sa (D_X0_takeBackInto (4, f, ra, rq, Z) S).1 ++ wR Y r q (D_X0_takeBackInto (4, f, ra, rq, Z) S).2) A) (va_A (wH h sa 4 ++ (wA Y sa 6 f ++ (wR Y (ra 0) (rq 0) (Z 0) ++ (wR Y (ra 1) (rq 1) (Z 1) ++ (wR Y (ra 2) (rq 2) (Z 2) ++ (wR Y (ra 3) (rq 3) (Z 3) ++ (wR Y (ra 4) (rq 4) (Z 4) ++ (wR Y (ra 5) (rq 5) (Z 5) ++ wR Y r q S)))))))) sz)) 0 0 (va_A (wH h sa 4 ++ (wA Y sa 6 f ++ (wR Y (ra 0) (rq 0) (Z 0) ++ (wR Y (ra 1) (rq 1) (Z 1) ++ (wR Y (ra 2) (rq 2) (Z 2) ++ (wR Y (ra 3) (rq 3) (Z 3) ++ (wR Y (ra 4) (rq 4) (Z 4) ++ (wR Y (ra 5) (rq 5) (Z 5) ++ wR Y r q S)))))))) sz) := by
  refine ct_in (cc := cX0_takeBackInto) (maxL := 2) (ret := none) (Qc := fun A : Nat → Prop => Qsv D (fun w9 => w9 = wHi Y h sa (D_X0_takeBackInto (4, f, ra, rq, Z) S).1 ++ wR Y r q (D_X0_takeBackInto (4, f, ra, rq, Z) S).2) A) (by decide +kernel) rfl (Nat.le_of_ble_eq_true rfl) ?_
  intro p e s m below meth c A ls hx hb hr hts hown hml hlk hin hsz hA hP hD hK hS hl
  have hown : s.vm.findClass RX0 = some m.cls := hown
  have hl : lv_has ls 2 [(0, .ref h), (1, .ref r)] := hl
  show W p l e ({ frames := 4, cells := 0, slots := 0, locals := 150 } : Room) s m ([.ref h, .ref r] : List Value).toArray below meth c s.heap [] 0 0 (MQ below (Qsv D (fun w9 => w9 = wHi Y h sa (D_X0_takeBackInto (4, f, ra, rq, Z) S).1 ++ wR Y r q (D_X0_takeBackInto (4, f, ra, rq, Z) S).2) A) ([.ref h, .ref r] : List Value).toArray s 0 0 A) (F0 m 0 ls [])
  refine lv_aload_n hx hb dX0_takeBackInto_0 rfl (lv_at hl 0 rfl) ?_
  refine va_get (D := D) (ci := 0) (v := .int 4) (C := RX0) (T := TX0) (N := 2) hx hb hts in_X0_takeBackInto_4_RX0 hown hK.1 hP 0 rfl rfl 1 (by decide) (hts (.fieldLink RX0 17 "NineDancers$History" "length" "I") (by decide +kernel)) (fun _ h9 => h9) rfl dX0_takeBackInto_1 ?_
  refine lv_if_le (tgt := 30) hx hb dX0_takeBackInto_4 (by decide) (fun c_1 => ?_) (fun c_1 => ?_)
  · exact absurd c_1 (by decide)
  · refine lv_aload_n hx hb dX0_takeBackInto_7 rfl (lv_at hl 0 rfl) ?_
    refine lv_dup hx hb dX0_takeBackInto_8 rfl ?_
    refine va_get (D := D) (ci := 0) (v := .int 4) (C := RX0) (T := TX0) (N := 2) hx hb hts in_X0_takeBackInto_4_RX0 hown hK.1 hP 0 rfl rfl 1 (by decide) (hts (.fieldLink RX0 17 "NineDancers$History" "length" "I") (by decide +kernel)) (fun _ h9 => h9) rfl dX0_takeBackInto_9 ?_
    refine lv_iconst (v := 1) hx hb dX0_takeBackInto_12 (by decide) ?_
    refine lv_isub hx hb dX0_takeBackInto_13 ?_
    refine lv_topi (fun y9 e9 => ?_)
    obtain rfl : y9 = 3 := e9.trans (by decide)
    refine va_put (D := D) (ci := 0) (v := .int 3) (ty := .int) (C := RX0) (T := TX0) (N := 2) hx hb hts in_X0_takeBackInto_4_RX0 tyX0 tyX0_ok nmX0 hown hK.1 hP hD hS 0 rfl rfl 1 (by decide) (hts (.fieldLink RX0 17 "NineDancers$History" "length" "I") (by decide +kernel)) (fun _ h9 => h9) rfl (by decide +kernel) rfl rfl (Nat.le_of_ble_eq_true rfl) dX0_takeBackInto_14 (fun H locs hP hD hS => ?_)
    have hP : va_P D vwCl (wH h sa 3 ++ (wA Y sa 6 f ++ (wR Y (ra 0) (rq 0) (Z 0) ++ (wR Y (ra 1) (rq 1) (Z 1) ++ (wR Y (ra 2) (rq 2) (Z 2) ++ (wR Y (ra 3) (rq 3) (Z 3) ++ (wR Y (ra 4) (rq 4) (Z 4) ++ (wR Y (ra 5) (rq 5) (Z 5) ++ wR Y r q S)))))))) H := hP
    have hD : va_D A (wH h sa 3 ++ (wA Y sa 6 f ++ (wR Y (ra 0) (rq 0) (Z 0) ++ (wR Y (ra 1) (rq 1) (Z 1) ++ (wR Y (ra 2) (rq 2) (Z 2) ++ (wR Y (ra 3) (rq 3) (Z 3) ++ (wR Y (ra 4) (rq 4) (Z 4) ++ (wR Y (ra 5) (rq 5) (Z 5) ++ wR Y r q S)))))))) := hD
    refine lv_aload_n hx hb dX0_takeBackInto_17 rfl (lv_at hl 1 rfl) ?_
    refine lv_aload_n hx hb dX0_takeBackInto_18 rfl (lv_at hl 0 rfl) ?_
    refine va_get (D := D) (ci := 0) (v := .ref sa) (C := RX0) (T := TX0) (N := 2) hx hb hts in_X0_takeBackInto_4_RX0 hown hK.1 hP 0 rfl rfl 0 (by decide) (hts (.fieldLink RX0 11 "NineDancers$History" "states" "[LNineDancers$Ring;") (by decide +kernel)) (fun _ h9 => h9) rfl dX0_takeBackInto_19 ?_
    refine lv_aload_n hx hb dX0_takeBackInto_22 rfl (lv_at hl 0 rfl) ?_
    refine va_get (D := D) (ci := 0) (v := .int 3) (C := RX0) (T := TX0) (N := 2) hx hb hts in_X0_takeBackInto_4_RX0 hown hK.1 hP 0 rfl rfl 1 (by decide) (hts (.fieldLink RX0 17 "NineDancers$History" "length" "I") (by decide +kernel)) (fun _ h9 => h9) rfl dX0_takeBackInto_23 ?_
    refine my_aldq (D := D) hx hb hK.1 hP 1 2 rfl rfl (by unfold vp_in; decide) (v := .ref (ra 3)) (congrArg va_rf (hf 3 (by decide))) dX0_takeBackInto_26 ?_
    refine ck_vD (wr := wH h sa 3 ++ (wA Y sa 6 f ++ (wR Y (ra 0) (rq 0) (Z 0) ++ (wR Y (ra 1) (rq 1) (Z 1) ++ (wR Y (ra 2) (rq 2) (Z 2) ++ (wR Y (ra 4) (rq 4) (Z 4) ++ wR Y (ra 5) (rq 5) (Z 5))))))) (ws' := wH h sa 3 ++ (wA Y sa 6 f ++ (wR Y (ra 0) (rq 0) (Z 0) ++ (wR Y (ra 1) (rq 1) (Z 1) ++ (wR Y (ra 2) (rq 2) (Z 2) ++ (wR Y (ra 3) (rq 3) (Z 3) ++ (wR Y (ra 4) (rq 4) (Z 4) ++ (wR Y (ra 5) (rq 5) (Z 5) ++ wR Y r q (D_X2_copyFrom S (Z 3)))))))))) (va_runV (As := [.ref (ra 3)]) (rest := []) ⟨hx, hb, hml, hown, hts⟩ (c_X2_copyFrom l D Y H.size q (rq 3) S (Z 3) r (ra 3)) (cwV 1 hts gX0_takeBackInto_X2_copyFrom rfl rfl rfl (by decide +kernel) ⟨Nat.le_of_ble_eq_true rfl, Nat.le_of_ble_eq_true rfl⟩) (pst_V hK hP hD [68, 69, 70, 71, 72, 73, 74, 75, 76, 77, 78, 35, 36, 37, 38, 39, 40, 41, 42, 43, 44, 45] rfl (by decide) (q0 := 0) rfl rfl) rfl rfl hl.1 rfl (lv_room (Nat.le_of_ble_eq_true rfl)) dX0_takeBackInto_27 ⟨Nat.zero_le _, Nat.zero_le _⟩) hP hD hS hA [68, 69, 70, 71, 72, 73, 74, 75, 76, 77, 78, 35, 36, 37, 38, 39, 40, 41, 42, 43, 44, 45] [0, 1, 2, 3, 4, 5, 6, 7, 8, 9, 10, 11, 12, 13, 14, 15, 16, 17, 18, 19, 20, 21, 22, 23, 24, 25, 26, 27, 28, 29, 30, 31, 32, 33, 34, 46, 47, 48, 49, 50, 51, 52, 53, 54, 55, 56, 57, 58, 59, 60, 61, 62, 63, 64, 65, 66, 67] [0, 1, 2, 3, 4, 5, 6, 7, 8, 9, 10, 11, 12, 13, 14, 15, 16, 17, 18, 19, 20, 21, 22, 23, 24, 25, 26, 27, 28, 29, 30, 31, 32, 33, 34, 68, 69, 70, 71, 72, 73, 74, 75, 76, 77, 78, 35, 36, 37, 38, 39, 40, 41, 42, 43, 44, 45, 46, 47, 48, 49, 50, 51, 52, 53, 54, 55, 56, 57, 58, 59, 60, 61, 62, 63, 64, 65, 66, 67] rfl rfl (by decide) (by decide) rfl (by decide) (fun H locs hP hD hS => ?_)
    obtain ⟨S_1, eS_1⟩ : ∃ z9, (D_X2_copyFrom S (Z 3)) = z9 := ⟨_, rfl⟩
    rw [eS_1] at hP hD
    subst eS_1
    have hP9 : va_P D vwCl (wHi Y h sa (D_X0_takeBackInto (4, f, ra, rq, Z) S).1 ++ wR Y r q (D_X0_takeBackInto (4, f, ra, rq, Z) S).2) H := hP
    have hD9 : va_D A (wHi Y h sa (D_X0_takeBackInto (4, f, ra, rq, Z) S).1 ++ wR Y r q (D_X0_takeBackInto (4, f, ra, rq, Z) S).2) := hD
    exact ret_v hx hb hr hlk hP9 hD9 hS dX0_takeBackInto_30 ⟨Nat.zero_le _, Nat.zero_le _⟩ rfl
set_option maxRecDepth 100000 in
theorem in_X0_takeBackInto_5_RX0 : ∀ w ∈ u_ws RX0 TX0 2, w ∈ wsX0_takeBackInto := by decide +kernel
set_option maxHeartbeats 4000000 in
set_option maxRecDepth 100000 in
theorem c_X0_takeBackInto_5 (l : Launch) (D : va_G) (Y : YY) (sz : Nat) (sa : Nat) (q : Nat → Nat) (f : Nat → Option Nat) (ra : Nat → Nat) (rq : Nat → Nat → Nat) (Z : Nat → Nat → Nat → Int32) (S : Nat → Nat → Int32) (h : Nat) (r : Nat) (hf : ∀ k, k < 6 → f k = some (ra k)) : Met l yX0_takeBackInto wsX0_takeBackInto ({ frames := 4, cells := 0, slots := 0, locals := 150 } : Room) (va_Pc [.ref h, .ref r] (Pst D Y sz (wH h sa 5 ++ (wA Y sa 6 f ++ (wR Y (ra 0) (rq 0) (Z 0) ++ (wR Y (ra 1) (rq 1) (Z 1) ++ (wR Y (ra 2) (rq 2) (Z 2) ++ (wR Y (ra 3) (rq 3) (Z 3) ++ (wR Y (ra 4) (rq 4) (Z 4) ++ (wR Y (ra 5) (rq 5) (Z 5) ++ wR Y r q S)))))))))) ((fun A : Nat → Prop => Qsv D (fun w9 => w9 = wHi Y h sa (D_X0_takeBackInto (5, f, ra, rq, Z) S).1 ++ wR Y r q (D_X0_takeBackInto (5, f, ra, rq, Z) S).2) A) (va_A (wH h sa 5 ++ (wA Y sa 6 f ++ (wR Y (ra 0) (rq 0) (Z 0) ++ (wR Y (ra 1) (rq 1) (Z 1) ++ (wR Y (ra 2) (rq 2) (Z 2) ++ (wR Y (ra 3) (rq 3) (Z 3) ++ (wR Y (ra 4) (rq 4) (Z 4) ++ (wR Y (ra 5) (rq 5) (Z 5) ++ wR Y r q S)))))))) sz)) 0 0 (va_A (wH h sa 5 ++ (wA Y sa 6 f ++ (wR Y (ra 0) (rq 0) (Z 0) ++ (wR Y (ra 1) (rq 1) (Z 1) ++ (wR Y (ra 2) (rq 2) (Z 2) ++ (wR Y (ra 3) (rq 3) (Z 3) ++ (wR Y (ra 4) (rq 4) (Z 4) ++ (wR Y (ra 5) (rq 5) (Z 5) ++ wR Y r q S)))))))) sz) := by
  refine ct_in (cc := cX0_takeBackInto) (maxL := 2) (ret := none) (Qc := fun A : Nat → Prop => Qsv D (fun w9 => w9 = wHi Y h sa (D_X0_takeBackInto (5, f, ra, rq, Z) S).1 ++ wR Y r q (D_X0_takeBackInto (5, f, ra, rq, Z) S).2) A) (by decide +kernel) rfl (Nat.le_of_ble_eq_true rfl) ?_
  intro p e s m below meth c A ls hx hb hr hts hown hml hlk hin hsz hA hP hD hK hS hl
  have hown : s.vm.findClass RX0 = some m.cls := hown
  have hl : lv_has ls 2 [(0, .ref h), (1, .ref r)] := hl
  show W p l e ({ frames := 4, cells := 0, slots := 0, locals := 150 } : Room) s m ([.ref h, .ref r] : List Value).toArray below meth c s.heap [] 0 0 (MQ below (Qsv D (fun w9 => w9 = wHi Y h sa (D_X0_takeBackInto (5, f, ra, rq, Z) S).1 ++ wR Y r q (D_X0_takeBackInto (5, f, ra, rq, Z) S).2) A) ([.ref h, .ref r] : List Value).toArray s 0 0 A) (F0 m 0 ls [])
  refine lv_aload_n hx hb dX0_takeBackInto_0 rfl (lv_at hl 0 rfl) ?_
  refine va_get (D := D) (ci := 0) (v := .int 5) (C := RX0) (T := TX0) (N := 2) hx hb hts in_X0_takeBackInto_5_RX0 hown hK.1 hP 0 rfl rfl 1 (by decide) (hts (.fieldLink RX0 17 "NineDancers$History" "length" "I") (by decide +kernel)) (fun _ h9 => h9) rfl dX0_takeBackInto_1 ?_
  refine lv_if_le (tgt := 30) hx hb dX0_takeBackInto_4 (by decide) (fun c_1 => ?_) (fun c_1 => ?_)
  · exact absurd c_1 (by decide)
  · refine lv_aload_n hx hb dX0_takeBackInto_7 rfl (lv_at hl 0 rfl) ?_
    refine lv_dup hx hb dX0_takeBackInto_8 rfl ?_
    refine va_get (D := D) (ci := 0) (v := .int 5) (C := RX0) (T := TX0) (N := 2) hx hb hts in_X0_takeBackInto_5_RX0 hown hK.1 hP 0 rfl rfl 1 (by decide) (hts (.fieldLink RX0 17 "NineDancers$History" "length" "I") (by decide +kernel)) (fun _ h9 => h9) rfl dX0_takeBackInto_9 ?_
    refine lv_iconst (v := 1) hx hb dX0_takeBackInto_12 (by decide) ?_
    refine lv_isub hx hb dX0_takeBackInto_13 ?_
    refine lv_topi (fun y9 e9 => ?_)
    obtain rfl : y9 = 4 := e9.trans (by decide)
    refine va_put (D := D) (ci := 0) (v := .int 4) (ty := .int) (C := RX0) (T := TX0) (N := 2) hx hb hts in_X0_takeBackInto_5_RX0 tyX0 tyX0_ok nmX0 hown hK.1 hP hD hS 0 rfl rfl 1 (by decide) (hts (.fieldLink RX0 17 "NineDancers$History" "length" "I") (by decide +kernel)) (fun _ h9 => h9) rfl (by decide +kernel) rfl rfl (Nat.le_of_ble_eq_true rfl) dX0_takeBackInto_14 (fun H locs hP hD hS => ?_)
    have hP : va_P D vwCl (wH h sa 4 ++ (wA Y sa 6 f ++ (wR Y (ra 0) (rq 0) (Z 0) ++ (wR Y (ra 1) (rq 1) (Z 1) ++ (wR Y (ra 2) (rq 2) (Z 2) ++ (wR Y (ra 3) (rq 3) (Z 3) ++ (wR Y (ra 4) (rq 4) (Z 4) ++ (wR Y (ra 5) (rq 5) (Z 5) ++ wR Y r q S)))))))) H := hP
    have hD : va_D A (wH h sa 4 ++ (wA Y sa 6 f ++ (wR Y (ra 0) (rq 0) (Z 0) ++ (wR Y (ra 1) (rq 1) (Z 1) ++ (wR Y (ra 2) (rq 2) (Z 2) ++ (wR Y (ra 3) (rq 3) (Z 3) ++ (wR Y (ra 4) (rq 4) (Z 4) ++ (wR Y (ra 5) (rq 5) (Z 5) ++ wR Y r q S)))))))) := hD
    refine lv_aload_n hx hb dX0_takeBackInto_17 rfl (lv_at hl 1 rfl) ?_
    refine lv_aload_n hx hb dX0_takeBackInto_18 rfl (lv_at hl 0 rfl) ?_
    refine va_get (D := D) (ci := 0) (v := .ref sa) (C := RX0) (T := TX0) (N := 2) hx hb hts in_X0_takeBackInto_5_RX0 hown hK.1 hP 0 rfl rfl 0 (by decide) (hts (.fieldLink RX0 11 "NineDancers$History" "states" "[LNineDancers$Ring;") (by decide +kernel)) (fun _ h9 => h9) rfl dX0_takeBackInto_19 ?_
    refine lv_aload_n hx hb dX0_takeBackInto_22 rfl (lv_at hl 0 rfl) ?_
    refine va_get (D := D) (ci := 0) (v := .int 4) (C := RX0) (T := TX0) (N := 2) hx hb hts in_X0_takeBackInto_5_RX0 hown hK.1 hP 0 rfl rfl 1 (by decide) (hts (.fieldLink RX0 17 "NineDancers$History" "length" "I") (by decide +kernel)) (fun _ h9 => h9) rfl dX0_takeBackInto_23 ?_
    refine my_aldq (D := D) hx hb hK.1 hP 1 2 rfl rfl (by unfold vp_in; decide) (v := .ref (ra 4)) (congrArg va_rf (hf 4 (by decide))) dX0_takeBackInto_26 ?_
    refine ck_vD (wr := wH h sa 4 ++ (wA Y sa 6 f ++ (wR Y (ra 0) (rq 0) (Z 0) ++ (wR Y (ra 1) (rq 1) (Z 1) ++ (wR Y (ra 2) (rq 2) (Z 2) ++ (wR Y (ra 3) (rq 3) (Z 3) ++ wR Y (ra 5) (rq 5) (Z 5))))))) (ws' := wH h sa 4 ++ (wA Y sa 6 f ++ (wR Y (ra 0) (rq 0) (Z 0) ++ (wR Y (ra 1) (rq 1) (Z 1) ++ (wR Y (ra 2) (rq 2) (Z 2) ++ (wR Y (ra 3) (rq 3) (Z 3) ++ (wR Y (ra 4) (rq 4) (Z 4) ++ (wR Y (ra 5) (rq 5) (Z 5) ++ wR Y r q (D_X2_copyFrom S (Z 4)))))))))) (va_runV (As := [.ref (ra 4)]) (rest := []) ⟨hx, hb, hml, hown, hts⟩ (c_X2_copyFrom l D Y H.size q (rq 4) S (Z 4) r (ra 4)) (cwV 1 hts gX0_takeBackInto_X2_copyFrom rfl rfl rfl (by decide +kernel) ⟨Nat.le_of_ble_eq_true rfl, Nat.le_of_ble_eq_true rfl⟩) (pst_V hK hP hD [68, 69, 70, 71, 72, 73, 74, 75, 76, 77, 78, 46, 47, 48, 49, 50, 51, 52, 53, 54, 55, 56] rfl (by decide) (q0 := 0) rfl rfl) rfl rfl hl.1 rfl (lv_room (Nat.le_of_ble_eq_true rfl)) dX0_takeBackInto_27 ⟨Nat.zero_le _, Nat.zero_le _⟩) hP hD hS hA [68, 69, 70, 71, 72, 73, 74, 75, 76, 77, 78, 46, 47, 48, 49, 50, 51, 52, 53, 54, 55, 56] [0, 1, 2, 3, 4, 5, 6, 7, 8, 9, 10, 11, 12, 13, 14, 15, 16, 17, 18, 19, 20, 21, 22, 23, 24, 25, 26, 27, 28, 29, 30, 31, 32, 33, 34, 35, 36, 37, 38, 39, 40, 41, 42, 43, 44, 45, 57, 58, 59, 60, 61, 62, 63, 64, 65, 66, 67] [0, 1, 2, 3, 4, 5, 6, 7, 8, 9, 10, 11, 12, 13, 14, 15, 16, 17, 18, 19, 20, 21, 22, 23, 24, 25, 26, 27, 28, 29, 30, 31, 32, 33, 34, 35, 36, 37, 38, 39, 40, 41, 42, 43, 44, 45, 68, 69, 70, 71, 72, 73, 74, 75, 76, 77, 78, 46, 47, 48, 49, 50, 51, 52, 53, 54, 55, 56, 57, 58, 59, 60, 61, 62, 63, 64, 65, 66, 67] rfl rfl (by decide) (by decide) rfl (by decide) (fun H locs hP hD hS => ?_)
    obtain ⟨S_1, eS_1⟩ : ∃ z9, (D_X2_copyFrom S (Z 4)) = z9 := ⟨_, rfl⟩
    rw [eS_1] at hP hD
    subst eS_1
    have hP9 : va_P D vwCl (wHi Y h sa (D_X0_takeBackInto (5, f, ra, rq, Z) S).1 ++ wR Y r q (D_X0_takeBackInto (5, f, ra, rq, Z) S).2) H := hP
    have hD9 : va_D A (wHi Y h sa (D_X0_takeBackInto (5, f, ra, rq, Z) S).1 ++ wR Y r q (D_X0_takeBackInto (5, f, ra, rq, Z) S).2) := hD
    exact ret_v hx hb hr hlk hP9 hD9 hS dX0_takeBackInto_30 ⟨Nat.zero_le _, Nat.zero_le _⟩ rfl
set_option maxRecDepth 100000 in
theorem in_X0_takeBackInto_6_RX0 : ∀ w ∈ u_ws RX0 TX0 2, w ∈ wsX0_takeBackInto := by decide +kernel
set_option maxHeartbeats 4000000 in
set_option maxRecDepth 100000 in
theorem c_X0_takeBackInto_6 (l : Launch) (D : va_G) (Y : YY) (sz : Nat) (sa : Nat) (q : Nat → Nat) (f : Nat → Option Nat) (ra : Nat → Nat) (rq : Nat → Nat → Nat) (Z : Nat → Nat → Nat → Int32) (S : Nat → Nat → Int32) (h : Nat) (r : Nat) (hf : ∀ k, k < 6 → f k = some (ra k)) : Met l yX0_takeBackInto wsX0_takeBackInto ({ frames := 4, cells := 0, slots := 0, locals := 150 } : Room) (va_Pc [.ref h, .ref r] (Pst D Y sz (wH h sa 6 ++ (wA Y sa 6 f ++ (wR Y (ra 0) (rq 0) (Z 0) ++ (wR Y (ra 1) (rq 1) (Z 1) ++ (wR Y (ra 2) (rq 2) (Z 2) ++ (wR Y (ra 3) (rq 3) (Z 3) ++ (wR Y (ra 4) (rq 4) (Z 4) ++ (wR Y (ra 5) (rq 5) (Z 5) ++ wR Y r q S)))))))))) ((fun A : Nat → Prop => Qsv D (fun w9 => w9 = wHi Y h sa (D_X0_takeBackInto (6, f, ra, rq, Z) S).1 ++ wR Y r q (D_X0_takeBackInto (6, f, ra, rq, Z) S).2) A) (va_A (wH h sa 6 ++ (wA Y sa 6 f ++ (wR Y (ra 0) (rq 0) (Z 0) ++ (wR Y (ra 1) (rq 1) (Z 1) ++ (wR Y (ra 2) (rq 2) (Z 2) ++ (wR Y (ra 3) (rq 3) (Z 3) ++ (wR Y (ra 4) (rq 4) (Z 4) ++ (wR Y (ra 5) (rq 5) (Z 5) ++ wR Y r q S)))))))) sz)) 0 0 (va_A (wH h sa 6 ++ (wA Y sa 6 f ++ (wR Y (ra 0) (rq 0) (Z 0) ++ (wR Y (ra 1) (rq 1) (Z 1) ++ (wR Y (ra 2) (rq 2) (Z 2) ++ (wR Y (ra 3) (rq 3) (Z 3) ++ (wR Y (ra 4) (rq 4) (Z 4) ++ (wR Y (ra 5) (rq 5) (Z 5) ++ wR Y r q S)))))))) sz) := by
  refine ct_in (cc := cX0_takeBackInto) (maxL := 2) (ret := none) (Qc := fun A : Nat → Prop => Qsv D (fun w9 => w9 = wHi Y h sa (D_X0_takeBackInto (6, f, ra, rq, Z) S).1 ++ wR Y r q (D_X0_takeBackInto (6, f, ra, rq, Z) S).2) A) (by decide +kernel) rfl (Nat.le_of_ble_eq_true rfl) ?_
  intro p e s m below meth c A ls hx hb hr hts hown hml hlk hin hsz hA hP hD hK hS hl
  have hown : s.vm.findClass RX0 = some m.cls := hown
  have hl : lv_has ls 2 [(0, .ref h), (1, .ref r)] := hl
  show W p l e ({ frames := 4, cells := 0, slots := 0, locals := 150 } : Room) s m ([.ref h, .ref r] : List Value).toArray below meth c s.heap [] 0 0 (MQ below (Qsv D (fun w9 => w9 = wHi Y h sa (D_X0_takeBackInto (6, f, ra, rq, Z) S).1 ++ wR Y r q (D_X0_takeBackInto (6, f, ra, rq, Z) S).2) A) ([.ref h, .ref r] : List Value).toArray s 0 0 A) (F0 m 0 ls [])
  refine lv_aload_n hx hb dX0_takeBackInto_0 rfl (lv_at hl 0 rfl) ?_
  refine va_get (D := D) (ci := 0) (v := .int 6) (C := RX0) (T := TX0) (N := 2) hx hb hts in_X0_takeBackInto_6_RX0 hown hK.1 hP 0 rfl rfl 1 (by decide) (hts (.fieldLink RX0 17 "NineDancers$History" "length" "I") (by decide +kernel)) (fun _ h9 => h9) rfl dX0_takeBackInto_1 ?_
  refine lv_if_le (tgt := 30) hx hb dX0_takeBackInto_4 (by decide) (fun c_1 => ?_) (fun c_1 => ?_)
  · exact absurd c_1 (by decide)
  · refine lv_aload_n hx hb dX0_takeBackInto_7 rfl (lv_at hl 0 rfl) ?_
    refine lv_dup hx hb dX0_takeBackInto_8 rfl ?_
    refine va_get (D := D) (ci := 0) (v := .int 6) (C := RX0) (T := TX0) (N := 2) hx hb hts in_X0_takeBackInto_6_RX0 hown hK.1 hP 0 rfl rfl 1 (by decide) (hts (.fieldLink RX0 17 "NineDancers$History" "length" "I") (by decide +kernel)) (fun _ h9 => h9) rfl dX0_takeBackInto_9 ?_
    refine lv_iconst (v := 1) hx hb dX0_takeBackInto_12 (by decide) ?_
    refine lv_isub hx hb dX0_takeBackInto_13 ?_
    refine lv_topi (fun y9 e9 => ?_)
    obtain rfl : y9 = 5 := e9.trans (by decide)
    refine va_put (D := D) (ci := 0) (v := .int 5) (ty := .int) (C := RX0) (T := TX0) (N := 2) hx hb hts in_X0_takeBackInto_6_RX0 tyX0 tyX0_ok nmX0 hown hK.1 hP hD hS 0 rfl rfl 1 (by decide) (hts (.fieldLink RX0 17 "NineDancers$History" "length" "I") (by decide +kernel)) (fun _ h9 => h9) rfl (by decide +kernel) rfl rfl (Nat.le_of_ble_eq_true rfl) dX0_takeBackInto_14 (fun H locs hP hD hS => ?_)
    have hP : va_P D vwCl (wH h sa 5 ++ (wA Y sa 6 f ++ (wR Y (ra 0) (rq 0) (Z 0) ++ (wR Y (ra 1) (rq 1) (Z 1) ++ (wR Y (ra 2) (rq 2) (Z 2) ++ (wR Y (ra 3) (rq 3) (Z 3) ++ (wR Y (ra 4) (rq 4) (Z 4) ++ (wR Y (ra 5) (rq 5) (Z 5) ++ wR Y r q S)))))))) H := hP
    have hD : va_D A (wH h sa 5 ++ (wA Y sa 6 f ++ (wR Y (ra 0) (rq 0) (Z 0) ++ (wR Y (ra 1) (rq 1) (Z 1) ++ (wR Y (ra 2) (rq 2) (Z 2) ++ (wR Y (ra 3) (rq 3) (Z 3) ++ (wR Y (ra 4) (rq 4) (Z 4) ++ (wR Y (ra 5) (rq 5) (Z 5) ++ wR Y r q S)))))))) := hD
    refine lv_aload_n hx hb dX0_takeBackInto_17 rfl (lv_at hl 1 rfl) ?_
    refine lv_aload_n hx hb dX0_takeBackInto_18 rfl (lv_at hl 0 rfl) ?_
    refine va_get (D := D) (ci := 0) (v := .ref sa) (C := RX0) (T := TX0) (N := 2) hx hb hts in_X0_takeBackInto_6_RX0 hown hK.1 hP 0 rfl rfl 0 (by decide) (hts (.fieldLink RX0 11 "NineDancers$History" "states" "[LNineDancers$Ring;") (by decide +kernel)) (fun _ h9 => h9) rfl dX0_takeBackInto_19 ?_
    refine lv_aload_n hx hb dX0_takeBackInto_22 rfl (lv_at hl 0 rfl) ?_
    refine va_get (D := D) (ci := 0) (v := .int 5) (C := RX0) (T := TX0) (N := 2) hx hb hts in_X0_takeBackInto_6_RX0 hown hK.1 hP 0 rfl rfl 1 (by decide) (hts (.fieldLink RX0 17 "NineDancers$History" "length" "I") (by decide +kernel)) (fun _ h9 => h9) rfl dX0_takeBackInto_23 ?_
    refine my_aldq (D := D) hx hb hK.1 hP 1 2 rfl rfl (by unfold vp_in; decide) (v := .ref (ra 5)) (congrArg va_rf (hf 5 (by decide))) dX0_takeBackInto_26 ?_
    refine ck_vD (wr := wH h sa 5 ++ (wA Y sa 6 f ++ (wR Y (ra 0) (rq 0) (Z 0) ++ (wR Y (ra 1) (rq 1) (Z 1) ++ (wR Y (ra 2) (rq 2) (Z 2) ++ (wR Y (ra 3) (rq 3) (Z 3) ++ wR Y (ra 4) (rq 4) (Z 4))))))) (ws' := wH h sa 5 ++ (wA Y sa 6 f ++ (wR Y (ra 0) (rq 0) (Z 0) ++ (wR Y (ra 1) (rq 1) (Z 1) ++ (wR Y (ra 2) (rq 2) (Z 2) ++ (wR Y (ra 3) (rq 3) (Z 3) ++ (wR Y (ra 4) (rq 4) (Z 4) ++ (wR Y (ra 5) (rq 5) (Z 5) ++ wR Y r q (D_X2_copyFrom S (Z 5)))))))))) (va_runV (As := [.ref (ra 5)]) (rest := []) ⟨hx, hb, hml, hown, hts⟩ (c_X2_copyFrom l D Y H.size q (rq 5) S (Z 5) r (ra 5)) (cwV 1 hts gX0_takeBackInto_X2_copyFrom rfl rfl rfl (by decide +kernel) ⟨Nat.le_of_ble_eq_true rfl, Nat.le_of_ble_eq_true rfl⟩) (pst_V hK hP hD [68, 69, 70, 71, 72, 73, 74, 75, 76, 77, 78, 57, 58, 59, 60, 61, 62, 63, 64, 65, 66, 67] rfl (by decide) (q0 := 0) rfl rfl) rfl rfl hl.1 rfl (lv_room (Nat.le_of_ble_eq_true rfl)) dX0_takeBackInto_27 ⟨Nat.zero_le _, Nat.zero_le _⟩) hP hD hS hA [68, 69, 70, 71, 72, 73, 74, 75, 76, 77, 78, 57, 58, 59, 60, 61, 62, 63, 64, 65, 66, 67] [0, 1, 2, 3, 4, 5, 6, 7, 8, 9, 10, 11, 12, 13, 14, 15, 16, 17, 18, 19, 20, 21, 22, 23, 24, 25, 26, 27, 28, 29, 30, 31, 32, 33, 34, 35, 36, 37, 38, 39, 40, 41, 42, 43, 44, 45, 46, 47, 48, 49, 50, 51, 52, 53, 54, 55, 56] [0, 1, 2, 3, 4, 5, 6, 7, 8, 9, 10, 11, 12, 13, 14, 15, 16, 17, 18, 19, 20, 21, 22, 23, 24, 25, 26, 27, 28, 29, 30, 31, 32, 33, 34, 35, 36, 37, 38, 39, 40, 41, 42, 43, 44, 45, 46, 47, 48, 49, 50, 51, 52, 53, 54, 55, 56, 68, 69, 70, 71, 72, 73, 74, 75, 76, 77, 78, 57, 58, 59, 60, 61, 62, 63, 64, 65, 66, 67] rfl rfl (by decide) (by decide) rfl (by decide) (fun H locs hP hD hS => ?_)
    obtain ⟨S_1, eS_1⟩ : ∃ z9, (D_X2_copyFrom S (Z 5)) = z9 := ⟨_, rfl⟩
    rw [eS_1] at hP hD
    subst eS_1
    have hP9 : va_P D vwCl (wHi Y h sa (D_X0_takeBackInto (6, f, ra, rq, Z) S).1 ++ wR Y r q (D_X0_takeBackInto (6, f, ra, rq, Z) S).2) H := hP
    have hD9 : va_D A (wHi Y h sa (D_X0_takeBackInto (6, f, ra, rq, Z) S).1 ++ wR Y r q (D_X0_takeBackInto (6, f, ra, rq, Z) S).2) := hD
    exact ret_v hx hb hr hlk hP9 hD9 hS dX0_takeBackInto_30 ⟨Nat.zero_le _, Nat.zero_le _⟩ rfl
set_option maxHeartbeats 4000000 in
set_option maxRecDepth 100000 in
theorem c_X0_takeBackInto (l : Launch) (D : va_G) (Y : YY) (sz : Nat) (sa : Nat) (q : Nat → Nat) (u : HS) (S : Nat → Nat → Int32) (h : Nat) (r : Nat) (hu : hok u) : Met l yX0_takeBackInto wsX0_takeBackInto ({ frames := 4, cells := 0, slots := 0, locals := 150 } : Room) (va_Pc [.ref h, .ref r] (Pst D Y sz (wHi Y h sa u ++ wR Y r q S))) ((fun A : Nat → Prop => Qsv D (fun w9 => w9 = wHi Y h sa (D_X0_takeBackInto u S).1 ++ wR Y r q (D_X0_takeBackInto u S).2) A) (va_A (wHi Y h sa u ++ wR Y r q S) sz)) 0 0 (va_A (wHi Y h sa u ++ wR Y r q S) sz) := by
  obtain ⟨k, f, ra, rq, Z⟩ := u
  obtain ⟨hk, hf⟩ := hu
  have hk : k ≤ 6 := hk
  have hf : ∀ k, k < 6 → f k = some (ra k) := hf
  obtain rfl | rfl | rfl | rfl | rfl | rfl | rfl : k = 0 ∨ k = 1 ∨ k = 2 ∨ k = 3 ∨ k = 4 ∨ k = 5 ∨ k = 6 := by omega
  · have e : wHi Y h sa (0, f, ra, rq, Z) ++ wR Y r q S = wH h sa 0 ++ (wA Y sa 6 f ++ (wR Y (ra 0) (rq 0) (Z 0) ++ (wR Y (ra 1) (rq 1) (Z 1) ++ (wR Y (ra 2) (rq 2) (Z 2) ++ (wR Y (ra 3) (rq 3) (Z 3) ++ (wR Y (ra 4) (rq 4) (Z 4) ++ (wR Y (ra 5) (rq 5) (Z 5) ++ wR Y r q S))))))) := rfl
    rw [e]
    exact c_X0_takeBackInto_0 l D Y sz sa q f ra rq Z S h r hf
  · have e : wHi Y h sa (1, f, ra, rq, Z) ++ wR Y r q S = wH h sa 1 ++ (wA Y sa 6 f ++ (wR Y (ra 0) (rq 0) (Z 0) ++ (wR Y (ra 1) (rq 1) (Z 1) ++ (wR Y (ra 2) (rq 2) (Z 2) ++ (wR Y (ra 3) (rq 3) (Z 3) ++ (wR Y (ra 4) (rq 4) (Z 4) ++ (wR Y (ra 5) (rq 5) (Z 5) ++ wR Y r q S))))))) := rfl
    rw [e]
    exact c_X0_takeBackInto_1 l D Y sz sa q f ra rq Z S h r hf
  · have e : wHi Y h sa (2, f, ra, rq, Z) ++ wR Y r q S = wH h sa 2 ++ (wA Y sa 6 f ++ (wR Y (ra 0) (rq 0) (Z 0) ++ (wR Y (ra 1) (rq 1) (Z 1) ++ (wR Y (ra 2) (rq 2) (Z 2) ++ (wR Y (ra 3) (rq 3) (Z 3) ++ (wR Y (ra 4) (rq 4) (Z 4) ++ (wR Y (ra 5) (rq 5) (Z 5) ++ wR Y r q S))))))) := rfl
    rw [e]
    exact c_X0_takeBackInto_2 l D Y sz sa q f ra rq Z S h r hf
  · have e : wHi Y h sa (3, f, ra, rq, Z) ++ wR Y r q S = wH h sa 3 ++ (wA Y sa 6 f ++ (wR Y (ra 0) (rq 0) (Z 0) ++ (wR Y (ra 1) (rq 1) (Z 1) ++ (wR Y (ra 2) (rq 2) (Z 2) ++ (wR Y (ra 3) (rq 3) (Z 3) ++ (wR Y (ra 4) (rq 4) (Z 4) ++ (wR Y (ra 5) (rq 5) (Z 5) ++ wR Y r q S))))))) := rfl
    rw [e]
    exact c_X0_takeBackInto_3 l D Y sz sa q f ra rq Z S h r hf
  · have e : wHi Y h sa (4, f, ra, rq, Z) ++ wR Y r q S = wH h sa 4 ++ (wA Y sa 6 f ++ (wR Y (ra 0) (rq 0) (Z 0) ++ (wR Y (ra 1) (rq 1) (Z 1) ++ (wR Y (ra 2) (rq 2) (Z 2) ++ (wR Y (ra 3) (rq 3) (Z 3) ++ (wR Y (ra 4) (rq 4) (Z 4) ++ (wR Y (ra 5) (rq 5) (Z 5) ++ wR Y r q S))))))) := rfl
    rw [e]
    exact c_X0_takeBackInto_4 l D Y sz sa q f ra rq Z S h r hf
  · have e : wHi Y h sa (5, f, ra, rq, Z) ++ wR Y r q S = wH h sa 5 ++ (wA Y sa 6 f ++ (wR Y (ra 0) (rq 0) (Z 0) ++ (wR Y (ra 1) (rq 1) (Z 1) ++ (wR Y (ra 2) (rq 2) (Z 2) ++ (wR Y (ra 3) (rq 3) (Z 3) ++ (wR Y (ra 4) (rq 4) (Z 4) ++ (wR Y (ra 5) (rq 5) (Z 5) ++ wR Y r q S))))))) := rfl
    rw [e]
    exact c_X0_takeBackInto_5 l D Y sz sa q f ra rq Z S h r hf
  · have e : wHi Y h sa (6, f, ra, rq, Z) ++ wR Y r q S = wH h sa 6 ++ (wA Y sa 6 f ++ (wR Y (ra 0) (rq 0) (Z 0) ++ (wR Y (ra 1) (rq 1) (Z 1) ++ (wR Y (ra 2) (rq 2) (Z 2) ++ (wR Y (ra 3) (rq 3) (Z 3) ++ (wR Y (ra 4) (rq 4) (Z 4) ++ (wR Y (ra 5) (rq 5) (Z 5) ++ wR Y r q S))))))) := rfl
    rw [e]
    exact c_X0_takeBackInto_6 l D Y sz sa q f ra rq Z S h r hf
end

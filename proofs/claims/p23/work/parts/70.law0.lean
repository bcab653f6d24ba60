theorem my_in {big : List Cond} (ws : List Cond) (ps : List Nat) (hp : ws = ps.filterMap (fun i => big[i]?)) : ∀ w ∈ ws, w ∈ big := by
  intro w hw
  rw [hp] at hw
  obtain ⟨i, -, hi⟩ := List.mem_filterMap.mp hw
  exact List.mem_of_getElem? hi
set_option maxRecDepth 100000 in
theorem wsLin_1 : ∀ w ∈ wsL_law_r1, w ∈ lw_tbl := my_in _ [22, 23, 14, 24, 25, 26, 27, 28, 29, 30, 31, 15, 126, 127, 94, 95, 17, 128, 109, 110, 18, 129, 130, 32] (by decide +kernel)
set_option maxRecDepth 100000 in
theorem wsLin_2 : ∀ w ∈ wsL_law_r2, w ∈ lw_tbl := my_in _ [33, 34, 35, 93, 40, 42, 44, 46, 48, 50, 52, 54, 56, 58, 60, 62, 36, 64, 37, 38, 16, 39, 97, 98] (by decide +kernel)
set_option maxRecDepth 100000 in
theorem wsLin_3 : ∀ w ∈ wsL_law_r3, w ∈ lw_tbl := my_in _ [99, 108, 100, 101, 111, 112, 113, 114, 115, 118, 119, 117, 142, 143, 13, 144, 145, 146, 147, 148, 247, 149, 150, 151] (by decide +kernel)
set_option maxRecDepth 100000 in
theorem wsLin_4 : ∀ w ∈ wsL_law_r4, w ∈ lw_tbl := my_in _ [152, 153, 154, 155, 156, 41, 63, 43, 57, 47, 53, 45, 65, 102, 120, 175, 157, 158, 159, 160, 161, 162, 163, 164] (by decide +kernel)
set_option maxRecDepth 100000 in
theorem wsLin_5 : ∀ w ∈ wsL_law_r5, w ∈ lw_tbl := my_in _ [166, 0, 167, 168, 169, 170, 171, 173, 174, 176, 177, 178, 179, 180, 181, 182, 183, 184, 186, 1, 187, 188, 189, 190] (by decide +kernel)
set_option maxRecDepth 100000 in
theorem wsLin_6 : ∀ w ∈ wsL_law_r6, w ∈ lw_tbl := my_in _ [191, 192, 193, 194, 195, 196, 19, 197, 198, 200, 199, 20, 201, 202, 203, 204, 208, 55, 61, 59, 205, 206, 207, 209] (by decide +kernel)
set_option maxRecDepth 100000 in
theorem wsLin_7 : ∀ w ∈ wsL_law_r7, w ∈ lw_tbl := my_in _ [210, 211, 212, 213, 214, 19, 215, 216, 217, 218, 219, 220, 221, 222, 223, 224, 225, 226, 49, 51, 227, 228, 229, 230] (by decide +kernel)
set_option maxRecDepth 100000 in
theorem wsLin_8 : ∀ w ∈ wsL_law_r8, w ∈ lw_tbl := my_in _ [231, 232, 233, 234, 235, 236, 237, 238, 239, 240, 241, 242, 21, 243, 244, 245, 246, 248, 249, 250, 251, 252, 253, 254] (by decide +kernel)
set_option maxRecDepth 100000 in
theorem wsLin_9 : ∀ w ∈ wsL_law_r9, w ∈ lw_tbl := my_in _ [255, 256, 257, 258, 259, 260, 261, 262, 263, 264, 265, 266, 267, 268, 269, 270, 271, 272, 273, 274, 275, 276, 277, 278] (by decide +kernel)
set_option maxRecDepth 100000 in
theorem wsLin_10 : ∀ w ∈ wsL_law_r10, w ∈ lw_tbl := my_in _ [279, 280, 281, 285, 282, 283, 284, 286, 287, 288, 289, 291, 292, 293, 295, 2, 296, 297, 299, 3, 300, 301, 303, 4] (by decide +kernel)
set_option maxRecDepth 100000 in
theorem wsLin_11 : ∀ w ∈ wsL_law_r11, w ∈ lw_tbl := my_in _ [304, 305, 307, 5, 308, 309, 311, 6, 312, 313, 315, 7, 316, 318, 319, 320, 321, 323, 322, 324, 325, 326, 327, 328] (by decide +kernel)
set_option maxRecDepth 100000 in
theorem wsLin_12 : ∀ w ∈ wsL_law_r12, w ∈ lw_tbl := my_in _ [329, 330, 331, 332, 333, 334, 335, 336, 337, 338, 339, 340, 341, 342, 343, 344, 345, 346, 347, 348, 349, 350, 351, 352] (by decide +kernel)
set_option maxRecDepth 100000 in
theorem wsLin_13 : ∀ w ∈ wsL_law_r13, w ∈ lw_tbl := my_in _ [353, 354, 355, 356, 368, 357, 358, 359, 360, 367, 361, 362, 363, 364, 365, 366, 369, 370, 371, 372, 373, 374, 375, 376] (by decide +kernel)
set_option maxRecDepth 100000 in
theorem wsLin_14 : ∀ w ∈ wsL_law_r14, w ∈ lw_tbl := my_in _ [377, 378, 379, 380, 381, 383, 8, 384, 385, 387, 9, 388, 389, 390, 391, 392, 393, 394, 395, 397, 10, 398, 435, 436] (by decide +kernel)
set_option maxRecDepth 100000 in
theorem wsLin_15 : ∀ w ∈ wsL_law_r15, w ∈ lw_tbl := my_in _ [437, 438, 415, 416, 417, 418, 419, 420, 421, 422, 423, 425, 12, 426, 427, 428, 429, 430, 414, 439, 440, 441, 442, 406] (by decide +kernel)
set_option maxRecDepth 100000 in
theorem wsLin_16 : ∀ w ∈ wsL_law_r16, w ∈ lw_tbl := my_in _ [407, 408, 409, 410, 412, 11, 413, 399, 400, 401, 402, 403, 404, 405, 431, 432, 433, 434] (by decide +kernel)
set_option maxRecDepth 100000 in
theorem inX0 : ∀ w ∈ wsX00, w ∈ lw_tbl := my_in _ [121, 123] (by decide +kernel)
set_option maxRecDepth 100000 in
theorem inX1 : ∀ w ∈ wsX10, w ∈ lw_tbl := my_in _ [103, 105] (by decide +kernel)
set_option maxRecDepth 100000 in
theorem inX2 : ∀ w ∈ wsX20, w ∈ lw_tbl := my_in _ [66, 68, 70, 72, 74, 76, 78, 80, 82, 84, 86, 88, 90] (by decide +kernel)
set_option maxRecDepth 100000 in
theorem inX3 : ∀ w ∈ wsX30, w ∈ lw_tbl := my_in _ [131, 133, 135, 137, 139] (by decide +kernel)
theorem wsL_law_in : ∀ w ∈ wsL_law, w ∈ lw_tbl := by
  unfold wsL_law
  exact List.forall_mem_append.mpr ⟨List.forall_mem_append.mpr ⟨List.forall_mem_append.mpr ⟨List.forall_mem_append.mpr ⟨List.forall_mem_append.mpr ⟨List.forall_mem_append.mpr ⟨wsLin_1, List.forall_mem_append.mpr ⟨wsLin_2, List.forall_mem_append.mpr ⟨wsLin_3, List.forall_mem_append.mpr ⟨wsLin_4, List.forall_mem_append.mpr ⟨wsLin_5, List.forall_mem_append.mpr ⟨wsLin_6, List.forall_mem_append.mpr ⟨wsLin_7, List.forall_mem_append.mpr ⟨wsLin_8, List.forall_mem_append.mpr ⟨wsLin_9, List.forall_mem_append.mpr ⟨wsLin_10, List.forall_mem_append.mpr ⟨wsLin_11, List.forall_mem_append.mpr ⟨wsLin_12, List.forall_mem_append.mpr ⟨wsLin_13, List.forall_mem_append.mpr ⟨wsLin_14, List.forall_mem_append.mpr ⟨wsLin_15, wsLin_16⟩⟩⟩⟩⟩⟩⟩⟩⟩⟩⟩⟩⟩⟩⟩, inX3⟩, inX2⟩, inX1⟩, inX0⟩, fun _ h => absurd h List.not_mem_nil⟩
set_option maxRecDepth 100000 in
set_option maxHeartbeats 4000000 in
/-- what the tables say of the classes: the kinds of cells, the nest's links -/
theorem law_KK {s : State} {args : Array Value} (hts : ∀ w ∈ lw_tbl, w.before args s = true) : ∃ (D : va_G) (Y : YY), KK D Y s := by
  obtain ⟨c0, i0, k0⟩ := u_known (C := RX0) (T := TX0) (N := 2) (n := 2) hts inX0 (hts _ (show Cond.instantiable RX0 2 ∈ lw_tbl from List.mem_of_getElem? (i := 110) (by decide +kernel)))
  obtain ⟨c1, i1, k1⟩ := u_known (C := RX1) (T := TX1) (N := 2) (n := 2) hts inX1 (hts _ (show Cond.instantiable RX1 2 ∈ lw_tbl from List.mem_of_getElem? (i := 95) (by decide +kernel)))
  obtain ⟨c2, i2, k2⟩ := u_known (C := RX2) (T := TX2) (N := 13) (n := 13) hts inX2 (hts _ (show Cond.instantiable RX2 13 ∈ lw_tbl from List.mem_of_getElem? (i := 31) (by decide +kernel)))
  obtain ⟨c3, i3, k3⟩ := u_known (C := RX3) (T := TX3) (N := 5) (n := 5) hts inX3 (hts _ (show Cond.instantiable RX3 5 ∈ lw_tbl from List.mem_of_getElem? (i := 23) (by decide +kernel)))
  obtain ⟨aI, kI, pI, h1, h2, h3⟩ := Cond.arrayClass_spec (hts _ (show Cond.arrayClass .int ∈ lw_tbl from List.mem_of_getElem? (i := 93) (by decide +kernel)))
  obtain ⟨aC, kC, pC, g1, g2, g3⟩ := Cond.arrayClass_spec (hts _ (show Cond.arrayClass .char ∈ lw_tbl from List.mem_of_getElem? (i := 108) (by decide +kernel)))
  have hAO : va_AO "NineDancers$Ring" s := va_AO.of (hts _ (show Cond.arrayOver (.object "NineDancers$Ring") ∈ lw_tbl from List.mem_of_getElem? (i := 116) (by decide +kernel)))
  obtain ⟨pR, aR, kR, f1, f2, f3, f4, f5⟩ := Cond.arrayOver_spec (va_AO.use (A := args) hAO)
  refine ⟨(fun k => if k = 0 then c0 else if k = 1 then c1 else if k = 2 then c2 else c3, fun k => if k = 0 then i0 else if k = 1 then i1 else if k = 2 then i2 else i3), (aI, aC, aR), ⟨?_, ?_⟩, va_Nw.of rfl (hts _ (show Cond.methodLinkNest RX3 21 yX1_init "NineDancers" ∈ lw_tbl from List.mem_of_getElem? (i := 96) (by decide +kernel))), va_Nw.of rfl (hts _ (show Cond.methodLinkNest RX2 75 yX3_counterpart "NineDancers" ∈ lw_tbl from List.mem_of_getElem? (i := 290) (by decide +kernel))), va_Nw.of rfl (hts _ (show Cond.methodLinkNest RX2 107 yX3_pairIndex "NineDancers" ∈ lw_tbl from List.mem_of_getElem? (i := 172) (by decide +kernel))), va_Nw.of rfl (hts _ (show Cond.methodLinkNest RX2 93 yX3_remainderOf "NineDancers" ∈ lw_tbl from List.mem_of_getElem? (i := 317) (by decide +kernel))), hAO⟩
  · intro k q hq
    match k, hq with
    | 0, hq => cases hq; exact k0
    | 1, hq => cases hq; exact k1
    | 2, hq => cases hq; exact k2
    | 3, hq => cases hq; exact k3
    | k + 4, hq => simp [vwCl] at hq
  · intro k q hq
    match k, hq with
    | 0, hq => cases hq; exact ⟨fun N z => ⟨(fun k h => by cases h), kI, h2, pI, h3⟩, h1⟩
    | 1, hq => cases hq; exact ⟨fun N z => ⟨(fun k h => by cases h), kC, g2, pC, g3⟩, g1⟩
    | 2, hq => cases hq; exact ⟨fun N z => ⟨(fun k h => by cases h), kR, f3, pR, f4⟩, kR, pR, f3, f4, f1, f5⟩
    | k + 3, hq => simp [ytys] at hq

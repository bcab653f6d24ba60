theorem my_in {big : List Cond} (ws : List Cond) (ps : List Nat) (hp : ws = ps.filterMap (fun i => big[i]?)) : ∀ w ∈ ws, w ∈ big := by
  intro w hw
  rw [hp] at hw
  obtain ⟨i, -, hi⟩ := List.mem_filterMap.mp hw
  exact List.mem_of_getElem? hi
set_option maxRecDepth 100000 in
theorem wsLin_1 : ∀ w ∈ wsL_law_r1, w ∈ lw_tbl := my_in _ [45, 46, 36, 436, 437, 41, 691, 47, 48, 49, 50, 51, 52, 53, 54, 37, 149, 150, 117, 118, 39, 151, 132, 133] (by decide +kernel)
set_option maxRecDepth 100000 in
theorem wsLin_2 : ∀ w ∈ wsL_law_r2, w ∈ lw_tbl := my_in _ [40, 152, 153, 55, 56, 57, 58, 116, 63, 65, 67, 69, 71, 73, 75, 77, 79, 81, 83, 85, 59, 87, 60, 61] (by decide +kernel)
set_option maxRecDepth 100000 in
theorem wsLin_3 : ∀ w ∈ wsL_law_r3, w ∈ lw_tbl := my_in _ [38, 62, 120, 121, 122, 131, 123, 124, 134, 135, 136, 137, 138, 141, 142, 140, 438, 439, 440, 441, 443, 444, 445, 447] (by decide +kernel)
set_option maxRecDepth 100000 in
theorem wsLin_4 : ∀ w ∈ wsL_law_r4, w ∈ lw_tbl := my_in _ [448, 449, 450, 453, 454, 442, 165, 166, 167, 168, 169, 64, 170, 171, 172, 173, 174, 176, 0, 177, 178, 179, 180, 181] (by decide +kernel)
set_option maxRecDepth 100000 in
theorem wsLin_5 : ∀ w ∈ wsL_law_r5, w ∈ lw_tbl := my_in _ [182, 183, 184, 185, 186, 42, 187, 188, 190, 189, 43, 483, 484, 485, 486, 496, 487, 488, 489, 490, 494, 495, 491, 492] (by decide +kernel)
set_option maxRecDepth 100000 in
theorem wsLin_6 : ∀ w ∈ wsL_law_r6, w ∈ lw_tbl := my_in _ [493, 497, 499, 13, 500, 446, 191, 192, 193, 194, 198, 78, 195, 196, 197, 199, 200, 201, 501, 502, 503, 504, 509, 505] (by decide +kernel)
set_option maxRecDepth 100000 in
theorem wsLin_7 : ∀ w ∈ wsL_law_r7, w ∈ lw_tbl := my_in _ [506, 507, 508, 510, 511, 512, 202, 203, 204, 205, 210, 66, 206, 207, 208, 209, 211, 212, 44, 213, 214, 215, 216, 513] (by decide +kernel)
set_option maxRecDepth 100000 in
theorem wsLin_8 : ∀ w ∈ wsL_law_r8, w ∈ lw_tbl := my_in _ [514, 515, 516, 521, 517, 519, 14, 520, 522, 524, 15, 525, 217, 218, 219, 220, 86, 224, 221, 222, 223, 225, 226, 227] (by decide +kernel)
set_option maxRecDepth 100000 in
theorem wsLin_9 : ∀ w ∈ wsL_law_r9, w ∈ lw_tbl := my_in _ [228, 230, 231, 232, 233, 234, 235, 236, 42, 237, 238, 240, 1, 241, 242, 243, 245, 2, 246, 247, 249, 3, 250, 251] (by decide +kernel)
set_option maxRecDepth 100000 in
theorem wsLin_10 : ∀ w ∈ wsL_law_r10, w ∈ lw_tbl := my_in _ [253, 4, 254, 256, 258, 5, 259, 260, 262, 6, 263, 526, 527, 528, 529, 534, 530, 531, 532, 533, 535, 537, 16, 538] (by decide +kernel)
set_option maxRecDepth 100000 in
theorem wsLin_11 : ∀ w ∈ wsL_law_r11, w ∈ lw_tbl := my_in _ [539, 541, 17, 542, 543, 544, 545, 546, 548, 18, 549, 550, 552, 19, 553, 554, 556, 20, 557, 558, 560, 21, 561, 265] (by decide +kernel)
set_option maxRecDepth 100000 in
theorem wsLin_12 : ∀ w ∈ wsL_law_r12, w ∈ lw_tbl := my_in _ [266, 267, 268, 280, 281, 269, 270, 271, 272, 279, 273, 274, 275, 276, 277, 278, 282, 283, 284, 285, 286, 287, 288, 289] (by decide +kernel)
set_option maxRecDepth 100000 in
theorem wsLin_13 : ∀ w ∈ wsL_law_r13, w ∈ lw_tbl := my_in _ [290, 291, 292, 293, 294, 296, 7, 297, 298, 300, 8, 301, 125, 302, 303, 304, 305, 306, 307, 308, 310, 9, 311, 312] (by decide +kernel)
set_option maxRecDepth 100000 in
theorem wsLin_14 : ∀ w ∈ wsL_law_r14, w ∈ lw_tbl := my_in _ [313, 314, 315, 670, 671, 672, 673, 675, 455, 451, 674, 651, 652, 653, 452, 654, 656, 31, 657, 658, 660, 32, 661, 662] (by decide +kernel)
set_option maxRecDepth 100000 in
theorem wsLin_15 : ∀ w ∈ wsL_law_r15, w ∈ lw_tbl := my_in _ [664, 33, 665, 666, 668, 34, 669, 316, 317, 318, 319, 68, 562, 563, 564, 565, 566, 320, 321, 322, 323, 70, 72, 74] (by decide +kernel)
set_option maxRecDepth 100000 in
theorem wsLin_16 : ∀ w ∈ wsL_law_r16, w ∈ lw_tbl := my_in _ [76, 324, 325, 326, 327, 328, 329, 330, 331, 567, 568, 569, 570, 571, 573, 22, 574, 575, 577, 23, 578, 332, 333, 334] (by decide +kernel)
set_option maxRecDepth 100000 in
theorem wsLin_17 : ∀ w ∈ wsL_law_r17, w ∈ lw_tbl := my_in _ [335, 80, 84, 82, 579, 580, 581, 582, 336, 337, 338, 339, 340, 583, 584, 585, 586, 341, 342, 343, 344, 88, 143, 345] (by decide +kernel)
set_option maxRecDepth 100000 in
theorem wsLin_18 : ∀ w ∈ wsL_law_r18, w ∈ lw_tbl := my_in _ [346, 347, 348, 349, 350, 351, 352, 354, 10, 355, 587, 588, 589, 590, 603, 591, 593, 24, 594, 595, 597, 25, 598, 599] (by decide +kernel)
set_option maxRecDepth 100000 in
theorem wsLin_19 : ∀ w ∈ wsL_law_r19, w ∈ lw_tbl := my_in _ [601, 26, 602, 356, 357, 358, 359, 360, 361, 362, 363, 364, 366, 11, 367, 368, 604, 605, 606, 607, 608, 610, 27, 611] (by decide +kernel)
set_option maxRecDepth 100000 in
theorem wsLin_20 : ∀ w ∈ wsL_law_r20, w ∈ lw_tbl := my_in _ [612, 614, 28, 615, 369, 370, 371, 372, 616, 617, 618, 619, 373, 374, 375, 376, 377, 378, 379, 380, 381, 383, 12, 384] (by decide +kernel)
set_option maxRecDepth 100000 in
theorem wsLin_21 : ∀ w ∈ wsL_law_r21, w ∈ lw_tbl := my_in _ [385, 386, 387, 388, 620, 621, 622, 623, 389, 390, 391, 392, 393, 624, 625, 626, 627, 628, 630, 29, 631, 632, 634, 30] (by decide +kernel)
set_option maxRecDepth 100000 in
theorem wsLin_22 : ∀ w ∈ wsL_law_r22, w ∈ lw_tbl := my_in _ [635, 394, 395, 396, 397, 398, 399, 400, 401, 402, 403, 404, 405, 406, 407, 408, 636, 637, 638, 639, 643, 640, 641, 642] (by decide +kernel)
set_option maxRecDepth 100000 in
theorem wsLin_23 : ∀ w ∈ wsL_law_r23, w ∈ lw_tbl := my_in _ [644, 645, 409, 410, 411, 412, 646, 647, 648, 649, 413, 414, 415, 416, 650, 417, 418, 419, 420, 421, 422, 423, 424, 676] (by decide +kernel)
set_option maxRecDepth 100000 in
theorem wsLin_24 : ∀ w ∈ wsL_law_r24, w ∈ lw_tbl := my_in _ [677, 678, 679, 425, 426, 427, 428, 429, 430, 431, 680, 681, 682, 683, 684, 685, 686, 432, 433, 434, 435, 687, 688, 689] (by decide +kernel)
set_option maxRecDepth 100000 in
theorem wsLin_25 : ∀ w ∈ wsL_law_r25, w ∈ lw_tbl := my_in _ [690] (by decide +kernel)
set_option maxRecDepth 100000 in
theorem inX0 : ∀ w ∈ wsX00, w ∈ lw_tbl := my_in _ [144, 146] (by decide +kernel)
set_option maxRecDepth 100000 in
theorem inX1 : ∀ w ∈ wsX10, w ∈ lw_tbl := my_in _ [126, 128] (by decide +kernel)
set_option maxRecDepth 100000 in
theorem inX2 : ∀ w ∈ wsX20, w ∈ lw_tbl := my_in _ [89, 91, 93, 95, 97, 99, 101, 103, 105, 107, 109, 111, 113] (by decide +kernel)
set_option maxRecDepth 100000 in
theorem inX3 : ∀ w ∈ wsX30, w ∈ lw_tbl := my_in _ [154, 156, 158, 160, 162] (by decide +kernel)
set_option maxRecDepth 100000 in
theorem inX4 : ∀ w ∈ wsX40, w ∈ lw_tbl := my_in _ [456, 458, 460, 462, 464, 466, 468, 470, 472, 474, 476, 478, 480] (by decide +kernel)
theorem wsL_law_in : ∀ w ∈ wsL_law, w ∈ lw_tbl := by
  unfold wsL_law
  exact List.forall_mem_append.mpr ⟨List.forall_mem_append.mpr ⟨List.forall_mem_append.mpr ⟨List.forall_mem_append.mpr ⟨List.forall_mem_append.mpr ⟨List.forall_mem_append.mpr ⟨List.forall_mem_append.mpr ⟨wsLin_1, List.forall_mem_append.mpr ⟨wsLin_2, List.forall_mem_append.mpr ⟨wsLin_3, List.forall_mem_append.mpr ⟨wsLin_4, List.forall_mem_append.mpr ⟨wsLin_5, List.forall_mem_append.mpr ⟨wsLin_6, List.forall_mem_append.mpr ⟨wsLin_7, List.forall_mem_append.mpr ⟨wsLin_8, List.forall_mem_append.mpr ⟨wsLin_9, List.forall_mem_append.mpr ⟨wsLin_10, List.forall_mem_append.mpr ⟨wsLin_11, List.forall_mem_append.mpr ⟨wsLin_12, List.forall_mem_append.mpr ⟨wsLin_13, List.forall_mem_append.mpr ⟨wsLin_14, List.forall_mem_append.mpr ⟨wsLin_15, List.forall_mem_append.mpr ⟨wsLin_16, List.forall_mem_append.mpr ⟨wsLin_17, List.forall_mem_append.mpr ⟨wsLin_18, List.forall_mem_append.mpr ⟨wsLin_19, List.forall_mem_append.mpr ⟨wsLin_20, List.forall_mem_append.mpr ⟨wsLin_21, List.forall_mem_append.mpr ⟨wsLin_22, List.forall_mem_append.mpr ⟨wsLin_23, List.forall_mem_append.mpr ⟨wsLin_24, wsLin_25⟩⟩⟩⟩⟩⟩⟩⟩⟩⟩⟩⟩⟩⟩⟩⟩⟩⟩⟩⟩⟩⟩⟩⟩, inX3⟩, inX4⟩, inX2⟩, inX1⟩, inX0⟩, fun _ h => absurd h List.not_mem_nil⟩
set_option maxRecDepth 100000 in
set_option maxHeartbeats 4000000 in
/-- what the tables say of the classes: the kinds of cells, the nest's links -/
theorem law_KK {s : State} {args : Array Value} (hts : ∀ w ∈ lw_tbl, w.before args s = true) : ∃ (D : va_G) (Y : YY), KK D Y s := by
  obtain ⟨c0, i0, k0⟩ := u_known (C := RX0) (T := TX0) (N := 2) (n := 2) hts inX0 (hts _ (show Cond.instantiable RX0 2 ∈ lw_tbl from List.mem_of_getElem? (i := 133) (by decide +kernel)))
  obtain ⟨c1, i1, k1⟩ := u_known (C := RX1) (T := TX1) (N := 2) (n := 2) hts inX1 (hts _ (show Cond.instantiable RX1 2 ∈ lw_tbl from List.mem_of_getElem? (i := 118) (by decide +kernel)))
  obtain ⟨c2, i2, k2⟩ := u_known (C := RX2) (T := TX2) (N := 13) (n := 13) hts inX2 (hts _ (show Cond.instantiable RX2 13 ∈ lw_tbl from List.mem_of_getElem? (i := 54) (by decide +kernel)))
  obtain ⟨c3, i3, k3⟩ := u_known (C := RX3) (T := TX3) (N := 5) (n := 5) hts inX3 (hts _ (show Cond.instantiable RX3 5 ∈ lw_tbl from List.mem_of_getElem? (i := 46) (by decide +kernel)))
  obtain ⟨c4, i4, k4⟩ := u_known (C := RX4) (T := TX4) (N := 13) (n := 13) hts inX4 (hts _ (show Cond.instantiable RX4 13 ∈ lw_tbl from List.mem_of_getElem? (i := 437) (by decide +kernel)))
  obtain ⟨aI, kI, pI, h1, h2, h3⟩ := Cond.arrayClass_spec (hts _ (show Cond.arrayClass .int ∈ lw_tbl from List.mem_of_getElem? (i := 116) (by decide +kernel)))
  obtain ⟨aC, kC, pC, g1, g2, g3⟩ := Cond.arrayClass_spec (hts _ (show Cond.arrayClass .char ∈ lw_tbl from List.mem_of_getElem? (i := 131) (by decide +kernel)))
  have hAO : va_AO "NineDancers$Ring" s := va_AO.of (hts _ (show Cond.arrayOver (.object "NineDancers$Ring") ∈ lw_tbl from List.mem_of_getElem? (i := 139) (by decide +kernel)))
  obtain ⟨pR, aR, kR, f1, f2, f3, f4, f5⟩ := Cond.arrayOver_spec (va_AO.use (A := args) hAO)
  refine ⟨(fun k => if k = 0 then c0 else if k = 1 then c1 else if k = 2 then c2 else if k = 3 then c3 else c4, fun k => if k = 0 then i0 else if k = 1 then i1 else if k = 2 then i2 else if k = 3 then i3 else i4), (aI, aC, aR), ⟨?_, ?_⟩, va_Nw.of rfl (hts _ (show Cond.methodLinkNest RX3 21 yX1_init "NineDancers" ∈ lw_tbl from List.mem_of_getElem? (i := 119) (by decide +kernel))), va_Nw.of rfl (hts _ (show Cond.methodLinkNest RX2 75 yX3_counterpart "NineDancers" ∈ lw_tbl from List.mem_of_getElem? (i := 229) (by decide +kernel))), va_Nw.of rfl (hts _ (show Cond.methodLinkNest RX2 107 yX3_pairIndex "NineDancers" ∈ lw_tbl from List.mem_of_getElem? (i := 255) (by decide +kernel))), va_Nw.of rfl (hts _ (show Cond.methodLinkNest RX2 93 yX3_remainderOf "NineDancers" ∈ lw_tbl from List.mem_of_getElem? (i := 264) (by decide +kernel))), hAO⟩
  · intro k q hq
    match k, hq with
    | 0, hq => cases hq; exact k0
    | 1, hq => cases hq; exact k1
    | 2, hq => cases hq; exact k2
    | 3, hq => cases hq; exact k3
    | 4, hq => cases hq; exact k4
    | k + 5, hq => simp [vwCl] at hq
  · intro k q hq
    match k, hq with
    | 0, hq => cases hq; exact ⟨fun N z => ⟨(fun k h => by cases h), kI, h2, pI, h3⟩, h1⟩
    | 1, hq => cases hq; exact ⟨fun N z => ⟨(fun k h => by cases h), kC, g2, pC, g3⟩, g1⟩
    | 2, hq => cases hq; exact ⟨fun N z => ⟨(fun k h => by cases h), kR, f3, pR, f4⟩, kR, pR, f3, f4, f1, f5⟩
    | k + 3, hq => simp [ytys] at hq
theorem va_left {D : va_G} {cl : List vw_C} {w1 w2 : va_W} {H : Heap} (h : va_P D cl (w1 ++ w2) H) : va_P D cl w1 H := fun k q hq => h k q (by rw [List.getElem?_append_left (List.getElem?_eq_some_iff.mp hq).1]; exact hq)
theorem vd_left {A : Nat → Prop} {w1 w2 : va_W} (h : va_D A (w1 ++ w2)) : va_D A w1 := by
  have g : ∀ (k : Nat) (q : Nat × va_E), w1[k]? = some q → (w1 ++ w2)[k]? = some q := fun k q hq => by rw [List.getElem?_append_left (List.getElem?_eq_some_iff.mp hq).1]; exact hq
  exact ⟨fun i j p q hp hq e => h.1 i j p q (g i p hp) (g j q hq) e, fun k q hq => h.2 k q (g k q hq)⟩

set_option maxRecDepth 20000 in
theorem ggL_number_X3_put : GoodIn wsL_number wsX3_put := goodIn_r _ [5, 6, 7, 8, 9, 10, 11, 4, 12, 13, 14, 15, 16, 17, 18, 19, 20, 21, 22, 23, 24, 25, 26, 27, 28, 29, 30] (by decide +kernel) (by decide +kernel)
set_option maxRecDepth 20000 in
theorem gL_number_X3_put : GoodIn wsL_number (wsV RL 9 RX3 yX3_put wsX3_put) := goodIn_app (goodIn_of _ (by decide +kernel)) ggL_number_X3_put
theorem dL_number_0 : decode cL_number 0 = .ok (.iload_n 1, 1) := by decide +kernel
theorem dL_number_1 : decode cL_number 1 = .ok (.bipush 100, 2) := by decide +kernel
theorem dL_number_3 : decode cL_number 3 = .ok (.if_icmp .lt 18, 3) := by decide +kernel
theorem dL_number_6 : decode cL_number 6 = .ok (.aload_n 0, 1) := by decide +kernel
theorem dL_number_7 : decode cL_number 7 = .ok (.bipush 48, 2) := by decide +kernel
theorem dL_number_9 : decode cL_number 9 = .ok (.iload_n 1, 1) := by decide +kernel
theorem dL_number_10 : decode cL_number 10 = .ok (.bipush 100, 2) := by decide +kernel
theorem dL_number_12 : decode cL_number 12 = .ok (.idiv, 1) := by decide +kernel
theorem dL_number_13 : decode cL_number 13 = .ok (.iadd, 1) := by decide +kernel
theorem dL_number_14 : decode cL_number 14 = .ok (.i2l, 1) := by decide +kernel
theorem dL_number_15 : decode cL_number 15 = .ok (.invokevirtual 9, 3) := by decide +kernel
theorem dL_number_18 : decode cL_number 18 = .ok (.ifCond .le 46, 3) := by decide +kernel
theorem dL_number_21 : decode cL_number 21 = .ok (.iload_n 1, 1) := by decide +kernel
theorem dL_number_22 : decode cL_number 22 = .ok (.bipush 10, 2) := by decide +kernel
theorem dL_number_24 : decode cL_number 24 = .ok (.if_icmp .lt 21, 3) := by decide +kernel
theorem dL_number_27 : decode cL_number 27 = .ok (.aload_n 0, 1) := by decide +kernel
theorem dL_number_28 : decode cL_number 28 = .ok (.bipush 48, 2) := by decide +kernel
theorem dL_number_30 : decode cL_number 30 = .ok (.iload_n 1, 1) := by decide +kernel
theorem dL_number_31 : decode cL_number 31 = .ok (.bipush 10, 2) := by decide +kernel
theorem dL_number_33 : decode cL_number 33 = .ok (.idiv, 1) := by decide +kernel
theorem dL_number_34 : decode cL_number 34 = .ok (.bipush 10, 2) := by decide +kernel
theorem dL_number_36 : decode cL_number 36 = .ok (.irem, 1) := by decide +kernel
theorem dL_number_37 : decode cL_number 37 = .ok (.iadd, 1) := by decide +kernel
theorem dL_number_38 : decode cL_number 38 = .ok (.i2l, 1) := by decide +kernel
theorem dL_number_39 : decode cL_number 39 = .ok (.invokevirtual 9, 3) := by decide +kernel
theorem dL_number_42 : decode cL_number 42 = .ok (.ifCond .le 22, 3) := by decide +kernel
theorem dL_number_45 : decode cL_number 45 = .ok (.aload_n 0, 1) := by decide +kernel
theorem dL_number_46 : decode cL_number 46 = .ok (.bipush 48, 2) := by decide +kernel
theorem dL_number_48 : decode cL_number 48 = .ok (.iload_n 1, 1) := by decide +kernel
theorem dL_number_49 : decode cL_number 49 = .ok (.bipush 10, 2) := by decide +kernel
theorem dL_number_51 : decode cL_number 51 = .ok (.irem, 1) := by decide +kernel
theorem dL_number_52 : decode cL_number 52 = .ok (.iadd, 1) := by decide +kernel
theorem dL_number_53 : decode cL_number 53 = .ok (.i2l, 1) := by decide +kernel
theorem dL_number_54 : decode cL_number 54 = .ok (.invokevirtual 9, 3) := by decide +kernel
theorem dL_number_57 : decode cL_number 57 = .ok (.ifCond .le 7, 3) := by decide +kernel
theorem dL_number_60 : decode cL_number 60 = .ok (.iconst 1, 1) := by decide +kernel
theorem dL_number_61 : decode cL_number 61 = .ok (.goto 4, 3) := by decide +kernel
theorem dL_number_64 : decode cL_number 64 = .ok (.iconst 0, 1) := by decide +kernel
theorem dL_number_65 : decode cL_number 65 = .ok (.ireturn, 1) := by decide +kernel
theorem dL_bits_0 : decode cL_bits 0 = .ok (.iconst 0, 1) := by decide +kernel
theorem dL_bits_1 : decode cL_bits 1 = .ok (.istore_n 1, 1) := by decide +kernel
theorem dL_bits_2 : decode cL_bits 2 = .ok (.iconst 0, 1) := by decide +kernel
theorem dL_bits_3 : decode cL_bits 3 = .ok (.istore_n 2, 1) := by decide +kernel
theorem dL_bits_4 : decode cL_bits 4 = .ok (.iload_n 2, 1) := by decide +kernel
theorem dL_bits_5 : decode cL_bits 5 = .ok (.bipush 9, 2) := by decide +kernel
theorem dL_bits_7 : decode cL_bits 7 = .ok (.if_icmp .ge 17, 3) := by decide +kernel
theorem dL_bits_10 : decode cL_bits 10 = .ok (.iload_n 1, 1) := by decide +kernel
theorem dL_bits_11 : decode cL_bits 11 = .ok (.iload_n 0, 1) := by decide +kernel
theorem dL_bits_12 : decode cL_bits 12 = .ok (.iload_n 2, 1) := by decide +kernel
theorem dL_bits_13 : decode cL_bits 13 = .ok (.ishr, 1) := by decide +kernel
theorem dL_bits_14 : decode cL_bits 14 = .ok (.iconst 1, 1) := by decide +kernel
theorem dL_bits_15 : decode cL_bits 15 = .ok (.iand, 1) := by decide +kernel
theorem dL_bits_16 : decode cL_bits 16 = .ok (.iadd, 1) := by decide +kernel
theorem dL_bits_17 : decode cL_bits 17 = .ok (.istore_n 1, 1) := by decide +kernel
theorem dL_bits_18 : decode cL_bits 18 = .ok (.iinc 2 1, 3) := by decide +kernel
theorem dL_bits_21 : decode cL_bits 21 = .ok (.goto (-17), 3) := by decide +kernel
theorem dL_bits_24 : decode cL_bits 24 = .ok (.iload_n 1, 1) := by decide +kernel
theorem dL_bits_25 : decode cL_bits 25 = .ok (.ireturn, 1) := by decide +kernel
set_option maxRecDepth 20000 in
theorem ggL_isStep_L_up : GoodIn wsL_isStep wsL_up := goodIn_r _ [5, 6] (by decide +kernel) (by decide +kernel)
set_option maxRecDepth 20000 in
theorem gL_isStep_L_up : GoodIn wsL_isStep (va_wsS RL 15 yL_up wsL_up) := goodIn_app (goodIn_of _ (by decide +kernel)) ggL_isStep_L_up
set_option maxRecDepth 20000 in
theorem ggL_isStep_X3_count : GoodIn wsL_isStep wsX3_count := goodIn_r _ [11, 12, 13, 14, 15, 16, 17, 18, 19, 20, 21, 22, 23, 24, 25, 26, 27, 10, 28, 29, 30, 31, 32, 33, 34, 35, 36, 37, 38, 39, 40, 41, 42, 43, 44, 45, 307, 308, 309, 310, 311, 312, 313, 314, 315, 316, 317, 318, 319, 320, 321, 322, 323, 324, 325, 326, 327, 328] (by decide +kernel) (by decide +kernel)
set_option maxRecDepth 20000 in
theorem gL_isStep_X3_count : GoodIn wsL_isStep (wsV RL 21 RX3 yX3_count wsX3_count) := goodIn_app (goodIn_of _ (by decide +kernel)) ggL_isStep_X3_count
set_option maxRecDepth 20000 in
theorem ggL_isStep_X3_set : GoodIn wsL_isStep wsX3_set := goodIn_r _ [49, 25, 23, 12, 13, 50, 51, 52, 53, 54, 55, 56, 57, 58, 59, 60, 61, 62, 63, 32, 64, 65, 43, 66, 67, 68, 69, 70, 71, 38, 72, 73, 74, 75, 76, 77, 78, 79, 80, 81, 82, 83, 84, 85, 86, 307, 308, 309, 310, 311, 312, 313, 314, 315, 316, 317, 318, 319, 320, 321, 322, 323, 324, 327, 328] (by decide +kernel) (by decide +kernel)
set_option maxRecDepth 20000 in
theorem gL_isStep_X3_set : GoodIn wsL_isStep (wsV RL 25 RX3 yX3_set wsX3_set) := goodIn_app (goodIn_of _ (by decide +kernel)) ggL_isStep_X3_set
set_option maxRecDepth 20000 in
theorem ggL_isStep_X3_pair : GoodIn wsL_isStep wsX3_pair := goodIn_r _ [90, 91, 25, 12, 92, 16, 93, 94, 95, 96, 10, 97, 98, 44, 45, 99, 100, 101, 102, 103, 104, 105, 307, 308, 309, 310, 311, 312, 313, 314, 315, 316, 317, 318, 319, 320, 321, 322, 323, 324] (by decide +kernel) (by decide +kernel)
set_option maxRecDepth 20000 in
theorem gL_isStep_X3_pair : GoodIn wsL_isStep (wsV RL 28 RX3 yX3_pair wsX3_pair) := goodIn_app (goodIn_of _ (by decide +kernel)) ggL_isStep_X3_pair
set_option maxRecDepth 20000 in
theorem ggL_isStep_X3_like : GoodIn wsL_isStep wsX3_like := goodIn_r _ [109, 91, 25, 23, 12, 92, 95, 96, 10, 97, 50, 51, 52, 53, 54, 55, 56, 57, 58, 59, 60, 61, 62, 63, 32, 64, 65, 43, 66, 67, 68, 69, 70, 71, 38, 72, 73, 74, 75, 76, 77, 78, 79, 80, 81, 82, 83, 84, 85, 86, 98, 44, 45, 307, 308, 309, 310, 311, 312, 313, 314, 315, 316, 317, 318, 319, 320, 321, 322, 323, 324, 327, 328] (by decide +kernel) (by decide +kernel)
set_option maxRecDepth 20000 in
theorem gL_isStep_X3_like : GoodIn wsL_isStep (wsV RL 32 RX3 yX3_like wsX3_like) := goodIn_app (goodIn_of _ (by decide +kernel)) ggL_isStep_X3_like
set_option maxRecDepth 20000 in
theorem ggL_isStep_L_there : GoodIn wsL_isStep wsL_there := goodIn_r _ [112] (by decide +kernel) (by decide +kernel)
set_option maxRecDepth 20000 in
theorem gL_isStep_L_there : GoodIn wsL_isStep (va_wsS RL 35 yL_there wsL_there) := goodIn_app (goodIn_of _ (by decide +kernel)) ggL_isStep_L_there
set_option maxRecDepth 20000 in
theorem ggL_isStep_X3_villager : GoodIn wsL_isStep wsX3_villager := goodIn_r _ [116, 91, 12, 19, 17, 117, 118, 18, 25, 95, 96, 10, 97, 119, 40, 41, 32, 42, 43, 120, 121, 122, 123, 38, 44, 45, 124, 125, 126, 127, 128, 307, 308, 309, 310, 311, 312, 313, 314, 315, 316, 317, 318, 319, 320, 321, 322, 323, 324] (by decide +kernel) (by decide +kernel)
set_option maxRecDepth 20000 in
theorem gL_isStep_X3_villager : GoodIn wsL_isStep (wsV RL 38 RX3 yX3_villager wsX3_villager) := goodIn_app (goodIn_of _ (by decide +kernel)) ggL_isStep_X3_villager
set_option maxRecDepth 20000 in
theorem ggL_isStep_X3_away : GoodIn wsL_isStep wsX3_away := goodIn_r _ [132, 91, 12, 133, 23, 15, 95, 96, 10, 97, 119, 40, 41, 32, 42, 43, 50, 51, 52, 53, 54, 55, 56, 57, 58, 59, 60, 61, 62, 63, 64, 65, 66, 67, 68, 69, 70, 71, 38, 72, 73, 74, 75, 76, 77, 78, 79, 80, 81, 82, 83, 84, 85, 86, 134, 135, 136, 137, 138, 139, 140, 307, 308, 309, 310, 311, 312, 313, 314, 315, 316, 317, 318, 319, 320, 321, 322, 323, 324, 327, 328] (by decide +kernel) (by decide +kernel)
set_option maxRecDepth 20000 in
theorem gL_isStep_X3_away : GoodIn wsL_isStep (wsV RL 41 RX3 yX3_away wsX3_away) := goodIn_app (goodIn_of _ (by decide +kernel)) ggL_isStep_X3_away
set_option maxRecDepth 20000 in
theorem ggL_isStep_L_bits : GoodIn wsL_isStep wsL_bits := goodIn_r _ [143] (by decide +kernel) (by decide +kernel)
set_option maxRecDepth 20000 in
theorem gL_isStep_L_bits : GoodIn wsL_isStep (va_wsS RL 46 yL_bits wsL_bits) := goodIn_app (goodIn_of _ (by decide +kernel)) ggL_isStep_L_bits
set_option maxRecDepth 20000 in
theorem ggL_isStep_X3_feed : GoodIn wsL_isStep wsX3_feed := goodIn_r _ [147, 91, 25, 23, 12, 19, 95, 96, 10, 97, 50, 51, 52, 53, 54, 55, 56, 57, 58, 59, 60, 61, 62, 63, 32, 64, 65, 43, 66, 67, 68, 69, 70, 71, 38, 72, 73, 74, 75, 76, 77, 78, 79, 80, 81, 82, 83, 84, 85, 86, 307, 308, 309, 310, 311, 312, 313, 314, 315, 316, 317, 318, 319, 320, 321, 322, 323, 324, 327, 328] (by decide +kernel) (by decide +kernel)
set_option maxRecDepth 20000 in
theorem gL_isStep_X3_feed : GoodIn wsL_isStep (wsV RL 49 RX3 yX3_feed wsX3_feed) := goodIn_app (goodIn_of _ (by decide +kernel)) ggL_isStep_X3_feed
set_option maxRecDepth 20000 in
theorem ggL_isStep_X3_undo : GoodIn wsL_isStep wsX3_undo := goodIn_r _ [151, 23, 24, 133, 12, 152, 153, 154, 53, 155, 55, 56, 61, 62, 63, 32, 64, 65, 43, 66, 67, 68, 69, 70, 71, 38, 72, 73, 74, 75, 76, 77, 78, 79, 80, 81, 82, 83, 84, 85, 86, 307, 308, 309, 310, 311, 327, 328, 312, 313, 314, 315, 316, 317, 318, 319, 320, 321, 322, 323, 324] (by decide +kernel) (by decide +kernel)
set_option maxRecDepth 20000 in
theorem gL_isStep_X3_undo : GoodIn wsL_isStep (wsV RL 52 RX3 yX3_undo wsX3_undo) := goodIn_app (goodIn_of _ (by decide +kernel)) ggL_isStep_X3_undo
set_option maxRecDepth 20000 in
theorem ggL_isStep_X3_save : GoodIn wsL_isStep wsX3_save := goodIn_r _ [159, 25, 160, 161, 162, 32, 12, 14, 163, 164, 10, 165, 166, 167, 168, 169, 170, 171, 172, 65, 43, 66, 67, 68, 69, 70, 71, 38, 72, 73, 74, 128, 75, 173, 174, 175, 176, 177, 62, 63, 64, 76, 77, 78, 79, 80, 81, 82, 83, 84, 85, 86, 307, 308, 309, 310, 311, 312, 313, 314, 315, 316, 317, 318, 319, 320, 321, 322, 323, 324] (by decide +kernel) (by decide +kernel)
set_option maxRecDepth 20000 in
theorem gL_isStep_X3_save : GoodIn wsL_isStep (wsV RL 56 RX3 yX3_save wsX3_save) := goodIn_app (goodIn_of _ (by decide +kernel)) ggL_isStep_X3_save
set_option maxRecDepth 20000 in
theorem ggL_isStep_X3_restore : GoodIn wsL_isStep wsX3_restore := goodIn_r _ [181, 25, 160, 133, 23, 12, 14, 163, 164, 10, 165, 50, 51, 52, 53, 54, 55, 56, 57, 58, 59, 60, 61, 62, 63, 32, 64, 65, 43, 66, 67, 68, 69, 70, 71, 38, 72, 73, 74, 75, 76, 77, 78, 79, 80, 81, 82, 83, 84, 85, 86, 177, 307, 308, 309, 310, 311, 312, 313, 314, 315, 316, 317, 318, 319, 320, 321, 322, 323, 324, 327, 328] (by decide +kernel) (by decide +kernel)
set_option maxRecDepth 20000 in
theorem gL_isStep_X3_restore : GoodIn wsL_isStep (wsV RL 59 RX3 yX3_restore wsX3_restore) := goodIn_app (goodIn_of _ (by decide +kernel)) ggL_isStep_X3_restore
set_option maxRecDepth 100000 in
theorem ggL_isStep_L_isRound_0 : GoodIn wsL_isStep (.code yL_isRound cL_isRound 16 (some .boolean) :: wsL_isRound_r1) := goodIn_r _ [184, 172, 7, 8, 9, 10, 11, 12, 13, 14, 15, 16, 17, 18, 19, 20, 21, 22, 23, 24, 25, 26, 27, 28, 29] (by decide +kernel) (by decide +kernel)
set_option maxRecDepth 100000 in
theorem ggL_isStep_L_isRound_1 : GoodIn wsL_isStep wsL_isRound_r2 := goodIn_r _ [30, 31, 32, 33, 34, 35, 36, 37, 38, 39, 40, 41, 42, 43, 44, 45, 113, 114, 115, 116, 91, 117, 118, 95] (by decide +kernel) (by decide +kernel)
set_option maxRecDepth 100000 in
theorem ggL_isStep_L_isRound_2 : GoodIn wsL_isStep wsL_isRound_r3 := goodIn_r _ [96, 97, 119, 120, 121, 122, 123, 124, 125, 126, 127, 128, 185, 186, 187, 188, 189, 190, 191, 192, 50, 51, 52, 53] (by decide +kernel) (by decide +kernel)
set_option maxRecDepth 100000 in
theorem ggL_isStep_L_isRound_3 : GoodIn wsL_isStep wsL_isRound_r4 := goodIn_r _ [54, 55, 56, 57, 58, 59, 60, 61, 62, 63, 64, 65, 66, 67, 68, 69, 70, 71, 72, 73, 74, 75, 76, 77] (by decide +kernel) (by decide +kernel)
set_option maxRecDepth 100000 in
theorem ggL_isStep_L_isRound_4 : GoodIn wsL_isStep wsL_isRound_r5 := goodIn_r _ [78, 79, 80, 81, 82, 83, 84, 85, 86, 193, 194, 195, 196, 197, 198, 99, 100, 101, 102, 103, 104, 105, 199, 200] (by decide +kernel) (by decide +kernel)
set_option maxRecDepth 100000 in
theorem ggL_isStep_L_isRound_5 : GoodIn wsL_isStep wsL_isRound_r6 := goodIn_r _ [201, 202, 203, 204, 205, 206, 207, 208, 209, 210, 211, 212, 213, 214, 215, 216, 217, 218, 219, 220, 221, 222, 223, 224] (by decide +kernel) (by decide +kernel)
set_option maxRecDepth 100000 in
theorem ggL_isStep_L_isRound_6 : GoodIn wsL_isStep wsL_isRound_r7 := goodIn_r _ [225, 226, 227, 228, 87, 88, 89, 90, 92, 93, 94, 98] (by decide +kernel) (by decide +kernel)
set_option maxRecDepth 100000 in
theorem ggL_isStep_L_isRound_wsX30 : GoodIn wsL_isStep wsX30 := goodIn_r _ [307, 308, 309, 310, 311] (by decide +kernel) (by decide +kernel)
set_option maxRecDepth 100000 in
theorem ggL_isStep_L_isRound_wsX20 : GoodIn wsL_isStep wsX20 := goodIn_r _ [312, 313, 314, 315, 316, 317, 318, 319, 320, 321, 322, 323, 324] (by decide +kernel) (by decide +kernel)
set_option maxRecDepth 100000 in
theorem ggL_isStep_L_isRound_wsX10 : GoodIn wsL_isStep wsX10 := goodIn_r _ [325, 326] (by decide +kernel) (by decide +kernel)
set_option maxRecDepth 100000 in
theorem ggL_isStep_L_isRound_wsX00 : GoodIn wsL_isStep wsX00 := goodIn_r _ [327, 328] (by decide +kernel) (by decide +kernel)
theorem ggL_isStep_L_isRound : GoodIn wsL_isStep wsL_isRound := by
  unfold wsL_isRound
  exact goodIn_ca (goodIn_ca (goodIn_ca (goodIn_ca (goodIn_ca ggL_isStep_L_isRound_0 (goodIn_app ggL_isStep_L_isRound_1 (goodIn_app ggL_isStep_L_isRound_2 (goodIn_app ggL_isStep_L_isRound_3 (goodIn_app ggL_isStep_L_isRound_4 (goodIn_app ggL_isStep_L_isRound_5 (ggL_isStep_L_isRound_6))))))) ggL_isStep_L_isRound_wsX30) ggL_isStep_L_isRound_wsX20) ggL_isStep_L_isRound_wsX10) ggL_isStep_L_isRound_wsX00
set_option maxRecDepth 20000 in
theorem gL_isStep_L_isRound : GoodIn wsL_isStep (va_wsS RL 62 yL_isRound wsL_isRound) := goodIn_app (goodIn_of _ (by decide +kernel)) ggL_isStep_L_isRound
set_option maxRecDepth 20000 in
theorem ggL_isStep_X3_wipe : GoodIn wsL_isStep wsX3_wipe := goodIn_r _ [232, 21, 233, 234, 235, 236, 237, 238, 307, 308, 309, 310, 311, 325, 326] (by decide +kernel) (by decide +kernel)
set_option maxRecDepth 20000 in
theorem gL_isStep_X3_wipe : GoodIn wsL_isStep (wsV RL 66 RX3 yX3_wipe wsX3_wipe) := goodIn_app (goodIn_of _ (by decide +kernel)) ggL_isStep_X3_wipe
set_option maxRecDepth 20000 in
theorem ggL_isStep_L_twice : GoodIn wsL_isStep wsL_twice := goodIn_r _ [241] (by decide +kernel) (by decide +kernel)
set_option maxRecDepth 20000 in
theorem gL_isStep_L_twice : GoodIn wsL_isStep (va_wsS RL 69 yL_twice wsL_twice) := goodIn_app (goodIn_of _ (by decide +kernel)) ggL_isStep_L_twice
set_option maxRecDepth 20000 in
theorem ggL_isStep_L_number : GoodIn wsL_isStep wsL_number := goodIn_r _ [244, 245, 246, 247, 10, 248, 25, 21, 22, 189, 249, 250, 251, 252, 253, 254, 255, 256, 257, 236, 258, 238, 259, 260, 307, 308, 309, 310, 311, 325, 326] (by decide +kernel) (by decide +kernel)
set_option maxRecDepth 20000 in
theorem gL_isStep_L_number : GoodIn wsL_isStep (va_wsS RL 72 yL_number wsL_number) := goodIn_app (goodIn_of _ (by decide +kernel)) ggL_isStep_L_number
set_option maxRecDepth 100000 in
theorem ggL_isStep_X3_read_0 : GoodIn wsL_isStep (.code yX3_read cX3_read 2 (some .int) :: wsX3_read_r1) := goodIn_r _ [264, 21, 227, 265, 12, 14, 189, 23, 266, 267, 268, 236, 269, 238, 259, 270, 271, 272, 273, 274, 275, 276, 277, 278, 279] (by decide +kernel) (by decide +kernel)
set_option maxRecDepth 100000 in
theorem ggL_isStep_X3_read_1 : GoodIn wsL_isStep wsX3_read_r2 := goodIn_r _ [280, 281, 282, 283, 284, 285, 286, 287, 288, 289, 290, 291, 292, 50, 51, 52, 53, 54, 55, 56, 57, 58, 59, 60] (by decide +kernel) (by decide +kernel)
set_option maxRecDepth 100000 in
theorem ggL_isStep_X3_read_2 : GoodIn wsL_isStep wsX3_read_r3 := goodIn_r _ [61, 62, 63, 32, 64, 65, 43, 66, 67, 68, 69, 70, 71, 38, 72, 73, 74, 75, 76, 77, 78, 79, 80, 81] (by decide +kernel) (by decide +kernel)
set_option maxRecDepth 100000 in
theorem ggL_isStep_X3_read_3 : GoodIn wsL_isStep wsX3_read_r4 := goodIn_r _ [82, 83, 84, 85, 86, 293, 294, 295, 10, 296, 22, 297, 298, 299, 300, 301, 302, 303, 304, 305, 306, 193, 194, 195] (by decide +kernel) (by decide +kernel)
set_option maxRecDepth 100000 in
theorem ggL_isStep_X3_read_4 : GoodIn wsL_isStep wsX3_read_r5 := goodIn_r _ [196, 197, 198, 99, 100, 101, 102, 103, 104, 105, 199, 200, 201, 202, 39, 40, 41, 42, 203, 204, 205, 206, 207, 208] (by decide +kernel) (by decide +kernel)
set_option maxRecDepth 100000 in
theorem ggL_isStep_X3_read_5 : GoodIn wsL_isStep wsX3_read_r6 := goodIn_r _ [209, 210, 211, 212, 213, 214, 44, 45, 215, 216, 217, 218, 219, 220, 221, 222, 233, 234, 235, 237] (by decide +kernel) (by decide +kernel)
set_option maxRecDepth 100000 in
theorem ggL_isStep_X3_read_wsX30 : GoodIn wsL_isStep wsX30 := goodIn_r _ [307, 308, 309, 310, 311] (by decide +kernel) (by decide +kernel)
set_option maxRecDepth 100000 in
theorem ggL_isStep_X3_read_wsX20 : GoodIn wsL_isStep wsX20 := goodIn_r _ [312, 313, 314, 315, 316, 317, 318, 319, 320, 321, 322, 323, 324] (by decide +kernel) (by decide +kernel)
set_option maxRecDepth 100000 in
theorem ggL_isStep_X3_read_wsX10 : GoodIn wsL_isStep wsX10 := goodIn_r _ [325, 326] (by decide +kernel) (by decide +kernel)
set_option maxRecDepth 100000 in
theorem ggL_isStep_X3_read_wsX00 : GoodIn wsL_isStep wsX00 := goodIn_r _ [327, 328] (by decide +kernel) (by decide +kernel)
theorem ggL_isStep_X3_read : GoodIn wsL_isStep wsX3_read := by
  unfold wsX3_read
  exact goodIn_ca (goodIn_ca (goodIn_ca (goodIn_ca (goodIn_ca ggL_isStep_X3_read_0 (goodIn_app ggL_isStep_X3_read_1 (goodIn_app ggL_isStep_X3_read_2 (goodIn_app ggL_isStep_X3_read_3 (goodIn_app ggL_isStep_X3_read_4 (ggL_isStep_X3_read_5)))))) ggL_isStep_X3_read_wsX30) ggL_isStep_X3_read_wsX20) ggL_isStep_X3_read_wsX10) ggL_isStep_X3_read_wsX00
set_option maxRecDepth 20000 in
theorem gL_isStep_X3_read : GoodIn wsL_isStep (wsV RL 75 RX3 yX3_read wsX3_read) := goodIn_app (goodIn_of _ (by decide +kernel)) ggL_isStep_X3_read
theorem dL_isStep_0 : decode cL_isStep 0 = .ok (.iload_n 2, 1) := by decide +kernel
theorem dL_isStep_1 : decode cL_isStep 1 = .ok (.iconst 4, 1) := by decide +kernel
theorem dL_isStep_2 : decode cL_isStep 2 = .ok (.ishr, 1) := by decide +kernel
theorem dL_isStep_3 : decode cL_isStep 3 = .ok (.istore 4, 2) := by decide +kernel
theorem dL_isStep_5 : decode cL_isStep 5 = .ok (.iload_n 2, 1) := by decide +kernel
theorem dL_isStep_6 : decode cL_isStep 6 = .ok (.bipush 15, 2) := by decide +kernel
theorem dL_isStep_8 : decode cL_isStep 8 = .ok (.invokestatic 15, 3) := by decide +kernel
theorem dL_isStep_11 : decode cL_isStep 11 = .ok (.tableswitch 517 0 6 #[41, 126, 126, 232, 350, 423, 449], 41) := by decide +kernel
theorem dL_isStep_52 : decode cL_isStep 52 = .ok (.iload 4, 2) := by decide +kernel
theorem dL_isStep_54 : decode cL_isStep 54 = .ok (.iconst 3, 1) := by decide +kernel
theorem dL_isStep_55 : decode cL_isStep 55 = .ok (.invokestatic 15, 3) := by decide +kernel
theorem dL_isStep_58 : decode cL_isStep 58 = .ok (.istore 5, 2) := by decide +kernel
theorem dL_isStep_60 : decode cL_isStep 60 = .ok (.iload 5, 2) := by decide +kernel
theorem dL_isStep_62 : decode cL_isStep 62 = .ok (.iconst 2, 1) := by decide +kernel
theorem dL_isStep_63 : decode cL_isStep 63 = .ok (.if_icmp .ne 15, 3) := by decide +kernel
theorem dL_isStep_66 : decode cL_isStep 66 = .ok (.iload_n 3, 1) := by decide +kernel
theorem dL_isStep_67 : decode cL_isStep 67 = .ok (.bipush 19, 2) := by decide +kernel
theorem dL_isStep_69 : decode cL_isStep 69 = .ok (.invokestatic 15, 3) := by decide +kernel
theorem dL_isStep_72 : decode cL_isStep 72 = .ok (.bipush 9, 2) := by decide +kernel
theorem dL_isStep_74 : decode cL_isStep 74 = .ok (.isub, 1) := by decide +kernel
theorem dL_isStep_75 : decode cL_isStep 75 = .ok (.goto 9, 3) := by decide +kernel
theorem dL_isStep_78 : decode cL_isStep 78 = .ok (.iload_n 3, 1) := by decide +kernel
theorem dL_isStep_79 : decode cL_isStep 79 = .ok (.bipush 10, 2) := by decide +kernel
theorem dL_isStep_81 : decode cL_isStep 81 = .ok (.invokestatic 15, 3) := by decide +kernel
theorem dL_isStep_84 : decode cL_isStep 84 = .ok (.istore 6, 2) := by decide +kernel
theorem dL_isStep_86 : decode cL_isStep 86 = .ok (.aload_n 0, 1) := by decide +kernel
theorem dL_isStep_87 : decode cL_isStep 87 = .ok (.iload 5, 2) := by decide +kernel
theorem dL_isStep_89 : decode cL_isStep 89 = .ok (.invokevirtual 21, 3) := by decide +kernel
theorem dL_isStep_92 : decode cL_isStep 92 = .ok (.istore 7, 2) := by decide +kernel
theorem dL_isStep_94 : decode cL_isStep 94 = .ok (.aload_n 0, 1) := by decide +kernel
theorem dL_isStep_95 : decode cL_isStep 95 = .ok (.iload 5, 2) := by decide +kernel
theorem dL_isStep_97 : decode cL_isStep 97 = .ok (.iload 6, 2) := by decide +kernel
theorem dL_isStep_99 : decode cL_isStep 99 = .ok (.invokevirtual 25, 3) := by decide +kernel
theorem dL_isStep_102 : decode cL_isStep 102 = .ok (.iload 7, 2) := by decide +kernel
theorem dL_isStep_104 : decode cL_isStep 104 = .ok (.if_icmp .ne 31, 3) := by decide +kernel
theorem dL_isStep_107 : decode cL_isStep 107 = .ok (.aload_n 1, 1) := by decide +kernel
theorem dL_isStep_108 : decode cL_isStep 108 = .ok (.iload 5, 2) := by decide +kernel
theorem dL_isStep_110 : decode cL_isStep 110 = .ok (.iload 6, 2) := by decide +kernel
theorem dL_isStep_112 : decode cL_isStep 112 = .ok (.invokevirtual 25, 3) := by decide +kernel
theorem dL_isStep_115 : decode cL_isStep 115 = .ok (.iload 7, 2) := by decide +kernel
theorem dL_isStep_117 : decode cL_isStep 117 = .ok (.if_icmp .ne 18, 3) := by decide +kernel
theorem dL_isStep_120 : decode cL_isStep 120 = .ok (.aload_n 0, 1) := by decide +kernel
theorem dL_isStep_121 : decode cL_isStep 121 = .ok (.iload 5, 2) := by decide +kernel
theorem dL_isStep_123 : decode cL_isStep 123 = .ok (.invokevirtual 21, 3) := by decide +kernel
theorem dL_isStep_126 : decode cL_isStep 126 = .ok (.iload 6, 2) := by decide +kernel
theorem dL_isStep_128 : decode cL_isStep 128 = .ok (.if_icmp .ne 7, 3) := by decide +kernel
theorem dL_isStep_131 : decode cL_isStep 131 = .ok (.iconst 1, 1) := by decide +kernel
theorem dL_isStep_132 : decode cL_isStep 132 = .ok (.goto 4, 3) := by decide +kernel
theorem dL_isStep_135 : decode cL_isStep 135 = .ok (.iconst 0, 1) := by decide +kernel
theorem dL_isStep_136 : decode cL_isStep 136 = .ok (.ireturn, 1) := by decide +kernel
theorem dL_isStep_137 : decode cL_isStep 137 = .ok (.iload 4, 2) := by decide +kernel
theorem dL_isStep_139 : decode cL_isStep 139 = .ok (.bipush 9, 2) := by decide +kernel
theorem dL_isStep_141 : decode cL_isStep 141 = .ok (.invokestatic 15, 3) := by decide +kernel
theorem dL_isStep_144 : decode cL_isStep 144 = .ok (.istore 5, 2) := by decide +kernel
theorem dL_isStep_146 : decode cL_isStep 146 = .ok (.iload 5, 2) := by decide +kernel
theorem dL_isStep_148 : decode cL_isStep 148 = .ok (.iconst 1, 1) := by decide +kernel
theorem dL_isStep_149 : decode cL_isStep 149 = .ok (.iadd, 1) := by decide +kernel
theorem dL_isStep_150 : decode cL_isStep 150 = .ok (.iload 4, 2) := by decide +kernel
theorem dL_isStep_152 : decode cL_isStep 152 = .ok (.iconst 4, 1) := by decide +kernel
theorem dL_isStep_153 : decode cL_isStep 153 = .ok (.ishr, 1) := by decide +kernel
theorem dL_isStep_154 : decode cL_isStep 154 = .ok (.bipush 8, 2) := by decide +kernel
theorem dL_isStep_156 : decode cL_isStep 156 = .ok (.invokestatic 15, 3) := by decide +kernel
theorem dL_isStep_159 : decode cL_isStep 159 = .ok (.iadd, 1) := by decide +kernel
theorem dL_isStep_160 : decode cL_isStep 160 = .ok (.bipush 9, 2) := by decide +kernel
theorem dL_isStep_162 : decode cL_isStep 162 = .ok (.irem, 1) := by decide +kernel
theorem dL_isStep_163 : decode cL_isStep 163 = .ok (.istore 6, 2) := by decide +kernel
theorem dL_isStep_165 : decode cL_isStep 165 = .ok (.iload_n 3, 1) := by decide +kernel
theorem dL_isStep_166 : decode cL_isStep 166 = .ok (.bipush 19, 2) := by decide +kernel
theorem dL_isStep_168 : decode cL_isStep 168 = .ok (.invokestatic 15, 3) := by decide +kernel
theorem dL_isStep_171 : decode cL_isStep 171 = .ok (.bipush 9, 2) := by decide +kernel
theorem dL_isStep_173 : decode cL_isStep 173 = .ok (.isub, 1) := by decide +kernel
theorem dL_isStep_174 : decode cL_isStep 174 = .ok (.istore 7, 2) := by decide +kernel
theorem dL_isStep_176 : decode cL_isStep 176 = .ok (.aload_n 0, 1) := by decide +kernel
theorem dL_isStep_177 : decode cL_isStep 177 = .ok (.iload 5, 2) := by decide +kernel
theorem dL_isStep_179 : decode cL_isStep 179 = .ok (.iload 6, 2) := by decide +kernel
theorem dL_isStep_181 : decode cL_isStep 181 = .ok (.iconst 0, 1) := by decide +kernel
theorem dL_isStep_182 : decode cL_isStep 182 = .ok (.invokevirtual 28, 3) := by decide +kernel
theorem dL_isStep_185 : decode cL_isStep 185 = .ok (.istore 8, 2) := by decide +kernel
theorem dL_isStep_187 : decode cL_isStep 187 = .ok (.aload_n 0, 1) := by decide +kernel
theorem dL_isStep_188 : decode cL_isStep 188 = .ok (.iload 5, 2) := by decide +kernel
theorem dL_isStep_190 : decode cL_isStep 190 = .ok (.iload 6, 2) := by decide +kernel
theorem dL_isStep_192 : decode cL_isStep 192 = .ok (.iload 7, 2) := by decide +kernel
theorem dL_isStep_194 : decode cL_isStep 194 = .ok (.invokevirtual 32, 3) := by decide +kernel
theorem dL_isStep_197 : decode cL_isStep 197 = .ok (.iload 8, 2) := by decide +kernel
theorem dL_isStep_199 : decode cL_isStep 199 = .ok (.if_icmp .ne 42, 3) := by decide +kernel
theorem dL_isStep_202 : decode cL_isStep 202 = .ok (.aload_n 1, 1) := by decide +kernel
theorem dL_isStep_203 : decode cL_isStep 203 = .ok (.iload 6, 2) := by decide +kernel
theorem dL_isStep_205 : decode cL_isStep 205 = .ok (.invokestatic 35, 3) := by decide +kernel
theorem dL_isStep_208 : decode cL_isStep 208 = .ok (.iload 5, 2) := by decide +kernel
theorem dL_isStep_210 : decode cL_isStep 210 = .ok (.invokestatic 35, 3) := by decide +kernel
theorem dL_isStep_213 : decode cL_isStep 213 = .ok (.iload 7, 2) := by decide +kernel
theorem dL_isStep_215 : decode cL_isStep 215 = .ok (.invokevirtual 32, 3) := by decide +kernel
theorem dL_isStep_218 : decode cL_isStep 218 = .ok (.iload 8, 2) := by decide +kernel
theorem dL_isStep_220 : decode cL_isStep 220 = .ok (.if_icmp .ne 21, 3) := by decide +kernel
theorem dL_isStep_223 : decode cL_isStep 223 = .ok (.aload_n 0, 1) := by decide +kernel
theorem dL_isStep_224 : decode cL_isStep 224 = .ok (.iload 6, 2) := by decide +kernel
theorem dL_isStep_226 : decode cL_isStep 226 = .ok (.iload 5, 2) := by decide +kernel
theorem dL_isStep_228 : decode cL_isStep 228 = .ok (.iconst 0, 1) := by decide +kernel
theorem dL_isStep_229 : decode cL_isStep 229 = .ok (.invokevirtual 28, 3) := by decide +kernel
theorem dL_isStep_232 : decode cL_isStep 232 = .ok (.iload 7, 2) := by decide +kernel
theorem dL_isStep_234 : decode cL_isStep 234 = .ok (.if_icmp .ne 7, 3) := by decide +kernel
theorem dL_isStep_237 : decode cL_isStep 237 = .ok (.iconst 1, 1) := by decide +kernel
theorem dL_isStep_238 : decode cL_isStep 238 = .ok (.goto 4, 3) := by decide +kernel
theorem dL_isStep_241 : decode cL_isStep 241 = .ok (.iconst 0, 1) := by decide +kernel
theorem dL_isStep_242 : decode cL_isStep 242 = .ok (.ireturn, 1) := by decide +kernel
theorem dL_isStep_243 : decode cL_isStep 243 = .ok (.iload 4, 2) := by decide +kernel
theorem dL_isStep_245 : decode cL_isStep 245 = .ok (.bipush 9, 2) := by decide +kernel
theorem dL_isStep_247 : decode cL_isStep 247 = .ok (.invokestatic 15, 3) := by decide +kernel
theorem dL_isStep_250 : decode cL_isStep 250 = .ok (.istore 5, 2) := by decide +kernel
theorem dL_isStep_252 : decode cL_isStep 252 = .ok (.iload_n 3, 1) := by decide +kernel
theorem dL_isStep_253 : decode cL_isStep 253 = .ok (.iconst 2, 1) := by decide +kernel
theorem dL_isStep_254 : decode cL_isStep 254 = .ok (.invokestatic 15, 3) := by decide +kernel
theorem dL_isStep_257 : decode cL_isStep 257 = .ok (.ifCond .ne 7, 3) := by decide +kernel
theorem dL_isStep_260 : decode cL_isStep 260 = .ok (.iconst 1, 1) := by decide +kernel
theorem dL_isStep_261 : decode cL_isStep 261 = .ok (.goto 4, 3) := by decide +kernel
theorem dL_isStep_264 : decode cL_isStep 264 = .ok (.iconst 0, 1) := by decide +kernel
theorem dL_isStep_265 : decode cL_isStep 265 = .ok (.istore 6, 2) := by decide +kernel
theorem dL_isStep_267 : decode cL_isStep 267 = .ok (.aload_n 0, 1) := by decide +kernel
theorem dL_isStep_268 : decode cL_isStep 268 = .ok (.iload 5, 2) := by decide +kernel
theorem dL_isStep_270 : decode cL_isStep 270 = .ok (.iconst 0, 1) := by decide +kernel
theorem dL_isStep_271 : decode cL_isStep 271 = .ok (.invokevirtual 38, 3) := by decide +kernel
theorem dL_isStep_274 : decode cL_isStep 274 = .ok (.ifCond .ne 7, 3) := by decide +kernel
theorem dL_isStep_277 : decode cL_isStep 277 = .ok (.iconst 1, 1) := by decide +kernel
theorem dL_isStep_278 : decode cL_isStep 278 = .ok (.goto 4, 3) := by decide +kernel
theorem dL_isStep_281 : decode cL_isStep 281 = .ok (.iconst 0, 1) := by decide +kernel
theorem dL_isStep_282 : decode cL_isStep 282 = .ok (.istore 7, 2) := by decide +kernel
theorem dL_isStep_284 : decode cL_isStep 284 = .ok (.aload_n 0, 1) := by decide +kernel
theorem dL_isStep_285 : decode cL_isStep 285 = .ok (.iload 5, 2) := by decide +kernel
theorem dL_isStep_287 : decode cL_isStep 287 = .ok (.iload 6, 2) := by decide +kernel
theorem dL_isStep_289 : decode cL_isStep 289 = .ok (.invokevirtual 41, 3) := by decide +kernel
theorem dL_isStep_292 : decode cL_isStep 292 = .ok (.istore 8, 2) := by decide +kernel
theorem dL_isStep_294 : decode cL_isStep 294 = .ok (.iload 8, 2) := by decide +kernel
theorem dL_isStep_296 : decode cL_isStep 296 = .ok (.aload_n 1, 1) := by decide +kernel
theorem dL_isStep_297 : decode cL_isStep 297 = .ok (.iload 5, 2) := by decide +kernel
theorem dL_isStep_299 : decode cL_isStep 299 = .ok (.invokestatic 35, 3) := by decide +kernel
theorem dL_isStep_302 : decode cL_isStep 302 = .ok (.iload 6, 2) := by decide +kernel
theorem dL_isStep_304 : decode cL_isStep 304 = .ok (.invokevirtual 41, 3) := by decide +kernel
theorem dL_isStep_307 : decode cL_isStep 307 = .ok (.if_icmp .ne 52, 3) := by decide +kernel
theorem dL_isStep_310 : decode cL_isStep 310 = .ok (.iload 8, 2) := by decide +kernel
theorem dL_isStep_312 : decode cL_isStep 312 = .ok (.iload 7, 2) := by decide +kernel
theorem dL_isStep_314 : decode cL_isStep 314 = .ok (.iload 6, 2) := by decide +kernel
theorem dL_isStep_316 : decode cL_isStep 316 = .ok (.if_icmp .ne 8, 3) := by decide +kernel
theorem dL_isStep_319 : decode cL_isStep 319 = .ok (.ldc 45, 2) := by decide +kernel
theorem dL_isStep_321 : decode cL_isStep 321 = .ok (.goto 11, 3) := by decide +kernel
theorem dL_isStep_324 : decode cL_isStep 324 = .ok (.aload_n 0, 1) := by decide +kernel
theorem dL_isStep_325 : decode cL_isStep 325 = .ok (.iconst 4, 1) := by decide +kernel
theorem dL_isStep_326 : decode cL_isStep 326 = .ok (.invokevirtual 21, 3) := by decide +kernel
theorem dL_isStep_329 : decode cL_isStep 329 = .ok (.invokestatic 46, 3) := by decide +kernel
theorem dL_isStep_332 : decode cL_isStep 332 = .ok (.if_icmp .ne 27, 3) := by decide +kernel
theorem dL_isStep_335 : decode cL_isStep 335 = .ok (.aload_n 0, 1) := by decide +kernel
theorem dL_isStep_336 : decode cL_isStep 336 = .ok (.iload 5, 2) := by decide +kernel
theorem dL_isStep_338 : decode cL_isStep 338 = .ok (.iconst 0, 1) := by decide +kernel
theorem dL_isStep_339 : decode cL_isStep 339 = .ok (.invokevirtual 38, 3) := by decide +kernel
theorem dL_isStep_342 : decode cL_isStep 342 = .ok (.ifCond .ne 7, 3) := by decide +kernel
theorem dL_isStep_345 : decode cL_isStep 345 = .ok (.iconst 1, 1) := by decide +kernel
theorem dL_isStep_346 : decode cL_isStep 346 = .ok (.goto 4, 3) := by decide +kernel
theorem dL_isStep_349 : decode cL_isStep 349 = .ok (.iconst 0, 1) := by decide +kernel
theorem dL_isStep_350 : decode cL_isStep 350 = .ok (.iload 6, 2) := by decide +kernel
theorem dL_isStep_352 : decode cL_isStep 352 = .ok (.if_icmp .ne 7, 3) := by decide +kernel
theorem dL_isStep_355 : decode cL_isStep 355 = .ok (.iconst 1, 1) := by decide +kernel
theorem dL_isStep_356 : decode cL_isStep 356 = .ok (.goto 4, 3) := by decide +kernel
theorem dL_isStep_359 : decode cL_isStep 359 = .ok (.iconst 0, 1) := by decide +kernel
theorem dL_isStep_360 : decode cL_isStep 360 = .ok (.ireturn, 1) := by decide +kernel
theorem dL_isStep_361 : decode cL_isStep 361 = .ok (.iload 4, 2) := by decide +kernel
theorem dL_isStep_363 : decode cL_isStep 363 = .ok (.bipush 9, 2) := by decide +kernel
theorem dL_isStep_365 : decode cL_isStep 365 = .ok (.invokestatic 15, 3) := by decide +kernel
theorem dL_isStep_368 : decode cL_isStep 368 = .ok (.istore 5, 2) := by decide +kernel
theorem dL_isStep_370 : decode cL_isStep 370 = .ok (.aload_n 0, 1) := by decide +kernel
theorem dL_isStep_371 : decode cL_isStep 371 = .ok (.iload 5, 2) := by decide +kernel
theorem dL_isStep_373 : decode cL_isStep 373 = .ok (.iconst 1, 1) := by decide +kernel
theorem dL_isStep_374 : decode cL_isStep 374 = .ok (.invokevirtual 38, 3) := by decide +kernel
theorem dL_isStep_377 : decode cL_isStep 377 = .ok (.istore 6, 2) := by decide +kernel
theorem dL_isStep_379 : decode cL_isStep 379 = .ok (.iload_n 3, 1) := by decide +kernel
theorem dL_isStep_380 : decode cL_isStep 380 = .ok (.bipush 21, 2) := by decide +kernel
theorem dL_isStep_382 : decode cL_isStep 382 = .ok (.invokestatic 15, 3) := by decide +kernel
theorem dL_isStep_385 : decode cL_isStep 385 = .ok (.istore 7, 2) := by decide +kernel
theorem dL_isStep_387 : decode cL_isStep 387 = .ok (.aload_n 0, 1) := by decide +kernel
theorem dL_isStep_388 : decode cL_isStep 388 = .ok (.iload 5, 2) := by decide +kernel
theorem dL_isStep_390 : decode cL_isStep 390 = .ok (.iload 7, 2) := by decide +kernel
theorem dL_isStep_392 : decode cL_isStep 392 = .ok (.invokevirtual 49, 3) := by decide +kernel
theorem dL_isStep_395 : decode cL_isStep 395 = .ok (.iload 6, 2) := by decide +kernel
theorem dL_isStep_397 : decode cL_isStep 397 = .ok (.if_icmp .ne 35, 3) := by decide +kernel
theorem dL_isStep_400 : decode cL_isStep 400 = .ok (.aload_n 1, 1) := by decide +kernel
theorem dL_isStep_401 : decode cL_isStep 401 = .ok (.iload 5, 2) := by decide +kernel
theorem dL_isStep_403 : decode cL_isStep 403 = .ok (.invokestatic 35, 3) := by decide +kernel
theorem dL_isStep_406 : decode cL_isStep 406 = .ok (.iload 7, 2) := by decide +kernel
theorem dL_isStep_408 : decode cL_isStep 408 = .ok (.invokevirtual 49, 3) := by decide +kernel
theorem dL_isStep_411 : decode cL_isStep 411 = .ok (.iload 6, 2) := by decide +kernel
theorem dL_isStep_413 : decode cL_isStep 413 = .ok (.if_icmp .ne 19, 3) := by decide +kernel
theorem dL_isStep_416 : decode cL_isStep 416 = .ok (.aload_n 0, 1) := by decide +kernel
theorem dL_isStep_417 : decode cL_isStep 417 = .ok (.iload 5, 2) := by decide +kernel
theorem dL_isStep_419 : decode cL_isStep 419 = .ok (.iconst 1, 1) := by decide +kernel
theorem dL_isStep_420 : decode cL_isStep 420 = .ok (.invokevirtual 38, 3) := by decide +kernel
theorem dL_isStep_423 : decode cL_isStep 423 = .ok (.iload 7, 2) := by decide +kernel
theorem dL_isStep_425 : decode cL_isStep 425 = .ok (.if_icmp .ne 7, 3) := by decide +kernel
theorem dL_isStep_428 : decode cL_isStep 428 = .ok (.iconst 1, 1) := by decide +kernel
theorem dL_isStep_429 : decode cL_isStep 429 = .ok (.goto 4, 3) := by decide +kernel
theorem dL_isStep_432 : decode cL_isStep 432 = .ok (.iconst 0, 1) := by decide +kernel
theorem dL_isStep_433 : decode cL_isStep 433 = .ok (.ireturn, 1) := by decide +kernel
theorem dL_isStep_434 : decode cL_isStep 434 = .ok (.aload_n 0, 1) := by decide +kernel
theorem dL_isStep_435 : decode cL_isStep 435 = .ok (.bipush 12, 2) := by decide +kernel
theorem dL_isStep_437 : decode cL_isStep 437 = .ok (.invokevirtual 21, 3) := by decide +kernel
theorem dL_isStep_440 : decode cL_isStep 440 = .ok (.ifCond .eq 14, 3) := by decide +kernel
theorem dL_isStep_443 : decode cL_isStep 443 = .ok (.aload_n 0, 1) := by decide +kernel
theorem dL_isStep_444 : decode cL_isStep 444 = .ok (.invokevirtual 52, 3) := by decide +kernel
theorem dL_isStep_447 : decode cL_isStep 447 = .ok (.aload_n 1, 1) := by decide +kernel
theorem dL_isStep_448 : decode cL_isStep 448 = .ok (.invokevirtual 52, 3) := by decide +kernel
theorem dL_isStep_451 : decode cL_isStep 451 = .ok (.if_icmp .ne 7, 3) := by decide +kernel
theorem dL_isStep_454 : decode cL_isStep 454 = .ok (.iconst 1, 1) := by decide +kernel
theorem dL_isStep_455 : decode cL_isStep 455 = .ok (.goto 4, 3) := by decide +kernel
theorem dL_isStep_458 : decode cL_isStep 458 = .ok (.iconst 0, 1) := by decide +kernel
theorem dL_isStep_459 : decode cL_isStep 459 = .ok (.ireturn, 1) := by decide +kernel
theorem dL_isStep_460 : decode cL_isStep 460 = .ok (.iload_n 3, 1) := by decide +kernel
theorem dL_isStep_461 : decode cL_isStep 461 = .ok (.iconst 2, 1) := by decide +kernel
theorem dL_isStep_462 : decode cL_isStep 462 = .ok (.invokestatic 15, 3) := by decide +kernel
theorem dL_isStep_465 : decode cL_isStep 465 = .ok (.ifCond .ne 34, 3) := by decide +kernel
theorem dL_isStep_468 : decode cL_isStep 468 = .ok (.aload_n 0, 1) := by decide +kernel
theorem dL_isStep_469 : decode cL_isStep 469 = .ok (.iload 4, 2) := by decide +kernel
theorem dL_isStep_471 : decode cL_isStep 471 = .ok (.iconst 2, 1) := by decide +kernel
theorem dL_isStep_472 : decode cL_isStep 472 = .ok (.invokestatic 15, 3) := by decide +kernel
theorem dL_isStep_475 : decode cL_isStep 475 = .ok (.invokevirtual 56, 3) := by decide +kernel
theorem dL_isStep_478 : decode cL_isStep 478 = .ok (.aload_n 1, 1) := by decide +kernel
theorem dL_isStep_479 : decode cL_isStep 479 = .ok (.iload 4, 2) := by decide +kernel
theorem dL_isStep_481 : decode cL_isStep 481 = .ok (.iconst 2, 1) := by decide +kernel
theorem dL_isStep_482 : decode cL_isStep 482 = .ok (.invokestatic 15, 3) := by decide +kernel
theorem dL_isStep_485 : decode cL_isStep 485 = .ok (.invokevirtual 56, 3) := by decide +kernel
theorem dL_isStep_488 : decode cL_isStep 488 = .ok (.if_icmp .ne 7, 3) := by decide +kernel
theorem dL_isStep_491 : decode cL_isStep 491 = .ok (.iconst 1, 1) := by decide +kernel
theorem dL_isStep_492 : decode cL_isStep 492 = .ok (.goto 35, 3) := by decide +kernel
theorem dL_isStep_495 : decode cL_isStep 495 = .ok (.iconst 0, 1) := by decide +kernel
theorem dL_isStep_496 : decode cL_isStep 496 = .ok (.goto 31, 3) := by decide +kernel
theorem dL_isStep_499 : decode cL_isStep 499 = .ok (.aload_n 0, 1) := by decide +kernel
theorem dL_isStep_500 : decode cL_isStep 500 = .ok (.iload 4, 2) := by decide +kernel
theorem dL_isStep_502 : decode cL_isStep 502 = .ok (.iconst 2, 1) := by decide +kernel
theorem dL_isStep_503 : decode cL_isStep 503 = .ok (.invokestatic 15, 3) := by decide +kernel
theorem dL_isStep_506 : decode cL_isStep 506 = .ok (.invokevirtual 59, 3) := by decide +kernel
theorem dL_isStep_509 : decode cL_isStep 509 = .ok (.aload_n 1, 1) := by decide +kernel
theorem dL_isStep_510 : decode cL_isStep 510 = .ok (.iload 4, 2) := by decide +kernel
theorem dL_isStep_512 : decode cL_isStep 512 = .ok (.iconst 2, 1) := by decide +kernel
theorem dL_isStep_513 : decode cL_isStep 513 = .ok (.invokestatic 15, 3) := by decide +kernel
theorem dL_isStep_516 : decode cL_isStep 516 = .ok (.invokevirtual 59, 3) := by decide +kernel
theorem dL_isStep_519 : decode cL_isStep 519 = .ok (.if_icmp .ne 7, 3) := by decide +kernel
theorem dL_isStep_522 : decode cL_isStep 522 = .ok (.iconst 1, 1) := by decide +kernel
theorem dL_isStep_523 : decode cL_isStep 523 = .ok (.goto 4, 3) := by decide +kernel
theorem dL_isStep_526 : decode cL_isStep 526 = .ok (.iconst 0, 1) := by decide +kernel
theorem dL_isStep_527 : decode cL_isStep 527 = .ok (.ireturn, 1) := by decide +kernel
theorem dL_isStep_528 : decode cL_isStep 528 = .ok (.iload_n 3, 1) := by decide +kernel
theorem dL_isStep_529 : decode cL_isStep 529 = .ok (.iload 4, 2) := by decide +kernel
theorem dL_isStep_531 : decode cL_isStep 531 = .ok (.iconst 3, 1) := by decide +kernel
theorem dL_isStep_532 : decode cL_isStep 532 = .ok (.invokestatic 15, 3) := by decide +kernel
theorem dL_isStep_535 : decode cL_isStep 535 = .ok (.ifCond .ne 9, 3) := by decide +kernel
theorem dL_isStep_538 : decode cL_isStep 538 = .ok (.sipush 1000, 3) := by decide +kernel
theorem dL_isStep_541 : decode cL_isStep 541 = .ok (.goto 5, 3) := by decide +kernel
theorem dL_isStep_544 : decode cL_isStep 544 = .ok (.bipush 9, 2) := by decide +kernel
theorem dL_isStep_546 : decode cL_isStep 546 = .ok (.invokestatic 15, 3) := by decide +kernel
theorem dL_isStep_549 : decode cL_isStep 549 = .ok (.istore 5, 2) := by decide +kernel
theorem dL_isStep_551 : decode cL_isStep 551 = .ok (.aload_n 0, 1) := by decide +kernel
theorem dL_isStep_552 : decode cL_isStep 552 = .ok (.iload 5, 2) := by decide +kernel
theorem dL_isStep_554 : decode cL_isStep 554 = .ok (.invokestatic 62, 3) := by decide +kernel
theorem dL_isStep_557 : decode cL_isStep 557 = .ok (.ifCond .eq 33, 3) := by decide +kernel
theorem dL_isStep_560 : decode cL_isStep 560 = .ok (.aload_n 1, 1) := by decide +kernel
theorem dL_isStep_561 : decode cL_isStep 561 = .ok (.invokevirtual 66, 3) := by decide +kernel
theorem dL_isStep_564 : decode cL_isStep 564 = .ok (.ifCond .lt 26, 3) := by decide +kernel
theorem dL_isStep_567 : decode cL_isStep 567 = .ok (.aload_n 1, 1) := by decide +kernel
theorem dL_isStep_568 : decode cL_isStep 568 = .ok (.iload 5, 2) := by decide +kernel
theorem dL_isStep_570 : decode cL_isStep 570 = .ok (.invokestatic 69, 3) := by decide +kernel
theorem dL_isStep_573 : decode cL_isStep 573 = .ok (.invokestatic 72, 3) := by decide +kernel
theorem dL_isStep_576 : decode cL_isStep 576 = .ok (.ifCond .eq 14, 3) := by decide +kernel
theorem dL_isStep_579 : decode cL_isStep 579 = .ok (.aload_n 1, 1) := by decide +kernel
theorem dL_isStep_580 : decode cL_isStep 580 = .ok (.invokevirtual 75, 3) := by decide +kernel
theorem dL_isStep_583 : decode cL_isStep 583 = .ok (.ifCond .lt 7, 3) := by decide +kernel
theorem dL_isStep_586 : decode cL_isStep 586 = .ok (.iconst 1, 1) := by decide +kernel
theorem dL_isStep_587 : decode cL_isStep 587 = .ok (.goto 4, 3) := by decide +kernel
theorem dL_isStep_590 : decode cL_isStep 590 = .ok (.iconst 0, 1) := by decide +kernel
theorem dL_isStep_591 : decode cL_isStep 591 = .ok (.ireturn, 1) := by decide +kernel
set_option maxRecDepth 20000 in
theorem ggL_isRound_X3_count : GoodIn wsL_isRound wsX3_count := goodIn_r _ [6, 7, 8, 9, 10, 11, 12, 13, 14, 15, 16, 17, 18, 19, 20, 21, 22, 5, 23, 24, 25, 26, 27, 28, 29, 30, 31, 32, 33, 34, 35, 36, 37, 38, 39, 40, 157, 158, 159, 160, 161, 162, 163, 164, 165, 166, 167, 168, 169, 170, 171, 172, 173, 174, 175, 176, 177, 178] (by decide +kernel) (by decide +kernel)
set_option maxRecDepth 20000 in
theorem gL_isRound_X3_count : GoodIn wsL_isRound (wsV RL 21 RX3 yX3_count wsX3_count) := goodIn_app (goodIn_of _ (by decide +kernel)) ggL_isRound_X3_count
set_option maxRecDepth 20000 in
theorem ggL_isRound_X3_villager : GoodIn wsL_isRound wsX3_villager := goodIn_r _ [44, 45, 7, 14, 12, 46, 47, 13, 20, 48, 49, 5, 50, 51, 35, 36, 27, 37, 38, 52, 53, 54, 55, 33, 39, 40, 56, 57, 58, 59, 60, 157, 158, 159, 160, 161, 162, 163, 164, 165, 166, 167, 168, 169, 170, 171, 172, 173, 174] (by decide +kernel) (by decide +kernel)
set_option maxRecDepth 20000 in
theorem gL_isRound_X3_villager : GoodIn wsL_isRound (wsV RL 38 RX3 yX3_villager wsX3_villager) := goodIn_app (goodIn_of _ (by decide +kernel)) ggL_isRound_X3_villager
set_option maxRecDepth 20000 in
theorem ggL_isRound_X3_call : GoodIn wsL_isRound wsX3_call := goodIn_r _ [64, 20, 7, 9, 65, 18, 66, 67, 5, 68, 69, 70, 71, 72, 73, 74, 75, 76, 77, 78, 79, 80, 81, 82, 27, 83, 84, 38, 85, 86, 87, 88, 89, 90, 33, 91, 92, 93, 94, 95, 96, 97, 98, 99, 100, 101, 102, 103, 104, 105, 106, 107, 108, 109, 110, 111, 112, 113, 114, 115, 116, 117, 118, 119, 120, 121, 122, 34, 35, 36, 37, 123, 124, 125, 126, 127, 128, 129, 130, 131, 132, 133, 134, 39, 40, 135, 136, 137, 138, 139, 140, 141, 142, 157, 158, 159, 160, 161, 162, 163, 164, 165, 166, 167, 168, 169, 170, 171, 172, 173, 174, 177, 178] (by decide +kernel) (by decide +kernel)
set_option maxRecDepth 20000 in
theorem gL_isRound_X3_call : GoodIn wsL_isRound (wsV RL 78 RX3 yX3_call wsX3_call) := goodIn_app (goodIn_of _ (by decide +kernel)) ggL_isRound_X3_call
set_option maxRecDepth 20000 in
theorem ggL_isRound_X3_partner : GoodIn wsL_isRound wsX3_partner := goodIn_r _ [146, 45, 20, 147, 48, 49, 5, 50, 66, 67, 68, 148, 110, 111, 112, 113, 114, 115, 116, 117, 118] (by decide +kernel) (by decide +kernel)
set_option maxRecDepth 20000 in
theorem gL_isRound_X3_partner : GoodIn wsL_isRound (wsV RL 81 RX3 yX3_partner wsX3_partner) := goodIn_app (goodIn_of _ (by decide +kernel)) ggL_isRound_X3_partner
set_option maxRecDepth 20000 in
theorem ggL_isRound_X3_pair : GoodIn wsL_isRound wsX3_pair := goodIn_r _ [152, 45, 20, 7, 153, 11, 154, 155, 48, 49, 5, 50, 156, 39, 40, 112, 113, 114, 115, 116, 117, 118, 157, 158, 159, 160, 161, 162, 163, 164, 165, 166, 167, 168, 169, 170, 171, 172, 173, 174] (by decide +kernel) (by decide +kernel)
set_option maxRecDepth 20000 in
theorem gL_isRound_X3_pair : GoodIn wsL_isRound (wsV RL 28 RX3 yX3_pair wsX3_pair) := goodIn_app (goodIn_of _ (by decide +kernel)) ggL_isRound_X3_pair
theorem dL_isRound_0 : decode cL_isRound 0 = .ok (.bipush 9, 2) := by decide +kernel
theorem dL_isRound_2 : decode cL_isRound 2 = .ok (.newarray .int, 2) := by decide +kernel
theorem dL_isRound_4 : decode cL_isRound 4 = .ok (.astore_n 2, 1) := by decide +kernel
theorem dL_isRound_5 : decode cL_isRound 5 = .ok (.bipush 9, 2) := by decide +kernel
theorem dL_isRound_7 : decode cL_isRound 7 = .ok (.newarray .int, 2) := by decide +kernel
theorem dL_isRound_9 : decode cL_isRound 9 = .ok (.astore_n 3, 1) := by decide +kernel
theorem dL_isRound_10 : decode cL_isRound 10 = .ok (.bipush 9, 2) := by decide +kernel
theorem dL_isRound_12 : decode cL_isRound 12 = .ok (.newarray .int, 2) := by decide +kernel
theorem dL_isRound_14 : decode cL_isRound 14 = .ok (.astore 4, 2) := by decide +kernel
theorem dL_isRound_16 : decode cL_isRound 16 = .ok (.aload_n 0, 1) := by decide +kernel
theorem dL_isRound_17 : decode cL_isRound 17 = .ok (.iconst 0, 1) := by decide +kernel
theorem dL_isRound_18 : decode cL_isRound 18 = .ok (.invokevirtual 21, 3) := by decide +kernel
theorem dL_isRound_21 : decode cL_isRound 21 = .ok (.istore 5, 2) := by decide +kernel
theorem dL_isRound_23 : decode cL_isRound 23 = .ok (.aload_n 0, 1) := by decide +kernel
theorem dL_isRound_24 : decode cL_isRound 24 = .ok (.iconst 1, 1) := by decide +kernel
theorem dL_isRound_25 : decode cL_isRound 25 = .ok (.invokevirtual 21, 3) := by decide +kernel
theorem dL_isRound_28 : decode cL_isRound 28 = .ok (.istore 6, 2) := by decide +kernel
theorem dL_isRound_30 : decode cL_isRound 30 = .ok (.aload_n 0, 1) := by decide +kernel
theorem dL_isRound_31 : decode cL_isRound 31 = .ok (.iconst 5, 1) := by decide +kernel
theorem dL_isRound_32 : decode cL_isRound 32 = .ok (.invokevirtual 21, 3) := by decide +kernel
theorem dL_isRound_35 : decode cL_isRound 35 = .ok (.istore 7, 2) := by decide +kernel
theorem dL_isRound_37 : decode cL_isRound 37 = .ok (.aload_n 0, 1) := by decide +kernel
theorem dL_isRound_38 : decode cL_isRound 38 = .ok (.iconst 3, 1) := by decide +kernel
theorem dL_isRound_39 : decode cL_isRound 39 = .ok (.invokevirtual 21, 3) := by decide +kernel
theorem dL_isRound_42 : decode cL_isRound 42 = .ok (.istore 8, 2) := by decide +kernel
theorem dL_isRound_44 : decode cL_isRound 44 = .ok (.iconst 0, 1) := by decide +kernel
theorem dL_isRound_45 : decode cL_isRound 45 = .ok (.istore 9, 2) := by decide +kernel
theorem dL_isRound_47 : decode cL_isRound 47 = .ok (.iload 9, 2) := by decide +kernel
theorem dL_isRound_49 : decode cL_isRound 49 = .ok (.bipush 9, 2) := by decide +kernel
theorem dL_isRound_51 : decode cL_isRound 51 = .ok (.if_icmp .ge 43, 3) := by decide +kernel
theorem dL_isRound_54 : decode cL_isRound 54 = .ok (.aload_n 2, 1) := by decide +kernel
theorem dL_isRound_55 : decode cL_isRound 55 = .ok (.iload 9, 2) := by decide +kernel
theorem dL_isRound_57 : decode cL_isRound 57 = .ok (.aload_n 0, 1) := by decide +kernel
theorem dL_isRound_58 : decode cL_isRound 58 = .ok (.iload 9, 2) := by decide +kernel
theorem dL_isRound_60 : decode cL_isRound 60 = .ok (.iconst 1, 1) := by decide +kernel
theorem dL_isRound_61 : decode cL_isRound 61 = .ok (.invokevirtual 38, 3) := by decide +kernel
theorem dL_isRound_64 : decode cL_isRound 64 = .ok (.iastore, 1) := by decide +kernel
theorem dL_isRound_65 : decode cL_isRound 65 = .ok (.aload_n 3, 1) := by decide +kernel
theorem dL_isRound_66 : decode cL_isRound 66 = .ok (.iload 9, 2) := by decide +kernel
theorem dL_isRound_68 : decode cL_isRound 68 = .ok (.aload_n 0, 1) := by decide +kernel
theorem dL_isRound_69 : decode cL_isRound 69 = .ok (.iload 9, 2) := by decide +kernel
theorem dL_isRound_71 : decode cL_isRound 71 = .ok (.iconst 3, 1) := by decide +kernel
theorem dL_isRound_72 : decode cL_isRound 72 = .ok (.invokevirtual 38, 3) := by decide +kernel
theorem dL_isRound_75 : decode cL_isRound 75 = .ok (.iastore, 1) := by decide +kernel
theorem dL_isRound_76 : decode cL_isRound 76 = .ok (.aload 4, 2) := by decide +kernel
theorem dL_isRound_78 : decode cL_isRound 78 = .ok (.iload 9, 2) := by decide +kernel
theorem dL_isRound_80 : decode cL_isRound 80 = .ok (.aload_n 0, 1) := by decide +kernel
theorem dL_isRound_81 : decode cL_isRound 81 = .ok (.iload 9, 2) := by decide +kernel
theorem dL_isRound_83 : decode cL_isRound 83 = .ok (.iconst 4, 1) := by decide +kernel
theorem dL_isRound_84 : decode cL_isRound 84 = .ok (.invokevirtual 38, 3) := by decide +kernel
theorem dL_isRound_87 : decode cL_isRound 87 = .ok (.iastore, 1) := by decide +kernel
theorem dL_isRound_88 : decode cL_isRound 88 = .ok (.iinc 9 1, 3) := by decide +kernel
theorem dL_isRound_91 : decode cL_isRound 91 = .ok (.goto (-44), 3) := by decide +kernel
theorem dL_isRound_94 : decode cL_isRound 94 = .ok (.aload_n 0, 1) := by decide +kernel
theorem dL_isRound_95 : decode cL_isRound 95 = .ok (.iload_n 1, 1) := by decide +kernel
theorem dL_isRound_96 : decode cL_isRound 96 = .ok (.invokevirtual 78, 3) := by decide +kernel
theorem dL_isRound_99 : decode cL_isRound 99 = .ok (.istore 9, 2) := by decide +kernel
theorem dL_isRound_101 : decode cL_isRound 101 = .ok (.iconst 0, 1) := by decide +kernel
theorem dL_isRound_102 : decode cL_isRound 102 = .ok (.istore 10, 2) := by decide +kernel
theorem dL_isRound_104 : decode cL_isRound 104 = .ok (.aload_n 0, 1) := by decide +kernel
theorem dL_isRound_105 : decode cL_isRound 105 = .ok (.iconst 5, 1) := by decide +kernel
theorem dL_isRound_106 : decode cL_isRound 106 = .ok (.invokevirtual 21, 3) := by decide +kernel
theorem dL_isRound_109 : decode cL_isRound 109 = .ok (.iload 7, 2) := by decide +kernel
theorem dL_isRound_111 : decode cL_isRound 111 = .ok (.iload 9, 2) := by decide +kernel
theorem dL_isRound_113 : decode cL_isRound 113 = .ok (.iadd, 1) := by decide +kernel
theorem dL_isRound_114 : decode cL_isRound 114 = .ok (.if_icmp .ne 35, 3) := by decide +kernel
theorem dL_isRound_117 : decode cL_isRound 117 = .ok (.aload_n 0, 1) := by decide +kernel
theorem dL_isRound_118 : decode cL_isRound 118 = .ok (.iconst 3, 1) := by decide +kernel
theorem dL_isRound_119 : decode cL_isRound 119 = .ok (.invokevirtual 21, 3) := by decide +kernel
theorem dL_isRound_122 : decode cL_isRound 122 = .ok (.iload 8, 2) := by decide +kernel
theorem dL_isRound_124 : decode cL_isRound 124 = .ok (.iconst 1, 1) := by decide +kernel
theorem dL_isRound_125 : decode cL_isRound 125 = .ok (.iadd, 1) := by decide +kernel
theorem dL_isRound_126 : decode cL_isRound 126 = .ok (.if_icmp .ne 23, 3) := by decide +kernel
theorem dL_isRound_129 : decode cL_isRound 129 = .ok (.aload_n 0, 1) := by decide +kernel
theorem dL_isRound_130 : decode cL_isRound 130 = .ok (.bipush 10, 2) := by decide +kernel
theorem dL_isRound_132 : decode cL_isRound 132 = .ok (.invokevirtual 21, 3) := by decide +kernel
theorem dL_isRound_135 : decode cL_isRound 135 = .ok (.iload_n 1, 1) := by decide +kernel
theorem dL_isRound_136 : decode cL_isRound 136 = .ok (.if_icmp .ne 13, 3) := by decide +kernel
theorem dL_isRound_139 : decode cL_isRound 139 = .ok (.iload 9, 2) := by decide +kernel
theorem dL_isRound_141 : decode cL_isRound 141 = .ok (.iconst 4, 1) := by decide +kernel
theorem dL_isRound_142 : decode cL_isRound 142 = .ok (.if_icmp .gt 7, 3) := by decide +kernel
theorem dL_isRound_145 : decode cL_isRound 145 = .ok (.iconst 1, 1) := by decide +kernel
theorem dL_isRound_146 : decode cL_isRound 146 = .ok (.goto 4, 3) := by decide +kernel
theorem dL_isRound_149 : decode cL_isRound 149 = .ok (.iconst 0, 1) := by decide +kernel
theorem dL_isRound_150 : decode cL_isRound 150 = .ok (.istore 11, 2) := by decide +kernel
theorem dL_isRound_152 : decode cL_isRound 152 = .ok (.iconst 0, 1) := by decide +kernel
theorem dL_isRound_153 : decode cL_isRound 153 = .ok (.istore 12, 2) := by decide +kernel
theorem dL_isRound_155 : decode cL_isRound 155 = .ok (.iload 12, 2) := by decide +kernel
theorem dL_isRound_157 : decode cL_isRound 157 = .ok (.bipush 9, 2) := by decide +kernel
theorem dL_isRound_159 : decode cL_isRound 159 = .ok (.if_icmp .ge 261, 3) := by decide +kernel
theorem dL_isRound_162 : decode cL_isRound 162 = .ok (.aload_n 0, 1) := by decide +kernel
theorem dL_isRound_163 : decode cL_isRound 163 = .ok (.iload 12, 2) := by decide +kernel
theorem dL_isRound_165 : decode cL_isRound 165 = .ok (.iload_n 1, 1) := by decide +kernel
theorem dL_isRound_166 : decode cL_isRound 166 = .ok (.invokevirtual 81, 3) := by decide +kernel
theorem dL_isRound_169 : decode cL_isRound 169 = .ok (.istore 13, 2) := by decide +kernel
theorem dL_isRound_171 : decode cL_isRound 171 = .ok (.iload 13, 2) := by decide +kernel
theorem dL_isRound_173 : decode cL_isRound 173 = .ok (.ifCond .lt 47, 3) := by decide +kernel
theorem dL_isRound_176 : decode cL_isRound 176 = .ok (.aload_n 0, 1) := by decide +kernel
theorem dL_isRound_177 : decode cL_isRound 177 = .ok (.iload 12, 2) := by decide +kernel
theorem dL_isRound_179 : decode cL_isRound 179 = .ok (.iconst 0, 1) := by decide +kernel
theorem dL_isRound_180 : decode cL_isRound 180 = .ok (.invokevirtual 38, 3) := by decide +kernel
theorem dL_isRound_183 : decode cL_isRound 183 = .ok (.iconst 1, 1) := by decide +kernel
theorem dL_isRound_184 : decode cL_isRound 184 = .ok (.if_icmp .ne 36, 3) := by decide +kernel
theorem dL_isRound_187 : decode cL_isRound 187 = .ok (.aload_n 0, 1) := by decide +kernel
theorem dL_isRound_188 : decode cL_isRound 188 = .ok (.iload 13, 2) := by decide +kernel
theorem dL_isRound_190 : decode cL_isRound 190 = .ok (.iconst 0, 1) := by decide +kernel
theorem dL_isRound_191 : decode cL_isRound 191 = .ok (.invokevirtual 38, 3) := by decide +kernel
theorem dL_isRound_194 : decode cL_isRound 194 = .ok (.iconst 1, 1) := by decide +kernel
theorem dL_isRound_195 : decode cL_isRound 195 = .ok (.if_icmp .ne 25, 3) := by decide +kernel
theorem dL_isRound_198 : decode cL_isRound 198 = .ok (.aload_n 2, 1) := by decide +kernel
theorem dL_isRound_199 : decode cL_isRound 199 = .ok (.iload 12, 2) := by decide +kernel
theorem dL_isRound_201 : decode cL_isRound 201 = .ok (.iaload, 1) := by decide +kernel
theorem dL_isRound_202 : decode cL_isRound 202 = .ok (.iload 5, 2) := by decide +kernel
theorem dL_isRound_204 : decode cL_isRound 204 = .ok (.if_icmp .lt 16, 3) := by decide +kernel
theorem dL_isRound_207 : decode cL_isRound 207 = .ok (.aload_n 2, 1) := by decide +kernel
theorem dL_isRound_208 : decode cL_isRound 208 = .ok (.iload 13, 2) := by decide +kernel
theorem dL_isRound_210 : decode cL_isRound 210 = .ok (.iaload, 1) := by decide +kernel
theorem dL_isRound_211 : decode cL_isRound 211 = .ok (.iload 5, 2) := by decide +kernel
theorem dL_isRound_213 : decode cL_isRound 213 = .ok (.if_icmp .lt 7, 3) := by decide +kernel
theorem dL_isRound_216 : decode cL_isRound 216 = .ok (.iconst 1, 1) := by decide +kernel
theorem dL_isRound_217 : decode cL_isRound 217 = .ok (.goto 4, 3) := by decide +kernel
theorem dL_isRound_220 : decode cL_isRound 220 = .ok (.iconst 0, 1) := by decide +kernel
theorem dL_isRound_221 : decode cL_isRound 221 = .ok (.istore 14, 2) := by decide +kernel
theorem dL_isRound_223 : decode cL_isRound 223 = .ok (.aload_n 2, 1) := by decide +kernel
theorem dL_isRound_224 : decode cL_isRound 224 = .ok (.iload 12, 2) := by decide +kernel
theorem dL_isRound_226 : decode cL_isRound 226 = .ok (.iaload, 1) := by decide +kernel
theorem dL_isRound_227 : decode cL_isRound 227 = .ok (.iload 6, 2) := by decide +kernel
theorem dL_isRound_229 : decode cL_isRound 229 = .ok (.iadd, 1) := by decide +kernel
theorem dL_isRound_230 : decode cL_isRound 230 = .ok (.bipush 20, 2) := by decide +kernel
theorem dL_isRound_232 : decode cL_isRound 232 = .ok (.if_icmp .le 8, 3) := by decide +kernel
theorem dL_isRound_235 : decode cL_isRound 235 = .ok (.bipush 20, 2) := by decide +kernel
theorem dL_isRound_237 : decode cL_isRound 237 = .ok (.goto 10, 3) := by decide +kernel
theorem dL_isRound_240 : decode cL_isRound 240 = .ok (.aload_n 2, 1) := by decide +kernel
theorem dL_isRound_241 : decode cL_isRound 241 = .ok (.iload 12, 2) := by decide +kernel
theorem dL_isRound_243 : decode cL_isRound 243 = .ok (.iaload, 1) := by decide +kernel
theorem dL_isRound_244 : decode cL_isRound 244 = .ok (.iload 6, 2) := by decide +kernel
theorem dL_isRound_246 : decode cL_isRound 246 = .ok (.iadd, 1) := by decide +kernel
theorem dL_isRound_247 : decode cL_isRound 247 = .ok (.istore 15, 2) := by decide +kernel
theorem dL_isRound_249 : decode cL_isRound 249 = .ok (.iload 10, 2) := by decide +kernel
theorem dL_isRound_251 : decode cL_isRound 251 = .ok (.iload 14, 2) := by decide +kernel
theorem dL_isRound_253 : decode cL_isRound 253 = .ok (.ifCond .eq 7, 3) := by decide +kernel
theorem dL_isRound_256 : decode cL_isRound 256 = .ok (.iconst 1, 1) := by decide +kernel
theorem dL_isRound_257 : decode cL_isRound 257 = .ok (.goto 4, 3) := by decide +kernel
theorem dL_isRound_260 : decode cL_isRound 260 = .ok (.iconst 0, 1) := by decide +kernel
theorem dL_isRound_261 : decode cL_isRound 261 = .ok (.iadd, 1) := by decide +kernel
theorem dL_isRound_262 : decode cL_isRound 262 = .ok (.istore 10, 2) := by decide +kernel
theorem dL_isRound_264 : decode cL_isRound 264 = .ok (.iload 11, 2) := by decide +kernel
theorem dL_isRound_266 : decode cL_isRound 266 = .ok (.ifCond .eq 114, 3) := by decide +kernel
theorem dL_isRound_269 : decode cL_isRound 269 = .ok (.aload_n 0, 1) := by decide +kernel
theorem dL_isRound_270 : decode cL_isRound 270 = .ok (.iload 12, 2) := by decide +kernel
theorem dL_isRound_272 : decode cL_isRound 272 = .ok (.iconst 3, 1) := by decide +kernel
theorem dL_isRound_273 : decode cL_isRound 273 = .ok (.invokevirtual 38, 3) := by decide +kernel
theorem dL_isRound_276 : decode cL_isRound 276 = .ok (.aload_n 3, 1) := by decide +kernel
theorem dL_isRound_277 : decode cL_isRound 277 = .ok (.iload 12, 2) := by decide +kernel
theorem dL_isRound_279 : decode cL_isRound 279 = .ok (.iaload, 1) := by decide +kernel
theorem dL_isRound_280 : decode cL_isRound 280 = .ok (.iload 14, 2) := by decide +kernel
theorem dL_isRound_282 : decode cL_isRound 282 = .ok (.ifCond .eq 7, 3) := by decide +kernel
theorem dL_isRound_285 : decode cL_isRound 285 = .ok (.iconst 1, 1) := by decide +kernel
theorem dL_isRound_286 : decode cL_isRound 286 = .ok (.goto 4, 3) := by decide +kernel
theorem dL_isRound_289 : decode cL_isRound 289 = .ok (.iconst 0, 1) := by decide +kernel
theorem dL_isRound_290 : decode cL_isRound 290 = .ok (.iadd, 1) := by decide +kernel
theorem dL_isRound_291 : decode cL_isRound 291 = .ok (.if_icmp .ne 89, 3) := by decide +kernel
theorem dL_isRound_294 : decode cL_isRound 294 = .ok (.aload_n 0, 1) := by decide +kernel
theorem dL_isRound_295 : decode cL_isRound 295 = .ok (.iload 12, 2) := by decide +kernel
theorem dL_isRound_297 : decode cL_isRound 297 = .ok (.iconst 4, 1) := by decide +kernel
theorem dL_isRound_298 : decode cL_isRound 298 = .ok (.invokevirtual 38, 3) := by decide +kernel
theorem dL_isRound_301 : decode cL_isRound 301 = .ok (.aload 4, 2) := by decide +kernel
theorem dL_isRound_303 : decode cL_isRound 303 = .ok (.iload 12, 2) := by decide +kernel
theorem dL_isRound_305 : decode cL_isRound 305 = .ok (.iaload, 1) := by decide +kernel
theorem dL_isRound_306 : decode cL_isRound 306 = .ok (.iload 14, 2) := by decide +kernel
theorem dL_isRound_308 : decode cL_isRound 308 = .ok (.ifCond .ne 18, 3) := by decide +kernel
theorem dL_isRound_311 : decode cL_isRound 311 = .ok (.aload_n 0, 1) := by decide +kernel
theorem dL_isRound_312 : decode cL_isRound 312 = .ok (.iload 12, 2) := by decide +kernel
theorem dL_isRound_314 : decode cL_isRound 314 = .ok (.iconst 0, 1) := by decide +kernel
theorem dL_isRound_315 : decode cL_isRound 315 = .ok (.invokevirtual 38, 3) := by decide +kernel
theorem dL_isRound_318 : decode cL_isRound 318 = .ok (.iconst 1, 1) := by decide +kernel
theorem dL_isRound_319 : decode cL_isRound 319 = .ok (.if_icmp .ne 7, 3) := by decide +kernel
theorem dL_isRound_322 : decode cL_isRound 322 = .ok (.iconst 1, 1) := by decide +kernel
theorem dL_isRound_323 : decode cL_isRound 323 = .ok (.goto 4, 3) := by decide +kernel
theorem dL_isRound_326 : decode cL_isRound 326 = .ok (.iconst 0, 1) := by decide +kernel
theorem dL_isRound_327 : decode cL_isRound 327 = .ok (.iadd, 1) := by decide +kernel
theorem dL_isRound_328 : decode cL_isRound 328 = .ok (.if_icmp .ne 52, 3) := by decide +kernel
theorem dL_isRound_331 : decode cL_isRound 331 = .ok (.aload_n 0, 1) := by decide +kernel
theorem dL_isRound_332 : decode cL_isRound 332 = .ok (.iload 12, 2) := by decide +kernel
theorem dL_isRound_334 : decode cL_isRound 334 = .ok (.iconst 1, 1) := by decide +kernel
theorem dL_isRound_335 : decode cL_isRound 335 = .ok (.invokevirtual 38, 3) := by decide +kernel
theorem dL_isRound_338 : decode cL_isRound 338 = .ok (.iload 14, 2) := by decide +kernel
theorem dL_isRound_340 : decode cL_isRound 340 = .ok (.ifCond .eq 13, 3) := by decide +kernel
theorem dL_isRound_343 : decode cL_isRound 343 = .ok (.aload_n 2, 1) := by decide +kernel
theorem dL_isRound_344 : decode cL_isRound 344 = .ok (.iload 12, 2) := by decide +kernel
theorem dL_isRound_346 : decode cL_isRound 346 = .ok (.iaload, 1) := by decide +kernel
theorem dL_isRound_347 : decode cL_isRound 347 = .ok (.iload 5, 2) := by decide +kernel
theorem dL_isRound_349 : decode cL_isRound 349 = .ok (.isub, 1) := by decide +kernel
theorem dL_isRound_350 : decode cL_isRound 350 = .ok (.goto 23, 3) := by decide +kernel
theorem dL_isRound_353 : decode cL_isRound 353 = .ok (.aload_n 0, 1) := by decide +kernel
theorem dL_isRound_354 : decode cL_isRound 354 = .ok (.iload 12, 2) := by decide +kernel
theorem dL_isRound_356 : decode cL_isRound 356 = .ok (.iconst 0, 1) := by decide +kernel
theorem dL_isRound_357 : decode cL_isRound 357 = .ok (.invokevirtual 38, 3) := by decide +kernel
theorem dL_isRound_360 : decode cL_isRound 360 = .ok (.iconst 1, 1) := by decide +kernel
theorem dL_isRound_361 : decode cL_isRound 361 = .ok (.if_icmp .ne 8, 3) := by decide +kernel
theorem dL_isRound_364 : decode cL_isRound 364 = .ok (.iload 15, 2) := by decide +kernel
theorem dL_isRound_366 : decode cL_isRound 366 = .ok (.goto 7, 3) := by decide +kernel
theorem dL_isRound_369 : decode cL_isRound 369 = .ok (.aload_n 2, 1) := by decide +kernel
theorem dL_isRound_370 : decode cL_isRound 370 = .ok (.iload 12, 2) := by decide +kernel
theorem dL_isRound_372 : decode cL_isRound 372 = .ok (.iaload, 1) := by decide +kernel
theorem dL_isRound_373 : decode cL_isRound 373 = .ok (.if_icmp .ne 7, 3) := by decide +kernel
theorem dL_isRound_376 : decode cL_isRound 376 = .ok (.iconst 1, 1) := by decide +kernel
theorem dL_isRound_377 : decode cL_isRound 377 = .ok (.goto 4, 3) := by decide +kernel
theorem dL_isRound_380 : decode cL_isRound 380 = .ok (.iconst 0, 1) := by decide +kernel
theorem dL_isRound_381 : decode cL_isRound 381 = .ok (.istore 11, 2) := by decide +kernel
theorem dL_isRound_383 : decode cL_isRound 383 = .ok (.iload 11, 2) := by decide +kernel
theorem dL_isRound_385 : decode cL_isRound 385 = .ok (.ifCond .eq 26, 3) := by decide +kernel
theorem dL_isRound_388 : decode cL_isRound 388 = .ok (.iload 14, 2) := by decide +kernel
theorem dL_isRound_390 : decode cL_isRound 390 = .ok (.ifCond .eq 17, 3) := by decide +kernel
theorem dL_isRound_393 : decode cL_isRound 393 = .ok (.aload_n 0, 1) := by decide +kernel
theorem dL_isRound_394 : decode cL_isRound 394 = .ok (.iload 12, 2) := by decide +kernel
theorem dL_isRound_396 : decode cL_isRound 396 = .ok (.iload 13, 2) := by decide +kernel
theorem dL_isRound_398 : decode cL_isRound 398 = .ok (.iconst 4, 1) := by decide +kernel
theorem dL_isRound_399 : decode cL_isRound 399 = .ok (.invokevirtual 28, 3) := by decide +kernel
theorem dL_isRound_402 : decode cL_isRound 402 = .ok (.iload 8, 2) := by decide +kernel
theorem dL_isRound_404 : decode cL_isRound 404 = .ok (.if_icmp .ne 7, 3) := by decide +kernel
theorem dL_isRound_407 : decode cL_isRound 407 = .ok (.iconst 1, 1) := by decide +kernel
theorem dL_isRound_408 : decode cL_isRound 408 = .ok (.goto 4, 3) := by decide +kernel
theorem dL_isRound_411 : decode cL_isRound 411 = .ok (.iconst 0, 1) := by decide +kernel
theorem dL_isRound_412 : decode cL_isRound 412 = .ok (.istore 11, 2) := by decide +kernel
theorem dL_isRound_414 : decode cL_isRound 414 = .ok (.iinc 12 1, 3) := by decide +kernel
theorem dL_isRound_417 : decode cL_isRound 417 = .ok (.goto (-262), 3) := by decide +kernel
theorem dL_isRound_420 : decode cL_isRound 420 = .ok (.iload 11, 2) := by decide +kernel
theorem dL_isRound_422 : decode cL_isRound 422 = .ok (.ifCond .eq 16, 3) := by decide +kernel
theorem dL_isRound_425 : decode cL_isRound 425 = .ok (.iload 10, 2) := by decide +kernel
theorem dL_isRound_427 : decode cL_isRound 427 = .ok (.iconst 2, 1) := by decide +kernel
theorem dL_isRound_428 : decode cL_isRound 428 = .ok (.iload 9, 2) := by decide +kernel
theorem dL_isRound_430 : decode cL_isRound 430 = .ok (.imul, 1) := by decide +kernel
theorem dL_isRound_431 : decode cL_isRound 431 = .ok (.if_icmp .ne 7, 3) := by decide +kernel
theorem dL_isRound_434 : decode cL_isRound 434 = .ok (.iconst 1, 1) := by decide +kernel
theorem dL_isRound_435 : decode cL_isRound 435 = .ok (.goto 4, 3) := by decide +kernel
theorem dL_isRound_438 : decode cL_isRound 438 = .ok (.iconst 0, 1) := by decide +kernel
theorem dL_isRound_439 : decode cL_isRound 439 = .ok (.ireturn, 1) := by decide +kernel
set_option maxRecDepth 20000 in
theorem ggL_areAlike_L_up : GoodIn wsL_areAlike wsL_up := goodIn_r _ [4, 5] (by decide +kernel) (by decide +kernel)
set_option maxRecDepth 20000 in
theorem gL_areAlike_L_up : GoodIn wsL_areAlike (va_wsS RL 15 yL_up wsL_up) := goodIn_app (goodIn_of _ (by decide +kernel)) ggL_areAlike_L_up
set_option maxRecDepth 20000 in
theorem ggL_areAlike_X3_bestCall : GoodIn wsL_areAlike wsX3_bestCall := goodIn_r _ [10, 11, 12, 13, 14, 15, 16, 17, 18, 9, 19, 20, 21, 22, 23, 24, 25, 26, 27, 28, 29, 30, 31, 32, 33, 34, 35, 36, 37, 38, 39, 40, 41, 42, 43, 44, 45, 46, 47, 48, 49, 50, 51, 52, 53, 54, 55, 56, 150, 151, 152, 153, 154, 155, 156, 157, 158, 159, 160, 161, 162, 163, 164, 165, 166, 167] (by decide +kernel) (by decide +kernel)
set_option maxRecDepth 20000 in
theorem gL_areAlike_X3_bestCall : GoodIn wsL_areAlike (wsV RL 84 RX3 yX3_bestCall wsX3_bestCall) := goodIn_app (goodIn_of _ (by decide +kernel)) ggL_areAlike_X3_bestCall
set_option maxRecDepth 20000 in
theorem ggL_areAlike_X3_fewestRounds : GoodIn wsL_areAlike wsX3_fewestRounds := goodIn_r _ [60, 12, 11, 61, 62, 63, 16, 64, 65, 66, 67, 68, 18, 9, 19, 20, 21, 22, 23, 24, 25, 26, 69, 70, 71, 72, 32, 39, 40, 41, 42, 31, 55, 56, 73, 74, 75, 76, 43, 44, 45, 46, 47, 48, 49, 150, 151, 152, 153, 154, 155, 156, 157, 158, 159, 160, 161, 162, 163, 164, 165, 166, 167] (by decide +kernel) (by decide +kernel)
set_option maxRecDepth 20000 in
theorem gL_areAlike_X3_fewestRounds : GoodIn wsL_areAlike (wsV RL 87 RX3 yX3_fewestRounds wsX3_fewestRounds) := goodIn_app (goodIn_of _ (by decide +kernel)) ggL_areAlike_X3_fewestRounds
set_option maxRecDepth 20000 in
theorem ggL_areAlike_X3_count : GoodIn wsL_areAlike wsX3_count := goodIn_r _ [80, 12, 81, 82, 83, 84, 85, 86, 87, 88, 89, 90, 91, 92, 11, 93, 94, 9, 95, 96, 97, 98, 16, 99, 69, 70, 71, 72, 32, 39, 40, 41, 42, 31, 55, 56, 150, 151, 152, 153, 154, 155, 156, 157, 158, 159, 160, 161, 162, 163, 164, 165, 166, 167, 168, 169, 170, 171] (by decide +kernel) (by decide +kernel)
set_option maxRecDepth 20000 in
theorem gL_areAlike_X3_count : GoodIn wsL_areAlike (wsV RL 21 RX3 yX3_count wsX3_count) := goodIn_app (goodIn_of _ (by decide +kernel)) ggL_areAlike_X3_count
set_option maxRecDepth 20000 in
theorem ggL_areAlike_L_bits : GoodIn wsL_areAlike wsL_bits := goodIn_r _ [102] (by decide +kernel) (by decide +kernel)
set_option maxRecDepth 20000 in
theorem gL_areAlike_L_bits : GoodIn wsL_areAlike (va_wsS RL 46 yL_bits wsL_bits) := goodIn_app (goodIn_of _ (by decide +kernel)) ggL_areAlike_L_bits
set_option maxRecDepth 20000 in
theorem ggL_areAlike_X3_ifCalled : GoodIn wsL_areAlike wsX3_ifCalled := goodIn_r _ [106, 11, 12, 107, 108, 9, 109, 13, 14, 15, 16, 17, 18, 19, 20, 21, 22, 23, 24, 25, 26, 27, 28, 29, 30, 31, 32, 33, 34, 35, 36, 37, 38, 39, 40, 41, 42, 43, 44, 45, 46, 47, 48, 49, 50, 51, 52, 53, 54, 55, 56, 150, 151, 152, 153, 154, 155, 156, 157, 158, 159, 160, 161, 162, 163, 164, 165, 166, 167] (by decide +kernel) (by decide +kernel)
set_option maxRecDepth 20000 in
theorem gL_areAlike_X3_ifCalled : GoodIn wsL_areAlike (wsV RL 90 RX3 yX3_ifCalled wsX3_ifCalled) := goodIn_app (goodIn_of _ (by decide +kernel)) ggL_areAlike_X3_ifCalled
set_option maxRecDepth 20000 in
theorem ggL_areAlike_L_twice : GoodIn wsL_areAlike wsL_twice := goodIn_r _ [112] (by decide +kernel) (by decide +kernel)
set_option maxRecDepth 20000 in
theorem gL_areAlike_L_twice : GoodIn wsL_areAlike (va_wsS RL 69 yL_twice wsL_twice) := goodIn_app (goodIn_of _ (by decide +kernel)) ggL_areAlike_L_twice
set_option maxRecDepth 20000 in
theorem ggL_areAlike_X3_partner : GoodIn wsL_areAlike wsX3_partner := goodIn_r _ [116, 117, 11, 118, 119, 120, 9, 121, 107, 108, 109, 122, 18, 19, 20, 21, 22, 23, 24, 25, 26] (by decide +kernel) (by decide +kernel)
set_option maxRecDepth 20000 in
theorem gL_areAlike_X3_partner : GoodIn wsL_areAlike (wsV RL 81 RX3 yX3_partner wsX3_partner) := goodIn_app (goodIn_of _ (by decide +kernel)) ggL_areAlike_X3_partner
set_option maxRecDepth 20000 in
theorem ggL_areAlike_L_there : GoodIn wsL_areAlike wsL_there := goodIn_r _ [125] (by decide +kernel) (by decide +kernel)
set_option maxRecDepth 20000 in
theorem gL_areAlike_L_there : GoodIn wsL_areAlike (va_wsS RL 35 yL_there wsL_there) := goodIn_app (goodIn_of _ (by decide +kernel)) ggL_areAlike_L_there
set_option maxRecDepth 20000 in
theorem ggL_areAlike_X3_villager : GoodIn wsL_areAlike wsX3_villager := goodIn_r _ [129, 117, 12, 87, 85, 130, 131, 86, 11, 119, 120, 9, 121, 132, 40, 41, 16, 42, 31, 133, 134, 135, 136, 32, 55, 56, 137, 138, 139, 140, 141, 150, 151, 152, 153, 154, 155, 156, 157, 158, 159, 160, 161, 162, 163, 164, 165, 166, 167] (by decide +kernel) (by decide +kernel)
set_option maxRecDepth 20000 in
theorem gL_areAlike_X3_villager : GoodIn wsL_areAlike (wsV RL 38 RX3 yX3_villager wsX3_villager) := goodIn_app (goodIn_of _ (by decide +kernel)) ggL_areAlike_X3_villager
set_option maxRecDepth 20000 in
theorem ggL_areAlike_X3_pair : GoodIn wsL_areAlike wsX3_pair := goodIn_r _ [145, 117, 11, 12, 146, 84, 147, 148, 119, 120, 9, 121, 149, 55, 56, 20, 21, 22, 23, 24, 25, 26, 150, 151, 152, 153, 154, 155, 156, 157, 158, 159, 160, 161, 162, 163, 164, 165, 166, 167] (by decide +kernel) (by decide +kernel)
set_option maxRecDepth 20000 in
theorem gL_areAlike_X3_pair : GoodIn wsL_areAlike (wsV RL 28 RX3 yX3_pair wsX3_pair) := goodIn_app (goodIn_of _ (by decide +kernel)) ggL_areAlike_X3_pair
theorem dL_areAlike_0 : decode cL_areAlike 0 = .ok (.iload_n 2, 1) := by decide +kernel
theorem dL_areAlike_1 : decode cL_areAlike 1 = .ok (.sipush 1000, 3) := by decide +kernel
theorem dL_areAlike_4 : decode cL_areAlike 4 = .ok (.invokestatic 15, 3) := by decide +kernel
theorem dL_areAlike_7 : decode cL_areAlike 7 = .ok (.istore_n 3, 1) := by decide +kernel
theorem dL_areAlike_8 : decode cL_areAlike 8 = .ok (.aload_n 0, 1) := by decide +kernel
theorem dL_areAlike_9 : decode cL_areAlike 9 = .ok (.iconst 1, 1) := by decide +kernel
theorem dL_areAlike_10 : decode cL_areAlike 10 = .ok (.invokevirtual 84, 3) := by decide +kernel
theorem dL_areAlike_13 : decode cL_areAlike 13 = .ok (.aload_n 1, 1) := by decide +kernel
theorem dL_areAlike_14 : decode cL_areAlike 14 = .ok (.iconst 1, 1) := by decide +kernel
theorem dL_areAlike_15 : decode cL_areAlike 15 = .ok (.invokevirtual 84, 3) := by decide +kernel
theorem dL_areAlike_18 : decode cL_areAlike 18 = .ok (.if_icmp .ne 33, 3) := by decide +kernel
theorem dL_areAlike_21 : decode cL_areAlike 21 = .ok (.aload_n 0, 1) := by decide +kernel
theorem dL_areAlike_22 : decode cL_areAlike 22 = .ok (.iconst 0, 1) := by decide +kernel
theorem dL_areAlike_23 : decode cL_areAlike 23 = .ok (.invokevirtual 87, 3) := by decide +kernel
theorem dL_areAlike_26 : decode cL_areAlike 26 = .ok (.aload_n 1, 1) := by decide +kernel
theorem dL_areAlike_27 : decode cL_areAlike 27 = .ok (.iconst 0, 1) := by decide +kernel
theorem dL_areAlike_28 : decode cL_areAlike 28 = .ok (.invokevirtual 87, 3) := by decide +kernel
theorem dL_areAlike_31 : decode cL_areAlike 31 = .ok (.if_icmp .ne 20, 3) := by decide +kernel
theorem dL_areAlike_34 : decode cL_areAlike 34 = .ok (.aload_n 0, 1) := by decide +kernel
theorem dL_areAlike_35 : decode cL_areAlike 35 = .ok (.iconst 1, 1) := by decide +kernel
theorem dL_areAlike_36 : decode cL_areAlike 36 = .ok (.invokevirtual 87, 3) := by decide +kernel
theorem dL_areAlike_39 : decode cL_areAlike 39 = .ok (.aload_n 1, 1) := by decide +kernel
theorem dL_areAlike_40 : decode cL_areAlike 40 = .ok (.iconst 1, 1) := by decide +kernel
theorem dL_areAlike_41 : decode cL_areAlike 41 = .ok (.invokevirtual 87, 3) := by decide +kernel
theorem dL_areAlike_44 : decode cL_areAlike 44 = .ok (.if_icmp .ne 7, 3) := by decide +kernel
theorem dL_areAlike_47 : decode cL_areAlike 47 = .ok (.iconst 1, 1) := by decide +kernel
theorem dL_areAlike_48 : decode cL_areAlike 48 = .ok (.goto 4, 3) := by decide +kernel
theorem dL_areAlike_51 : decode cL_areAlike 51 = .ok (.iconst 0, 1) := by decide +kernel
theorem dL_areAlike_52 : decode cL_areAlike 52 = .ok (.istore 4, 2) := by decide +kernel
theorem dL_areAlike_54 : decode cL_areAlike 54 = .ok (.iconst 0, 1) := by decide +kernel
theorem dL_areAlike_55 : decode cL_areAlike 55 = .ok (.istore 5, 2) := by decide +kernel
theorem dL_areAlike_57 : decode cL_areAlike 57 = .ok (.iload 5, 2) := by decide +kernel
theorem dL_areAlike_59 : decode cL_areAlike 59 = .ok (.bipush 10, 2) := by decide +kernel
theorem dL_areAlike_61 : decode cL_areAlike 61 = .ok (.if_icmp .ge 64, 3) := by decide +kernel
theorem dL_areAlike_64 : decode cL_areAlike 64 = .ok (.iload 4, 2) := by decide +kernel
theorem dL_areAlike_66 : decode cL_areAlike 66 = .ok (.ifCond .eq 50, 3) := by decide +kernel
theorem dL_areAlike_69 : decode cL_areAlike 69 = .ok (.iload 5, 2) := by decide +kernel
theorem dL_areAlike_71 : decode cL_areAlike 71 = .ok (.iconst 4, 1) := by decide +kernel
theorem dL_areAlike_72 : decode cL_areAlike 72 = .ok (.if_icmp .ne 25, 3) := by decide +kernel
theorem dL_areAlike_75 : decode cL_areAlike 75 = .ok (.aload_n 0, 1) := by decide +kernel
theorem dL_areAlike_76 : decode cL_areAlike 76 = .ok (.iconst 4, 1) := by decide +kernel
theorem dL_areAlike_77 : decode cL_areAlike 77 = .ok (.invokevirtual 21, 3) := by decide +kernel
theorem dL_areAlike_80 : decode cL_areAlike 80 = .ok (.invokestatic 46, 3) := by decide +kernel
theorem dL_areAlike_83 : decode cL_areAlike 83 = .ok (.aload_n 1, 1) := by decide +kernel
theorem dL_areAlike_84 : decode cL_areAlike 84 = .ok (.iconst 4, 1) := by decide +kernel
theorem dL_areAlike_85 : decode cL_areAlike 85 = .ok (.invokevirtual 21, 3) := by decide +kernel
theorem dL_areAlike_88 : decode cL_areAlike 88 = .ok (.invokestatic 46, 3) := by decide +kernel
theorem dL_areAlike_91 : decode cL_areAlike 91 = .ok (.if_icmp .ne 25, 3) := by decide +kernel
theorem dL_areAlike_94 : decode cL_areAlike 94 = .ok (.goto 18, 3) := by decide +kernel
theorem dL_areAlike_97 : decode cL_areAlike 97 = .ok (.aload_n 0, 1) := by decide +kernel
theorem dL_areAlike_98 : decode cL_areAlike 98 = .ok (.iload 5, 2) := by decide +kernel
theorem dL_areAlike_100 : decode cL_areAlike 100 = .ok (.invokevirtual 21, 3) := by decide +kernel
theorem dL_areAlike_103 : decode cL_areAlike 103 = .ok (.aload_n 1, 1) := by decide +kernel
theorem dL_areAlike_104 : decode cL_areAlike 104 = .ok (.iload 5, 2) := by decide +kernel
theorem dL_areAlike_106 : decode cL_areAlike 106 = .ok (.invokevirtual 21, 3) := by decide +kernel
theorem dL_areAlike_109 : decode cL_areAlike 109 = .ok (.if_icmp .ne 7, 3) := by decide +kernel
theorem dL_areAlike_112 : decode cL_areAlike 112 = .ok (.iconst 1, 1) := by decide +kernel
theorem dL_areAlike_113 : decode cL_areAlike 113 = .ok (.goto 4, 3) := by decide +kernel
theorem dL_areAlike_116 : decode cL_areAlike 116 = .ok (.iconst 0, 1) := by decide +kernel
theorem dL_areAlike_117 : decode cL_areAlike 117 = .ok (.istore 4, 2) := by decide +kernel
theorem dL_areAlike_119 : decode cL_areAlike 119 = .ok (.iinc 5 1, 3) := by decide +kernel
theorem dL_areAlike_122 : decode cL_areAlike 122 = .ok (.goto (-65), 3) := by decide +kernel
theorem dL_areAlike_125 : decode cL_areAlike 125 = .ok (.iconst 0, 1) := by decide +kernel
theorem dL_areAlike_126 : decode cL_areAlike 126 = .ok (.istore 5, 2) := by decide +kernel
theorem dL_areAlike_128 : decode cL_areAlike 128 = .ok (.iload 5, 2) := by decide +kernel
theorem dL_areAlike_130 : decode cL_areAlike 130 = .ok (.iconst 4, 1) := by decide +kernel
theorem dL_areAlike_131 : decode cL_areAlike 131 = .ok (.if_icmp .ge 41, 3) := by decide +kernel
theorem dL_areAlike_134 : decode cL_areAlike 134 = .ok (.iload 4, 2) := by decide +kernel
theorem dL_areAlike_136 : decode cL_areAlike 136 = .ok (.ifCond .eq 27, 3) := by decide +kernel
theorem dL_areAlike_139 : decode cL_areAlike 139 = .ok (.aload_n 0, 1) := by decide +kernel
theorem dL_areAlike_140 : decode cL_areAlike 140 = .ok (.iload_n 3, 1) := by decide +kernel
theorem dL_areAlike_141 : decode cL_areAlike 141 = .ok (.iload 5, 2) := by decide +kernel
theorem dL_areAlike_143 : decode cL_areAlike 143 = .ok (.invokevirtual 90, 3) := by decide +kernel
theorem dL_areAlike_146 : decode cL_areAlike 146 = .ok (.aload_n 1, 1) := by decide +kernel
theorem dL_areAlike_147 : decode cL_areAlike 147 = .ok (.iload_n 3, 1) := by decide +kernel
theorem dL_areAlike_148 : decode cL_areAlike 148 = .ok (.invokestatic 69, 3) := by decide +kernel
theorem dL_areAlike_151 : decode cL_areAlike 151 = .ok (.iload 5, 2) := by decide +kernel
theorem dL_areAlike_153 : decode cL_areAlike 153 = .ok (.invokevirtual 90, 3) := by decide +kernel
theorem dL_areAlike_156 : decode cL_areAlike 156 = .ok (.if_icmp .ne 7, 3) := by decide +kernel
theorem dL_areAlike_159 : decode cL_areAlike 159 = .ok (.iconst 1, 1) := by decide +kernel
theorem dL_areAlike_160 : decode cL_areAlike 160 = .ok (.goto 4, 3) := by decide +kernel
theorem dL_areAlike_163 : decode cL_areAlike 163 = .ok (.iconst 0, 1) := by decide +kernel
theorem dL_areAlike_164 : decode cL_areAlike 164 = .ok (.istore 4, 2) := by decide +kernel
theorem dL_areAlike_166 : decode cL_areAlike 166 = .ok (.iinc 5 1, 3) := by decide +kernel
theorem dL_areAlike_169 : decode cL_areAlike 169 = .ok (.goto (-41), 3) := by decide +kernel
theorem dL_areAlike_172 : decode cL_areAlike 172 = .ok (.iconst 0, 1) := by decide +kernel
theorem dL_areAlike_173 : decode cL_areAlike 173 = .ok (.istore 5, 2) := by decide +kernel
theorem dL_areAlike_175 : decode cL_areAlike 175 = .ok (.iload 5, 2) := by decide +kernel
theorem dL_areAlike_177 : decode cL_areAlike 177 = .ok (.bipush 9, 2) := by decide +kernel
theorem dL_areAlike_179 : decode cL_areAlike 179 = .ok (.if_icmp .ge 275, 3) := by decide +kernel
theorem dL_areAlike_182 : decode cL_areAlike 182 = .ok (.aload_n 0, 1) := by decide +kernel
theorem dL_areAlike_183 : decode cL_areAlike 183 = .ok (.iload 5, 2) := by decide +kernel
theorem dL_areAlike_185 : decode cL_areAlike 185 = .ok (.iload_n 3, 1) := by decide +kernel
theorem dL_areAlike_186 : decode cL_areAlike 186 = .ok (.invokevirtual 81, 3) := by decide +kernel
theorem dL_areAlike_189 : decode cL_areAlike 189 = .ok (.istore 6, 2) := by decide +kernel
theorem dL_areAlike_191 : decode cL_areAlike 191 = .ok (.iload 4, 2) := by decide +kernel
theorem dL_areAlike_193 : decode cL_areAlike 193 = .ok (.ifCond .eq 66, 3) := by decide +kernel
theorem dL_areAlike_196 : decode cL_areAlike 196 = .ok (.aload_n 1, 1) := by decide +kernel
theorem dL_areAlike_197 : decode cL_areAlike 197 = .ok (.iload 5, 2) := by decide +kernel
theorem dL_areAlike_199 : decode cL_areAlike 199 = .ok (.invokestatic 35, 3) := by decide +kernel
theorem dL_areAlike_202 : decode cL_areAlike 202 = .ok (.iload_n 3, 1) := by decide +kernel
theorem dL_areAlike_203 : decode cL_areAlike 203 = .ok (.invokestatic 69, 3) := by decide +kernel
theorem dL_areAlike_206 : decode cL_areAlike 206 = .ok (.invokevirtual 81, 3) := by decide +kernel
theorem dL_areAlike_209 : decode cL_areAlike 209 = .ok (.iload 6, 2) := by decide +kernel
theorem dL_areAlike_211 : decode cL_areAlike 211 = .ok (.ifCond .ge 8, 3) := by decide +kernel
theorem dL_areAlike_214 : decode cL_areAlike 214 = .ok (.iload 6, 2) := by decide +kernel
theorem dL_areAlike_216 : decode cL_areAlike 216 = .ok (.goto 8, 3) := by decide +kernel
theorem dL_areAlike_219 : decode cL_areAlike 219 = .ok (.iload 6, 2) := by decide +kernel
theorem dL_areAlike_221 : decode cL_areAlike 221 = .ok (.invokestatic 35, 3) := by decide +kernel
theorem dL_areAlike_224 : decode cL_areAlike 224 = .ok (.if_icmp .ne 35, 3) := by decide +kernel
theorem dL_areAlike_227 : decode cL_areAlike 227 = .ok (.aload_n 0, 1) := by decide +kernel
theorem dL_areAlike_228 : decode cL_areAlike 228 = .ok (.iload 5, 2) := by decide +kernel
theorem dL_areAlike_230 : decode cL_areAlike 230 = .ok (.bipush 6, 2) := by decide +kernel
theorem dL_areAlike_232 : decode cL_areAlike 232 = .ok (.invokevirtual 38, 3) := by decide +kernel
theorem dL_areAlike_235 : decode cL_areAlike 235 = .ok (.invokestatic 46, 3) := by decide +kernel
theorem dL_areAlike_238 : decode cL_areAlike 238 = .ok (.aload_n 1, 1) := by decide +kernel
theorem dL_areAlike_239 : decode cL_areAlike 239 = .ok (.iload 5, 2) := by decide +kernel
theorem dL_areAlike_241 : decode cL_areAlike 241 = .ok (.invokestatic 35, 3) := by decide +kernel
theorem dL_areAlike_244 : decode cL_areAlike 244 = .ok (.bipush 6, 2) := by decide +kernel
theorem dL_areAlike_246 : decode cL_areAlike 246 = .ok (.invokevirtual 38, 3) := by decide +kernel
theorem dL_areAlike_249 : decode cL_areAlike 249 = .ok (.invokestatic 46, 3) := by decide +kernel
theorem dL_areAlike_252 : decode cL_areAlike 252 = .ok (.if_icmp .ne 7, 3) := by decide +kernel
theorem dL_areAlike_255 : decode cL_areAlike 255 = .ok (.iconst 1, 1) := by decide +kernel
theorem dL_areAlike_256 : decode cL_areAlike 256 = .ok (.goto 4, 3) := by decide +kernel
theorem dL_areAlike_259 : decode cL_areAlike 259 = .ok (.iconst 0, 1) := by decide +kernel
theorem dL_areAlike_260 : decode cL_areAlike 260 = .ok (.istore 4, 2) := by decide +kernel
theorem dL_areAlike_262 : decode cL_areAlike 262 = .ok (.iconst 0, 1) := by decide +kernel
theorem dL_areAlike_263 : decode cL_areAlike 263 = .ok (.istore 7, 2) := by decide +kernel
theorem dL_areAlike_265 : decode cL_areAlike 265 = .ok (.iload 7, 2) := by decide +kernel
theorem dL_areAlike_267 : decode cL_areAlike 267 = .ok (.bipush 6, 2) := by decide +kernel
theorem dL_areAlike_269 : decode cL_areAlike 269 = .ok (.if_icmp .ge 43, 3) := by decide +kernel
theorem dL_areAlike_272 : decode cL_areAlike 272 = .ok (.iload 4, 2) := by decide +kernel
theorem dL_areAlike_274 : decode cL_areAlike 274 = .ok (.ifCond .eq 29, 3) := by decide +kernel
theorem dL_areAlike_277 : decode cL_areAlike 277 = .ok (.aload_n 0, 1) := by decide +kernel
theorem dL_areAlike_278 : decode cL_areAlike 278 = .ok (.iload 5, 2) := by decide +kernel
theorem dL_areAlike_280 : decode cL_areAlike 280 = .ok (.iload 7, 2) := by decide +kernel
theorem dL_areAlike_282 : decode cL_areAlike 282 = .ok (.invokevirtual 38, 3) := by decide +kernel
theorem dL_areAlike_285 : decode cL_areAlike 285 = .ok (.aload_n 1, 1) := by decide +kernel
theorem dL_areAlike_286 : decode cL_areAlike 286 = .ok (.iload 5, 2) := by decide +kernel
theorem dL_areAlike_288 : decode cL_areAlike 288 = .ok (.invokestatic 35, 3) := by decide +kernel
theorem dL_areAlike_291 : decode cL_areAlike 291 = .ok (.iload 7, 2) := by decide +kernel
theorem dL_areAlike_293 : decode cL_areAlike 293 = .ok (.invokevirtual 38, 3) := by decide +kernel
theorem dL_areAlike_296 : decode cL_areAlike 296 = .ok (.if_icmp .ne 7, 3) := by decide +kernel
theorem dL_areAlike_299 : decode cL_areAlike 299 = .ok (.iconst 1, 1) := by decide +kernel
theorem dL_areAlike_300 : decode cL_areAlike 300 = .ok (.goto 4, 3) := by decide +kernel
theorem dL_areAlike_303 : decode cL_areAlike 303 = .ok (.iconst 0, 1) := by decide +kernel
theorem dL_areAlike_304 : decode cL_areAlike 304 = .ok (.istore 4, 2) := by decide +kernel
theorem dL_areAlike_306 : decode cL_areAlike 306 = .ok (.iinc 7 1, 3) := by decide +kernel
theorem dL_areAlike_309 : decode cL_areAlike 309 = .ok (.goto (-44), 3) := by decide +kernel
theorem dL_areAlike_312 : decode cL_areAlike 312 = .ok (.iconst 0, 1) := by decide +kernel
theorem dL_areAlike_313 : decode cL_areAlike 313 = .ok (.istore 7, 2) := by decide +kernel
theorem dL_areAlike_315 : decode cL_areAlike 315 = .ok (.iload 7, 2) := by decide +kernel
theorem dL_areAlike_317 : decode cL_areAlike 317 = .ok (.bipush 9, 2) := by decide +kernel
theorem dL_areAlike_319 : decode cL_areAlike 319 = .ok (.if_icmp .ge 129, 3) := by decide +kernel
theorem dL_areAlike_322 : decode cL_areAlike 322 = .ok (.iload 4, 2) := by decide +kernel
theorem dL_areAlike_324 : decode cL_areAlike 324 = .ok (.ifCond .eq 115, 3) := by decide +kernel
theorem dL_areAlike_327 : decode cL_areAlike 327 = .ok (.aload_n 0, 1) := by decide +kernel
theorem dL_areAlike_328 : decode cL_areAlike 328 = .ok (.iload 5, 2) := by decide +kernel
theorem dL_areAlike_330 : decode cL_areAlike 330 = .ok (.iload 7, 2) := by decide +kernel
theorem dL_areAlike_332 : decode cL_areAlike 332 = .ok (.iconst 0, 1) := by decide +kernel
theorem dL_areAlike_333 : decode cL_areAlike 333 = .ok (.invokevirtual 28, 3) := by decide +kernel
theorem dL_areAlike_336 : decode cL_areAlike 336 = .ok (.aload_n 1, 1) := by decide +kernel
theorem dL_areAlike_337 : decode cL_areAlike 337 = .ok (.iload 5, 2) := by decide +kernel
theorem dL_areAlike_339 : decode cL_areAlike 339 = .ok (.invokestatic 35, 3) := by decide +kernel
theorem dL_areAlike_342 : decode cL_areAlike 342 = .ok (.iload 7, 2) := by decide +kernel
theorem dL_areAlike_344 : decode cL_areAlike 344 = .ok (.invokestatic 35, 3) := by decide +kernel
theorem dL_areAlike_347 : decode cL_areAlike 347 = .ok (.iconst 0, 1) := by decide +kernel
theorem dL_areAlike_348 : decode cL_areAlike 348 = .ok (.invokevirtual 28, 3) := by decide +kernel
theorem dL_areAlike_351 : decode cL_areAlike 351 = .ok (.if_icmp .ne 88, 3) := by decide +kernel
theorem dL_areAlike_354 : decode cL_areAlike 354 = .ok (.aload_n 0, 1) := by decide +kernel
theorem dL_areAlike_355 : decode cL_areAlike 355 = .ok (.iload 5, 2) := by decide +kernel
theorem dL_areAlike_357 : decode cL_areAlike 357 = .ok (.iload 7, 2) := by decide +kernel
theorem dL_areAlike_359 : decode cL_areAlike 359 = .ok (.iconst 1, 1) := by decide +kernel
theorem dL_areAlike_360 : decode cL_areAlike 360 = .ok (.invokevirtual 28, 3) := by decide +kernel
theorem dL_areAlike_363 : decode cL_areAlike 363 = .ok (.aload_n 1, 1) := by decide +kernel
theorem dL_areAlike_364 : decode cL_areAlike 364 = .ok (.iload 5, 2) := by decide +kernel
theorem dL_areAlike_366 : decode cL_areAlike 366 = .ok (.invokestatic 35, 3) := by decide +kernel
theorem dL_areAlike_369 : decode cL_areAlike 369 = .ok (.iload 7, 2) := by decide +kernel
theorem dL_areAlike_371 : decode cL_areAlike 371 = .ok (.invokestatic 35, 3) := by decide +kernel
theorem dL_areAlike_374 : decode cL_areAlike 374 = .ok (.iconst 1, 1) := by decide +kernel
theorem dL_areAlike_375 : decode cL_areAlike 375 = .ok (.invokevirtual 28, 3) := by decide +kernel
theorem dL_areAlike_378 : decode cL_areAlike 378 = .ok (.if_icmp .ne 61, 3) := by decide +kernel
theorem dL_areAlike_381 : decode cL_areAlike 381 = .ok (.aload_n 0, 1) := by decide +kernel
theorem dL_areAlike_382 : decode cL_areAlike 382 = .ok (.iload 5, 2) := by decide +kernel
theorem dL_areAlike_384 : decode cL_areAlike 384 = .ok (.iload 7, 2) := by decide +kernel
theorem dL_areAlike_386 : decode cL_areAlike 386 = .ok (.iconst 3, 1) := by decide +kernel
theorem dL_areAlike_387 : decode cL_areAlike 387 = .ok (.invokevirtual 28, 3) := by decide +kernel
theorem dL_areAlike_390 : decode cL_areAlike 390 = .ok (.aload_n 1, 1) := by decide +kernel
theorem dL_areAlike_391 : decode cL_areAlike 391 = .ok (.iload 5, 2) := by decide +kernel
theorem dL_areAlike_393 : decode cL_areAlike 393 = .ok (.invokestatic 35, 3) := by decide +kernel
theorem dL_areAlike_396 : decode cL_areAlike 396 = .ok (.iload 7, 2) := by decide +kernel
theorem dL_areAlike_398 : decode cL_areAlike 398 = .ok (.invokestatic 35, 3) := by decide +kernel
theorem dL_areAlike_401 : decode cL_areAlike 401 = .ok (.iconst 3, 1) := by decide +kernel
theorem dL_areAlike_402 : decode cL_areAlike 402 = .ok (.invokevirtual 28, 3) := by decide +kernel
theorem dL_areAlike_405 : decode cL_areAlike 405 = .ok (.if_icmp .ne 34, 3) := by decide +kernel
theorem dL_areAlike_408 : decode cL_areAlike 408 = .ok (.aload_n 0, 1) := by decide +kernel
theorem dL_areAlike_409 : decode cL_areAlike 409 = .ok (.iload 5, 2) := by decide +kernel
theorem dL_areAlike_411 : decode cL_areAlike 411 = .ok (.iload 7, 2) := by decide +kernel
theorem dL_areAlike_413 : decode cL_areAlike 413 = .ok (.iconst 4, 1) := by decide +kernel
theorem dL_areAlike_414 : decode cL_areAlike 414 = .ok (.invokevirtual 28, 3) := by decide +kernel
theorem dL_areAlike_417 : decode cL_areAlike 417 = .ok (.aload_n 1, 1) := by decide +kernel
theorem dL_areAlike_418 : decode cL_areAlike 418 = .ok (.iload 5, 2) := by decide +kernel
theorem dL_areAlike_420 : decode cL_areAlike 420 = .ok (.invokestatic 35, 3) := by decide +kernel
theorem dL_areAlike_423 : decode cL_areAlike 423 = .ok (.iload 7, 2) := by decide +kernel
theorem dL_areAlike_425 : decode cL_areAlike 425 = .ok (.invokestatic 35, 3) := by decide +kernel
theorem dL_areAlike_428 : decode cL_areAlike 428 = .ok (.iconst 4, 1) := by decide +kernel
theorem dL_areAlike_429 : decode cL_areAlike 429 = .ok (.invokevirtual 28, 3) := by decide +kernel
theorem dL_areAlike_432 : decode cL_areAlike 432 = .ok (.if_icmp .ne 7, 3) := by decide +kernel
theorem dL_areAlike_435 : decode cL_areAlike 435 = .ok (.iconst 1, 1) := by decide +kernel
theorem dL_areAlike_436 : decode cL_areAlike 436 = .ok (.goto 4, 3) := by decide +kernel
theorem dL_areAlike_439 : decode cL_areAlike 439 = .ok (.iconst 0, 1) := by decide +kernel
theorem dL_areAlike_440 : decode cL_areAlike 440 = .ok (.istore 4, 2) := by decide +kernel
theorem dL_areAlike_442 : decode cL_areAlike 442 = .ok (.iinc 7 1, 3) := by decide +kernel
theorem dL_areAlike_445 : decode cL_areAlike 445 = .ok (.goto (-130), 3) := by decide +kernel
theorem dL_areAlike_448 : decode cL_areAlike 448 = .ok (.iinc 5 1, 3) := by decide +kernel
theorem dL_areAlike_451 : decode cL_areAlike 451 = .ok (.goto (-276), 3) := by decide +kernel
theorem dL_areAlike_454 : decode cL_areAlike 454 = .ok (.iload 4, 2) := by decide +kernel
theorem dL_areAlike_456 : decode cL_areAlike 456 = .ok (.ireturn, 1) := by decide +kernel
set_option maxRecDepth 20000 in
theorem ggL_isWell_X3_fewestRounds : GoodIn wsL_isWell wsX3_fewestRounds := goodIn_r _ [6, 7, 8, 9, 10, 11, 12, 13, 14, 15, 16, 17, 18, 5, 19, 20, 21, 22, 23, 24, 25, 26, 27, 28, 29, 30, 31, 32, 33, 34, 35, 36, 37, 38, 39, 40, 41, 42, 43, 44, 45, 46, 47, 48, 49, 169, 170, 171, 172, 173, 174, 175, 176, 177, 178, 179, 180, 181, 182, 183, 184, 185, 186] (by decide +kernel) (by decide +kernel)
set_option maxRecDepth 20000 in
theorem gL_isWell_X3_fewestRounds : GoodIn wsL_isWell (wsV RL 87 RX3 yX3_fewestRounds wsX3_fewestRounds) := goodIn_app (goodIn_of _ (by decide +kernel)) ggL_isWell_X3_fewestRounds
set_option maxRecDepth 20000 in
theorem ggL_isWell_X3_villager : GoodIn wsL_isWell wsX3_villager := goodIn_r _ [53, 54, 7, 55, 56, 57, 58, 59, 8, 60, 61, 5, 62, 63, 33, 34, 12, 35, 36, 64, 65, 66, 67, 31, 37, 38, 68, 69, 70, 71, 72, 169, 170, 171, 172, 173, 174, 175, 176, 177, 178, 179, 180, 181, 182, 183, 184, 185, 186] (by decide +kernel) (by decide +kernel)
set_option maxRecDepth 20000 in
theorem gL_isWell_X3_villager : GoodIn wsL_isWell (wsV RL 38 RX3 yX3_villager wsX3_villager) := goodIn_app (goodIn_of _ (by decide +kernel)) ggL_isWell_X3_villager
set_option maxRecDepth 20000 in
theorem ggL_isWell_X3_pair : GoodIn wsL_isWell wsX3_pair := goodIn_r _ [76, 54, 8, 7, 77, 78, 79, 80, 60, 61, 5, 62, 81, 37, 38, 20, 21, 22, 23, 24, 25, 26, 169, 170, 171, 172, 173, 174, 175, 176, 177, 178, 179, 180, 181, 182, 183, 184, 185, 186] (by decide +kernel) (by decide +kernel)
set_option maxRecDepth 20000 in
theorem gL_isWell_X3_pair : GoodIn wsL_isWell (wsV RL 28 RX3 yX3_pair wsX3_pair) := goodIn_app (goodIn_of _ (by decide +kernel)) ggL_isWell_X3_pair
set_option maxRecDepth 20000 in
theorem ggL_isWell_X3_count : GoodIn wsL_isWell wsX3_count := goodIn_r _ [85, 7, 86, 87, 88, 78, 56, 59, 55, 89, 90, 91, 92, 93, 8, 94, 95, 5, 96, 97, 98, 99, 12, 100, 27, 28, 29, 30, 31, 32, 33, 34, 35, 36, 37, 38, 169, 170, 171, 172, 173, 174, 175, 176, 177, 178, 179, 180, 181, 182, 183, 184, 185, 186, 187, 188, 189, 190] (by decide +kernel) (by decide +kernel)
set_option maxRecDepth 20000 in
theorem gL_isWell_X3_count : GoodIn wsL_isWell (wsV RL 21 RX3 yX3_count wsX3_count) := goodIn_app (goodIn_of _ (by decide +kernel)) ggL_isWell_X3_count
set_option maxRecDepth 20000 in
theorem ggL_isWell_X3_untilAllMet : GoodIn wsL_isWell wsX3_untilAllMet := goodIn_r _ [104, 105, 7, 106, 87, 107, 108, 109, 12, 110, 111, 36, 112, 113, 114, 115, 116, 117, 31, 118, 119, 120, 121, 122, 123, 124, 125, 126, 127, 128, 129, 130, 131, 132, 97, 98, 99, 100, 27, 28, 29, 30, 32, 33, 34, 35, 37, 5, 38, 20, 21, 22, 23, 24, 25, 26, 133, 134, 135, 136, 18, 19, 137, 138, 139, 140, 141, 142, 143, 144, 43, 44, 45, 46, 47, 48, 49, 145, 146, 147, 148, 149, 150, 151, 152, 153, 154, 155, 156, 157, 158, 159, 160, 161, 162, 163, 164, 165, 166, 167, 168, 169, 170, 171, 172, 173, 174, 175, 176, 177, 178, 179, 180, 181, 182, 183, 184, 185, 186] (by decide +kernel) (by decide +kernel)
set_option maxRecDepth 20000 in
theorem gL_isWell_X3_untilAllMet : GoodIn wsL_isWell (wsV RL 94 RX3 yX3_untilAllMet wsX3_untilAllMet) := goodIn_app (goodIn_of _ (by decide +kernel)) ggL_isWell_X3_untilAllMet
theorem dL_isWell_0 : decode cL_isWell 0 = .ok (.iconst 0, 1) := by decide +kernel
theorem dL_isWell_1 : decode cL_isWell 1 = .ok (.istore_n 1, 1) := by decide +kernel
theorem dL_isWell_2 : decode cL_isWell 2 = .ok (.iconst 0, 1) := by decide +kernel
theorem dL_isWell_3 : decode cL_isWell 3 = .ok (.istore_n 2, 1) := by decide +kernel
theorem dL_isWell_4 : decode cL_isWell 4 = .ok (.iconst 0, 1) := by decide +kernel
theorem dL_isWell_5 : decode cL_isWell 5 = .ok (.istore_n 3, 1) := by decide +kernel
theorem dL_isWell_6 : decode cL_isWell 6 = .ok (.iconst 0, 1) := by decide +kernel
theorem dL_isWell_7 : decode cL_isWell 7 = .ok (.istore 4, 2) := by decide +kernel
theorem dL_isWell_9 : decode cL_isWell 9 = .ok (.iconst 0, 1) := by decide +kernel
theorem dL_isWell_10 : decode cL_isWell 10 = .ok (.istore 5, 2) := by decide +kernel
theorem dL_isWell_12 : decode cL_isWell 12 = .ok (.iconst 0, 1) := by decide +kernel
theorem dL_isWell_13 : decode cL_isWell 13 = .ok (.istore 6, 2) := by decide +kernel
theorem dL_isWell_15 : decode cL_isWell 15 = .ok (.aload_n 0, 1) := by decide +kernel
theorem dL_isWell_16 : decode cL_isWell 16 = .ok (.iconst 0, 1) := by decide +kernel
theorem dL_isWell_17 : decode cL_isWell 17 = .ok (.invokevirtual 87, 3) := by decide +kernel
theorem dL_isWell_20 : decode cL_isWell 20 = .ok (.aload_n 0, 1) := by decide +kernel
theorem dL_isWell_21 : decode cL_isWell 21 = .ok (.iconst 1, 1) := by decide +kernel
theorem dL_isWell_22 : decode cL_isWell 22 = .ok (.invokevirtual 87, 3) := by decide +kernel
theorem dL_isWell_25 : decode cL_isWell 25 = .ok (.if_icmp .ne 17, 3) := by decide +kernel
theorem dL_isWell_28 : decode cL_isWell 28 = .ok (.aload_n 0, 1) := by decide +kernel
theorem dL_isWell_29 : decode cL_isWell 29 = .ok (.iconst 0, 1) := by decide +kernel
theorem dL_isWell_30 : decode cL_isWell 30 = .ok (.invokevirtual 87, 3) := by decide +kernel
theorem dL_isWell_33 : decode cL_isWell 33 = .ok (.bipush 9, 2) := by decide +kernel
theorem dL_isWell_35 : decode cL_isWell 35 = .ok (.if_icmp .gt 7, 3) := by decide +kernel
theorem dL_isWell_38 : decode cL_isWell 38 = .ok (.iconst 1, 1) := by decide +kernel
theorem dL_isWell_39 : decode cL_isWell 39 = .ok (.goto 4, 3) := by decide +kernel
theorem dL_isWell_42 : decode cL_isWell 42 = .ok (.iconst 0, 1) := by decide +kernel
theorem dL_isWell_43 : decode cL_isWell 43 = .ok (.istore 7, 2) := by decide +kernel
theorem dL_isWell_45 : decode cL_isWell 45 = .ok (.iconst 0, 1) := by decide +kernel
theorem dL_isWell_46 : decode cL_isWell 46 = .ok (.istore 8, 2) := by decide +kernel
theorem dL_isWell_48 : decode cL_isWell 48 = .ok (.iload 8, 2) := by decide +kernel
theorem dL_isWell_50 : decode cL_isWell 50 = .ok (.bipush 9, 2) := by decide +kernel
theorem dL_isWell_52 : decode cL_isWell 52 = .ok (.if_icmp .ge 347, 3) := by decide +kernel
theorem dL_isWell_55 : decode cL_isWell 55 = .ok (.iconst 0, 1) := by decide +kernel
theorem dL_isWell_56 : decode cL_isWell 56 = .ok (.istore 9, 2) := by decide +kernel
theorem dL_isWell_58 : decode cL_isWell 58 = .ok (.iload_n 2, 1) := by decide +kernel
theorem dL_isWell_59 : decode cL_isWell 59 = .ok (.aload_n 0, 1) := by decide +kernel
theorem dL_isWell_60 : decode cL_isWell 60 = .ok (.iload 8, 2) := by decide +kernel
theorem dL_isWell_62 : decode cL_isWell 62 = .ok (.iconst 2, 1) := by decide +kernel
theorem dL_isWell_63 : decode cL_isWell 63 = .ok (.invokevirtual 38, 3) := by decide +kernel
theorem dL_isWell_66 : decode cL_isWell 66 = .ok (.iadd, 1) := by decide +kernel
theorem dL_isWell_67 : decode cL_isWell 67 = .ok (.istore_n 2, 1) := by decide +kernel
theorem dL_isWell_68 : decode cL_isWell 68 = .ok (.iload_n 3, 1) := by decide +kernel
theorem dL_isWell_69 : decode cL_isWell 69 = .ok (.aload_n 0, 1) := by decide +kernel
theorem dL_isWell_70 : decode cL_isWell 70 = .ok (.iload 8, 2) := by decide +kernel
theorem dL_isWell_72 : decode cL_isWell 72 = .ok (.iconst 5, 1) := by decide +kernel
theorem dL_isWell_73 : decode cL_isWell 73 = .ok (.invokevirtual 38, 3) := by decide +kernel
theorem dL_isWell_76 : decode cL_isWell 76 = .ok (.iadd, 1) := by decide +kernel
theorem dL_isWell_77 : decode cL_isWell 77 = .ok (.istore_n 3, 1) := by decide +kernel
theorem dL_isWell_78 : decode cL_isWell 78 = .ok (.iload 4, 2) := by decide +kernel
theorem dL_isWell_80 : decode cL_isWell 80 = .ok (.aload_n 0, 1) := by decide +kernel
theorem dL_isWell_81 : decode cL_isWell 81 = .ok (.iload 8, 2) := by decide +kernel
theorem dL_isWell_83 : decode cL_isWell 83 = .ok (.iconst 1, 1) := by decide +kernel
theorem dL_isWell_84 : decode cL_isWell 84 = .ok (.invokevirtual 38, 3) := by decide +kernel
theorem dL_isWell_87 : decode cL_isWell 87 = .ok (.iadd, 1) := by decide +kernel
theorem dL_isWell_88 : decode cL_isWell 88 = .ok (.istore 4, 2) := by decide +kernel
theorem dL_isWell_90 : decode cL_isWell 90 = .ok (.iconst 0, 1) := by decide +kernel
theorem dL_isWell_91 : decode cL_isWell 91 = .ok (.istore 10, 2) := by decide +kernel
theorem dL_isWell_93 : decode cL_isWell 93 = .ok (.iload 10, 2) := by decide +kernel
theorem dL_isWell_95 : decode cL_isWell 95 = .ok (.bipush 9, 2) := by decide +kernel
theorem dL_isWell_97 : decode cL_isWell 97 = .ok (.if_icmp .ge 176, 3) := by decide +kernel
theorem dL_isWell_100 : decode cL_isWell 100 = .ok (.iload 10, 2) := by decide +kernel
theorem dL_isWell_102 : decode cL_isWell 102 = .ok (.iload 8, 2) := by decide +kernel
theorem dL_isWell_104 : decode cL_isWell 104 = .ok (.if_icmp .eq 163, 3) := by decide +kernel
theorem dL_isWell_107 : decode cL_isWell 107 = .ok (.aload_n 0, 1) := by decide +kernel
theorem dL_isWell_108 : decode cL_isWell 108 = .ok (.iload 8, 2) := by decide +kernel
theorem dL_isWell_110 : decode cL_isWell 110 = .ok (.iload 10, 2) := by decide +kernel
theorem dL_isWell_112 : decode cL_isWell 112 = .ok (.iconst 1, 1) := by decide +kernel
theorem dL_isWell_113 : decode cL_isWell 113 = .ok (.invokevirtual 28, 3) := by decide +kernel
theorem dL_isWell_116 : decode cL_isWell 116 = .ok (.istore 11, 2) := by decide +kernel
theorem dL_isWell_118 : decode cL_isWell 118 = .ok (.iload 9, 2) := by decide +kernel
theorem dL_isWell_120 : decode cL_isWell 120 = .ok (.iload 11, 2) := by decide +kernel
theorem dL_isWell_122 : decode cL_isWell 122 = .ok (.iadd, 1) := by decide +kernel
theorem dL_isWell_123 : decode cL_isWell 123 = .ok (.istore 9, 2) := by decide +kernel
theorem dL_isWell_125 : decode cL_isWell 125 = .ok (.iload 5, 2) := by decide +kernel
theorem dL_isWell_127 : decode cL_isWell 127 = .ok (.iload 10, 2) := by decide +kernel
theorem dL_isWell_129 : decode cL_isWell 129 = .ok (.iload 8, 2) := by decide +kernel
theorem dL_isWell_131 : decode cL_isWell 131 = .ok (.if_icmp .ge 34, 3) := by decide +kernel
theorem dL_isWell_134 : decode cL_isWell 134 = .ok (.iload 11, 2) := by decide +kernel
theorem dL_isWell_136 : decode cL_isWell 136 = .ok (.ifCond .ne 29, 3) := by decide +kernel
theorem dL_isWell_139 : decode cL_isWell 139 = .ok (.aload_n 0, 1) := by decide +kernel
theorem dL_isWell_140 : decode cL_isWell 140 = .ok (.iload 8, 2) := by decide +kernel
theorem dL_isWell_142 : decode cL_isWell 142 = .ok (.iconst 0, 1) := by decide +kernel
theorem dL_isWell_143 : decode cL_isWell 143 = .ok (.invokevirtual 38, 3) := by decide +kernel
theorem dL_isWell_146 : decode cL_isWell 146 = .ok (.iconst 1, 1) := by decide +kernel
theorem dL_isWell_147 : decode cL_isWell 147 = .ok (.if_icmp .ne 18, 3) := by decide +kernel
theorem dL_isWell_150 : decode cL_isWell 150 = .ok (.aload_n 0, 1) := by decide +kernel
theorem dL_isWell_151 : decode cL_isWell 151 = .ok (.iload 10, 2) := by decide +kernel
theorem dL_isWell_153 : decode cL_isWell 153 = .ok (.iconst 0, 1) := by decide +kernel
theorem dL_isWell_154 : decode cL_isWell 154 = .ok (.invokevirtual 38, 3) := by decide +kernel
theorem dL_isWell_157 : decode cL_isWell 157 = .ok (.iconst 1, 1) := by decide +kernel
theorem dL_isWell_158 : decode cL_isWell 158 = .ok (.if_icmp .ne 7, 3) := by decide +kernel
theorem dL_isWell_161 : decode cL_isWell 161 = .ok (.iconst 1, 1) := by decide +kernel
theorem dL_isWell_162 : decode cL_isWell 162 = .ok (.goto 4, 3) := by decide +kernel
theorem dL_isWell_165 : decode cL_isWell 165 = .ok (.iconst 0, 1) := by decide +kernel
theorem dL_isWell_166 : decode cL_isWell 166 = .ok (.iadd, 1) := by decide +kernel
theorem dL_isWell_167 : decode cL_isWell 167 = .ok (.istore 5, 2) := by decide +kernel
theorem dL_isWell_169 : decode cL_isWell 169 = .ok (.iload 7, 2) := by decide +kernel
theorem dL_isWell_171 : decode cL_isWell 171 = .ok (.ifCond .eq 93, 3) := by decide +kernel
theorem dL_isWell_174 : decode cL_isWell 174 = .ok (.iload 11, 2) := by decide +kernel
theorem dL_isWell_176 : decode cL_isWell 176 = .ok (.aload_n 0, 1) := by decide +kernel
theorem dL_isWell_177 : decode cL_isWell 177 = .ok (.iload 10, 2) := by decide +kernel
theorem dL_isWell_179 : decode cL_isWell 179 = .ok (.iload 8, 2) := by decide +kernel
theorem dL_isWell_181 : decode cL_isWell 181 = .ok (.iconst 1, 1) := by decide +kernel
theorem dL_isWell_182 : decode cL_isWell 182 = .ok (.invokevirtual 28, 3) := by decide +kernel
theorem dL_isWell_185 : decode cL_isWell 185 = .ok (.if_icmp .ne 79, 3) := by decide +kernel
theorem dL_isWell_188 : decode cL_isWell 188 = .ok (.iload 11, 2) := by decide +kernel
theorem dL_isWell_190 : decode cL_isWell 190 = .ok (.aload_n 0, 1) := by decide +kernel
theorem dL_isWell_191 : decode cL_isWell 191 = .ok (.iload 8, 2) := by decide +kernel
theorem dL_isWell_193 : decode cL_isWell 193 = .ok (.iload 10, 2) := by decide +kernel
theorem dL_isWell_195 : decode cL_isWell 195 = .ok (.iconst 3, 1) := by decide +kernel
theorem dL_isWell_196 : decode cL_isWell 196 = .ok (.invokevirtual 28, 3) := by decide +kernel
theorem dL_isWell_199 : decode cL_isWell 199 = .ok (.if_icmp .gt 65, 3) := by decide +kernel
theorem dL_isWell_202 : decode cL_isWell 202 = .ok (.iload 11, 2) := by decide +kernel
theorem dL_isWell_204 : decode cL_isWell 204 = .ok (.ifCond .ne 7, 3) := by decide +kernel
theorem dL_isWell_207 : decode cL_isWell 207 = .ok (.iconst 1, 1) := by decide +kernel
theorem dL_isWell_208 : decode cL_isWell 208 = .ok (.goto 4, 3) := by decide +kernel
theorem dL_isWell_211 : decode cL_isWell 211 = .ok (.iconst 0, 1) := by decide +kernel
theorem dL_isWell_212 : decode cL_isWell 212 = .ok (.aload_n 0, 1) := by decide +kernel
theorem dL_isWell_213 : decode cL_isWell 213 = .ok (.iload 8, 2) := by decide +kernel
theorem dL_isWell_215 : decode cL_isWell 215 = .ok (.iload 10, 2) := by decide +kernel
theorem dL_isWell_217 : decode cL_isWell 217 = .ok (.iconst 4, 1) := by decide +kernel
theorem dL_isWell_218 : decode cL_isWell 218 = .ok (.invokevirtual 28, 3) := by decide +kernel
theorem dL_isWell_221 : decode cL_isWell 221 = .ok (.ldc 93, 2) := by decide +kernel
theorem dL_isWell_223 : decode cL_isWell 223 = .ok (.if_icmp .ne 7, 3) := by decide +kernel
theorem dL_isWell_226 : decode cL_isWell 226 = .ok (.iconst 1, 1) := by decide +kernel
theorem dL_isWell_227 : decode cL_isWell 227 = .ok (.goto 4, 3) := by decide +kernel
theorem dL_isWell_230 : decode cL_isWell 230 = .ok (.iconst 0, 1) := by decide +kernel
theorem dL_isWell_231 : decode cL_isWell 231 = .ok (.if_icmp .ne 33, 3) := by decide +kernel
theorem dL_isWell_234 : decode cL_isWell 234 = .ok (.aload_n 0, 1) := by decide +kernel
theorem dL_isWell_235 : decode cL_isWell 235 = .ok (.iload 8, 2) := by decide +kernel
theorem dL_isWell_237 : decode cL_isWell 237 = .ok (.bipush 6, 2) := by decide +kernel
theorem dL_isWell_239 : decode cL_isWell 239 = .ok (.invokevirtual 38, 3) := by decide +kernel
theorem dL_isWell_242 : decode cL_isWell 242 = .ok (.iload 10, 2) := by decide +kernel
theorem dL_isWell_244 : decode cL_isWell 244 = .ok (.ishr, 1) := by decide +kernel
theorem dL_isWell_245 : decode cL_isWell 245 = .ok (.iconst 1, 1) := by decide +kernel
theorem dL_isWell_246 : decode cL_isWell 246 = .ok (.iand, 1) := by decide +kernel
theorem dL_isWell_247 : decode cL_isWell 247 = .ok (.iload 11, 2) := by decide +kernel
theorem dL_isWell_249 : decode cL_isWell 249 = .ok (.ifCond .le 7, 3) := by decide +kernel
theorem dL_isWell_252 : decode cL_isWell 252 = .ok (.iconst 1, 1) := by decide +kernel
theorem dL_isWell_253 : decode cL_isWell 253 = .ok (.goto 4, 3) := by decide +kernel
theorem dL_isWell_256 : decode cL_isWell 256 = .ok (.iconst 0, 1) := by decide +kernel
theorem dL_isWell_257 : decode cL_isWell 257 = .ok (.if_icmp .ne 7, 3) := by decide +kernel
theorem dL_isWell_260 : decode cL_isWell 260 = .ok (.iconst 1, 1) := by decide +kernel
theorem dL_isWell_261 : decode cL_isWell 261 = .ok (.goto 4, 3) := by decide +kernel
theorem dL_isWell_264 : decode cL_isWell 264 = .ok (.iconst 0, 1) := by decide +kernel
theorem dL_isWell_265 : decode cL_isWell 265 = .ok (.istore 7, 2) := by decide +kernel
theorem dL_isWell_267 : decode cL_isWell 267 = .ok (.iinc 10 1, 3) := by decide +kernel
theorem dL_isWell_270 : decode cL_isWell 270 = .ok (.goto (-177), 3) := by decide +kernel
theorem dL_isWell_273 : decode cL_isWell 273 = .ok (.iload 6, 2) := by decide +kernel
theorem dL_isWell_275 : decode cL_isWell 275 = .ok (.iload 8, 2) := by decide +kernel
theorem dL_isWell_277 : decode cL_isWell 277 = .ok (.ifCond .ne 14, 3) := by decide +kernel
theorem dL_isWell_280 : decode cL_isWell 280 = .ok (.aload_n 0, 1) := by decide +kernel
theorem dL_isWell_281 : decode cL_isWell 281 = .ok (.iconst 1, 1) := by decide +kernel
theorem dL_isWell_282 : decode cL_isWell 282 = .ok (.bipush 8, 2) := by decide +kernel
theorem dL_isWell_284 : decode cL_isWell 284 = .ok (.iconst 3, 1) := by decide +kernel
theorem dL_isWell_285 : decode cL_isWell 285 = .ok (.invokevirtual 28, 3) := by decide +kernel
theorem dL_isWell_288 : decode cL_isWell 288 = .ok (.goto 11, 3) := by decide +kernel
theorem dL_isWell_291 : decode cL_isWell 291 = .ok (.aload_n 0, 1) := by decide +kernel
theorem dL_isWell_292 : decode cL_isWell 292 = .ok (.iconst 0, 1) := by decide +kernel
theorem dL_isWell_293 : decode cL_isWell 293 = .ok (.iload 8, 2) := by decide +kernel
theorem dL_isWell_295 : decode cL_isWell 295 = .ok (.iconst 3, 1) := by decide +kernel
theorem dL_isWell_296 : decode cL_isWell 296 = .ok (.invokevirtual 28, 3) := by decide +kernel
theorem dL_isWell_299 : decode cL_isWell 299 = .ok (.iadd, 1) := by decide +kernel
theorem dL_isWell_300 : decode cL_isWell 300 = .ok (.istore 6, 2) := by decide +kernel
theorem dL_isWell_302 : decode cL_isWell 302 = .ok (.iload_n 1, 1) := by decide +kernel
theorem dL_isWell_303 : decode cL_isWell 303 = .ok (.iload 9, 2) := by decide +kernel
theorem dL_isWell_305 : decode cL_isWell 305 = .ok (.iadd, 1) := by decide +kernel
theorem dL_isWell_306 : decode cL_isWell 306 = .ok (.istore_n 1, 1) := by decide +kernel
theorem dL_isWell_307 : decode cL_isWell 307 = .ok (.iload 7, 2) := by decide +kernel
theorem dL_isWell_309 : decode cL_isWell 309 = .ok (.ifCond .eq 81, 3) := by decide +kernel
theorem dL_isWell_312 : decode cL_isWell 312 = .ok (.iload 9, 2) := by decide +kernel
theorem dL_isWell_314 : decode cL_isWell 314 = .ok (.aload_n 0, 1) := by decide +kernel
theorem dL_isWell_315 : decode cL_isWell 315 = .ok (.iload 8, 2) := by decide +kernel
theorem dL_isWell_317 : decode cL_isWell 317 = .ok (.iconst 3, 1) := by decide +kernel
theorem dL_isWell_318 : decode cL_isWell 318 = .ok (.invokevirtual 38, 3) := by decide +kernel
theorem dL_isWell_321 : decode cL_isWell 321 = .ok (.if_icmp .ne 69, 3) := by decide +kernel
theorem dL_isWell_324 : decode cL_isWell 324 = .ok (.aload_n 0, 1) := by decide +kernel
theorem dL_isWell_325 : decode cL_isWell 325 = .ok (.iload 8, 2) := by decide +kernel
theorem dL_isWell_327 : decode cL_isWell 327 = .ok (.iconst 5, 1) := by decide +kernel
theorem dL_isWell_328 : decode cL_isWell 328 = .ok (.invokevirtual 38, 3) := by decide +kernel
theorem dL_isWell_331 : decode cL_isWell 331 = .ok (.aload_n 0, 1) := by decide +kernel
theorem dL_isWell_332 : decode cL_isWell 332 = .ok (.iload 8, 2) := by decide +kernel
theorem dL_isWell_334 : decode cL_isWell 334 = .ok (.iconst 4, 1) := by decide +kernel
theorem dL_isWell_335 : decode cL_isWell 335 = .ok (.invokevirtual 38, 3) := by decide +kernel
theorem dL_isWell_338 : decode cL_isWell 338 = .ok (.if_icmp .gt 52, 3) := by decide +kernel
theorem dL_isWell_341 : decode cL_isWell 341 = .ok (.aload_n 0, 1) := by decide +kernel
theorem dL_isWell_342 : decode cL_isWell 342 = .ok (.iload 8, 2) := by decide +kernel
theorem dL_isWell_344 : decode cL_isWell 344 = .ok (.iconst 3, 1) := by decide +kernel
theorem dL_isWell_345 : decode cL_isWell 345 = .ok (.invokevirtual 38, 3) := by decide +kernel
theorem dL_isWell_348 : decode cL_isWell 348 = .ok (.aload_n 0, 1) := by decide +kernel
theorem dL_isWell_349 : decode cL_isWell 349 = .ok (.iload 8, 2) := by decide +kernel
theorem dL_isWell_351 : decode cL_isWell 351 = .ok (.iconst 4, 1) := by decide +kernel
theorem dL_isWell_352 : decode cL_isWell 352 = .ok (.invokevirtual 38, 3) := by decide +kernel
theorem dL_isWell_355 : decode cL_isWell 355 = .ok (.iadd, 1) := by decide +kernel
theorem dL_isWell_356 : decode cL_isWell 356 = .ok (.aload_n 0, 1) := by decide +kernel
theorem dL_isWell_357 : decode cL_isWell 357 = .ok (.iconst 3, 1) := by decide +kernel
theorem dL_isWell_358 : decode cL_isWell 358 = .ok (.invokevirtual 21, 3) := by decide +kernel
theorem dL_isWell_361 : decode cL_isWell 361 = .ok (.if_icmp .gt 29, 3) := by decide +kernel
theorem dL_isWell_364 : decode cL_isWell 364 = .ok (.aload_n 0, 1) := by decide +kernel
theorem dL_isWell_365 : decode cL_isWell 365 = .ok (.iload 8, 2) := by decide +kernel
theorem dL_isWell_367 : decode cL_isWell 367 = .ok (.iconst 1, 1) := by decide +kernel
theorem dL_isWell_368 : decode cL_isWell 368 = .ok (.invokevirtual 38, 3) := by decide +kernel
theorem dL_isWell_371 : decode cL_isWell 371 = .ok (.ifCond .lt 19, 3) := by decide +kernel
theorem dL_isWell_374 : decode cL_isWell 374 = .ok (.aload_n 0, 1) := by decide +kernel
theorem dL_isWell_375 : decode cL_isWell 375 = .ok (.iload 8, 2) := by decide +kernel
theorem dL_isWell_377 : decode cL_isWell 377 = .ok (.iconst 1, 1) := by decide +kernel
theorem dL_isWell_378 : decode cL_isWell 378 = .ok (.invokevirtual 38, 3) := by decide +kernel
theorem dL_isWell_381 : decode cL_isWell 381 = .ok (.bipush 20, 2) := by decide +kernel
theorem dL_isWell_383 : decode cL_isWell 383 = .ok (.if_icmp .gt 7, 3) := by decide +kernel
theorem dL_isWell_386 : decode cL_isWell 386 = .ok (.iconst 1, 1) := by decide +kernel
theorem dL_isWell_387 : decode cL_isWell 387 = .ok (.goto 4, 3) := by decide +kernel
theorem dL_isWell_390 : decode cL_isWell 390 = .ok (.iconst 0, 1) := by decide +kernel
theorem dL_isWell_391 : decode cL_isWell 391 = .ok (.istore 7, 2) := by decide +kernel
theorem dL_isWell_393 : decode cL_isWell 393 = .ok (.iinc 8 1, 3) := by decide +kernel
theorem dL_isWell_396 : decode cL_isWell 396 = .ok (.goto (-348), 3) := by decide +kernel
theorem dL_isWell_399 : decode cL_isWell 399 = .ok (.iload 7, 2) := by decide +kernel
theorem dL_isWell_401 : decode cL_isWell 401 = .ok (.ifCond .eq 95, 3) := by decide +kernel
theorem dL_isWell_404 : decode cL_isWell 404 = .ok (.iload_n 1, 1) := by decide +kernel
theorem dL_isWell_405 : decode cL_isWell 405 = .ok (.iconst 2, 1) := by decide +kernel
theorem dL_isWell_406 : decode cL_isWell 406 = .ok (.aload_n 0, 1) := by decide +kernel
theorem dL_isWell_407 : decode cL_isWell 407 = .ok (.iconst 5, 1) := by decide +kernel
theorem dL_isWell_408 : decode cL_isWell 408 = .ok (.invokevirtual 21, 3) := by decide +kernel
theorem dL_isWell_411 : decode cL_isWell 411 = .ok (.imul, 1) := by decide +kernel
theorem dL_isWell_412 : decode cL_isWell 412 = .ok (.if_icmp .ne 84, 3) := by decide +kernel
theorem dL_isWell_415 : decode cL_isWell 415 = .ok (.iload_n 2, 1) := by decide +kernel
theorem dL_isWell_416 : decode cL_isWell 416 = .ok (.aload_n 0, 1) := by decide +kernel
theorem dL_isWell_417 : decode cL_isWell 417 = .ok (.bipush 6, 2) := by decide +kernel
theorem dL_isWell_419 : decode cL_isWell 419 = .ok (.invokevirtual 21, 3) := by decide +kernel
theorem dL_isWell_422 : decode cL_isWell 422 = .ok (.if_icmp .ne 74, 3) := by decide +kernel
theorem dL_isWell_425 : decode cL_isWell 425 = .ok (.iload_n 3, 1) := by decide +kernel
theorem dL_isWell_426 : decode cL_isWell 426 = .ok (.aload_n 0, 1) := by decide +kernel
theorem dL_isWell_427 : decode cL_isWell 427 = .ok (.bipush 8, 2) := by decide +kernel
theorem dL_isWell_429 : decode cL_isWell 429 = .ok (.invokevirtual 21, 3) := by decide +kernel
theorem dL_isWell_432 : decode cL_isWell 432 = .ok (.if_icmp .ne 64, 3) := by decide +kernel
theorem dL_isWell_435 : decode cL_isWell 435 = .ok (.iload 4, 2) := by decide +kernel
theorem dL_isWell_437 : decode cL_isWell 437 = .ok (.aload_n 0, 1) := by decide +kernel
theorem dL_isWell_438 : decode cL_isWell 438 = .ok (.bipush 9, 2) := by decide +kernel
theorem dL_isWell_440 : decode cL_isWell 440 = .ok (.invokevirtual 21, 3) := by decide +kernel
theorem dL_isWell_443 : decode cL_isWell 443 = .ok (.if_icmp .ne 53, 3) := by decide +kernel
theorem dL_isWell_446 : decode cL_isWell 446 = .ok (.iload 5, 2) := by decide +kernel
theorem dL_isWell_448 : decode cL_isWell 448 = .ok (.aload_n 0, 1) := by decide +kernel
theorem dL_isWell_449 : decode cL_isWell 449 = .ok (.bipush 7, 2) := by decide +kernel
theorem dL_isWell_451 : decode cL_isWell 451 = .ok (.invokevirtual 21, 3) := by decide +kernel
theorem dL_isWell_454 : decode cL_isWell 454 = .ok (.if_icmp .ne 42, 3) := by decide +kernel
theorem dL_isWell_457 : decode cL_isWell 457 = .ok (.iload 6, 2) := by decide +kernel
theorem dL_isWell_459 : decode cL_isWell 459 = .ok (.aload_n 0, 1) := by decide +kernel
theorem dL_isWell_460 : decode cL_isWell 460 = .ok (.iconst 3, 1) := by decide +kernel
theorem dL_isWell_461 : decode cL_isWell 461 = .ok (.invokevirtual 21, 3) := by decide +kernel
theorem dL_isWell_464 : decode cL_isWell 464 = .ok (.if_icmp .ne 32, 3) := by decide +kernel
theorem dL_isWell_467 : decode cL_isWell 467 = .ok (.iload 5, 2) := by decide +kernel
theorem dL_isWell_469 : decode cL_isWell 469 = .ok (.ifCond .ne 7, 3) := by decide +kernel
theorem dL_isWell_472 : decode cL_isWell 472 = .ok (.iconst 1, 1) := by decide +kernel
theorem dL_isWell_473 : decode cL_isWell 473 = .ok (.goto 4, 3) := by decide +kernel
theorem dL_isWell_476 : decode cL_isWell 476 = .ok (.iconst 0, 1) := by decide +kernel
theorem dL_isWell_477 : decode cL_isWell 477 = .ok (.aload_n 0, 1) := by decide +kernel
theorem dL_isWell_478 : decode cL_isWell 478 = .ok (.invokevirtual 94, 3) := by decide +kernel
theorem dL_isWell_481 : decode cL_isWell 481 = .ok (.ifCond .ne 7, 3) := by decide +kernel
theorem dL_isWell_484 : decode cL_isWell 484 = .ok (.iconst 1, 1) := by decide +kernel
theorem dL_isWell_485 : decode cL_isWell 485 = .ok (.goto 4, 3) := by decide +kernel
theorem dL_isWell_488 : decode cL_isWell 488 = .ok (.iconst 0, 1) := by decide +kernel
theorem dL_isWell_489 : decode cL_isWell 489 = .ok (.if_icmp .ne 7, 3) := by decide +kernel
theorem dL_isWell_492 : decode cL_isWell 492 = .ok (.iconst 1, 1) := by decide +kernel
theorem dL_isWell_493 : decode cL_isWell 493 = .ok (.goto 4, 3) := by decide +kernel
theorem dL_isWell_496 : decode cL_isWell 496 = .ok (.iconst 0, 1) := by decide +kernel
theorem dL_isWell_497 : decode cL_isWell 497 = .ok (.ireturn, 1) := by decide +kernel
set_option maxRecDepth 20000 in
theorem ggL_law_X3_init : GoodIn wsL_law wsX3_init := goodIn_r _ [5, 6, 7, 8, 9, 10, 11, 12, 13, 14, 15, 16, 17, 18, 19, 20, 21, 22, 23, 24, 25, 26, 27, 28, 29, 30, 31, 32, 33, 34, 35, 36, 37, 38, 39, 40, 41, 42, 43, 44, 45, 46, 47, 48, 49, 50, 51, 52, 53, 54, 55, 56, 57, 58, 59, 383, 384, 385, 386, 387, 388, 389, 390, 391, 392, 393, 394, 395, 378, 379, 380, 381, 382, 396, 397, 398, 399] (by decide +kernel) (by decide +kernel)
set_option maxRecDepth 20000 in
theorem gL_law_X3_init : GoodIn wsL_law (wsX3_init) := ggL_law_X3_init
set_option maxRecDepth 20000 in
theorem ggL_law_L_cell : GoodIn wsL_law wsL_cell := goodIn_r _ [63, 64] (by decide +kernel) (by decide +kernel)
set_option maxRecDepth 20000 in
theorem gL_law_L_cell : GoodIn wsL_law (va_wsS RL 98 yL_cell wsL_cell) := goodIn_app (goodIn_of _ (by decide +kernel)) ggL_law_L_cell
set_option maxRecDepth 100000 in
theorem ggL_law_L_isStep_0 : GoodIn wsL_law (.code yL_isStep cL_isStep 9 (some .boolean) :: wsL_isStep_r1) := goodIn_r _ [67, 68, 69, 70, 62, 71, 72, 73, 74, 75, 2, 76, 12, 77, 78, 79, 80, 81, 82, 83, 84, 17, 85, 21, 86] (by decide +kernel) (by decide +kernel)
set_option maxRecDepth 100000 in
theorem ggL_law_L_isStep_1 : GoodIn wsL_law wsL_isStep_r2 := goodIn_r _ [87, 88, 89, 90, 91, 92, 93, 11, 94, 95, 96, 97, 98, 36, 99, 100, 101, 102, 29, 103, 104, 105, 106, 107] (by decide +kernel) (by decide +kernel)
set_option maxRecDepth 100000 in
theorem ggL_law_L_isStep_2 : GoodIn wsL_law wsL_isStep_r3 := goodIn_r _ [108, 109, 110, 111, 20, 112, 58, 57, 113, 114, 115, 116, 117, 118, 119, 120, 28, 30, 31, 32, 33, 34, 35, 37] (by decide +kernel) (by decide +kernel)
set_option maxRecDepth 100000 in
theorem ggL_law_L_isStep_3 : GoodIn wsL_law wsL_isStep_r4 := goodIn_r _ [38, 39, 41, 121, 122, 123, 124, 125, 126, 127, 128, 129, 130, 131, 132, 133, 134, 135, 136, 137, 138, 139, 140, 141] (by decide +kernel) (by decide +kernel)
set_option maxRecDepth 100000 in
theorem ggL_law_L_isStep_4 : GoodIn wsL_law wsL_isStep_r5 := goodIn_r _ [142, 143, 144, 145, 146, 147, 148, 149, 150, 151, 152, 153, 154, 155, 156, 157, 158, 159, 160, 161, 162, 163, 164, 165] (by decide +kernel) (by decide +kernel)
set_option maxRecDepth 100000 in
theorem ggL_law_L_isStep_5 : GoodIn wsL_law wsL_isStep_r6 := goodIn_r _ [166, 167, 168, 169, 170, 171, 172, 40, 173, 174, 175, 176, 177, 178, 179, 180, 181, 182, 183, 184, 185, 186, 187, 188] (by decide +kernel) (by decide +kernel)
set_option maxRecDepth 100000 in
theorem ggL_law_L_isStep_6 : GoodIn wsL_law wsL_isStep_r7 := goodIn_r _ [189, 190, 191, 192, 193, 194, 195, 196, 197, 198, 199, 200, 201, 202, 203, 22, 9, 10, 204, 205, 206, 23, 24, 25] (by decide +kernel) (by decide +kernel)
set_option maxRecDepth 100000 in
theorem ggL_law_L_isStep_7 : GoodIn wsL_law wsL_isStep_r8 := goodIn_r _ [26, 7, 8, 27, 42, 43, 44, 45, 207, 208, 209, 210, 211, 212, 213, 214, 215, 216, 217, 218, 219, 220, 221, 222] (by decide +kernel) (by decide +kernel)
set_option maxRecDepth 100000 in
theorem ggL_law_L_isStep_8 : GoodIn wsL_law wsL_isStep_r9 := goodIn_r _ [223, 224, 225, 226, 227, 228, 229, 230, 231, 232, 233, 234, 235, 236, 237, 238, 239, 240, 241, 242, 243, 244, 245, 246] (by decide +kernel) (by decide +kernel)
set_option maxRecDepth 100000 in
theorem ggL_law_L_isStep_9 : GoodIn wsL_law wsL_isStep_r10 := goodIn_r _ [247, 248, 249, 250, 251, 252, 253, 254, 255, 256, 257, 258, 259, 260, 261, 262, 263, 264, 265, 16, 266, 51, 267, 268] (by decide +kernel) (by decide +kernel)
set_option maxRecDepth 100000 in
theorem ggL_law_L_isStep_10 : GoodIn wsL_law wsL_isStep_r11 := goodIn_r _ [269, 270, 271, 272, 273, 274, 275, 276, 277, 278, 279, 280, 281, 282, 283, 284, 285, 286, 50, 287, 288, 289, 290, 291] (by decide +kernel) (by decide +kernel)
set_option maxRecDepth 100000 in
theorem ggL_law_L_isStep_11 : GoodIn wsL_law wsL_isStep_r12 := goodIn_r _ [292, 293, 294, 295, 296, 297, 298, 299, 300, 301, 302, 303, 304, 305, 306, 307, 308, 309, 310, 311, 312, 313, 314, 315] (by decide +kernel) (by decide +kernel)
set_option maxRecDepth 100000 in
theorem ggL_law_L_isStep_12 : GoodIn wsL_law wsL_isStep_r13 := goodIn_r _ [316, 317, 318, 319, 320, 321, 322, 323, 324, 325, 326, 327, 328, 329, 330, 331, 332, 333] (by decide +kernel) (by decide +kernel)
set_option maxRecDepth 100000 in
theorem ggL_law_L_isStep_wsX30 : GoodIn wsL_law wsX30 := goodIn_r _ [378, 379, 380, 381, 382] (by decide +kernel) (by decide +kernel)
set_option maxRecDepth 100000 in
theorem ggL_law_L_isStep_wsX20 : GoodIn wsL_law wsX20 := goodIn_r _ [383, 384, 385, 386, 387, 388, 389, 390, 391, 392, 393, 394, 395] (by decide +kernel) (by decide +kernel)
set_option maxRecDepth 100000 in
theorem ggL_law_L_isStep_wsX10 : GoodIn wsL_law wsX10 := goodIn_r _ [396, 397] (by decide +kernel) (by decide +kernel)
set_option maxRecDepth 100000 in
theorem ggL_law_L_isStep_wsX00 : GoodIn wsL_law wsX00 := goodIn_r _ [398, 399] (by decide +kernel) (by decide +kernel)
theorem ggL_law_L_isStep : GoodIn wsL_law wsL_isStep := by
  unfold wsL_isStep
  exact goodIn_ca (goodIn_ca (goodIn_ca (goodIn_ca (goodIn_ca ggL_law_L_isStep_0 (goodIn_app ggL_law_L_isStep_1 (goodIn_app ggL_law_L_isStep_2 (goodIn_app ggL_law_L_isStep_3 (goodIn_app ggL_law_L_isStep_4 (goodIn_app ggL_law_L_isStep_5 (goodIn_app ggL_law_L_isStep_6 (goodIn_app ggL_law_L_isStep_7 (goodIn_app ggL_law_L_isStep_8 (goodIn_app ggL_law_L_isStep_9 (goodIn_app ggL_law_L_isStep_10 (goodIn_app ggL_law_L_isStep_11 (ggL_law_L_isStep_12))))))))))))) ggL_law_L_isStep_wsX30) ggL_law_L_isStep_wsX20) ggL_law_L_isStep_wsX10) ggL_law_L_isStep_wsX00
set_option maxRecDepth 20000 in
theorem gL_law_L_isStep : GoodIn wsL_law (va_wsS RL 102 yL_isStep wsL_isStep) := goodIn_app (goodIn_of _ (by decide +kernel)) ggL_law_L_isStep
set_option maxRecDepth 100000 in
theorem ggL_law_L_isWell_0 : GoodIn wsL_law (.code yL_isWell cL_isWell 12 (some .boolean) :: wsL_isWell_r1) := goodIn_r _ [336, 337, 338, 339, 340, 2, 341, 12, 87, 342, 343, 344, 11, 345, 346, 347, 348, 349, 227, 228, 144, 145, 146, 147, 148] (by decide +kernel) (by decide +kernel)
set_option maxRecDepth 100000 in
theorem ggL_law_L_isWell_1 : GoodIn wsL_law wsL_isWell_r2 := goodIn_r _ [149, 150, 95, 96, 97, 98, 36, 99, 100, 101, 102, 29, 103, 104, 350, 351, 352, 353, 354, 179, 180, 181, 182, 183] (by decide +kernel) (by decide +kernel)
set_option maxRecDepth 100000 in
theorem ggL_law_L_isWell_2 : GoodIn wsL_law wsL_isWell_r3 := goodIn_r _ [184, 158, 159, 160, 161, 136, 83, 81, 162, 163, 82, 140, 141, 142, 164, 165, 166, 167, 168, 169, 170, 171, 172, 40] (by decide +kernel) (by decide +kernel)
set_option maxRecDepth 100000 in
theorem ggL_law_L_isWell_3 : GoodIn wsL_law wsL_isWell_r4 := goodIn_r _ [132, 133, 134, 135, 137, 80, 138, 139, 143, 73, 74, 75, 76, 77, 78, 79, 84, 17, 85, 21, 86, 88, 89, 90] (by decide +kernel) (by decide +kernel)
set_option maxRecDepth 100000 in
theorem ggL_law_L_isWell_4 : GoodIn wsL_law wsL_isWell_r5 := goodIn_r _ [91, 92, 93, 94, 355, 356, 357, 358, 13, 257, 207, 118, 119, 120, 28, 30, 31, 32, 33, 34, 35, 37, 38, 39] (by decide +kernel) (by decide +kernel)
set_option maxRecDepth 100000 in
theorem ggL_law_L_isWell_5 : GoodIn wsL_law wsL_isWell_r6 := goodIn_r _ [41, 121, 122, 123, 124, 125, 126, 127, 128, 129, 130, 131, 359, 360, 361, 362, 363, 364, 365, 366, 233, 234, 235, 236] (by decide +kernel) (by decide +kernel)
set_option maxRecDepth 100000 in
theorem ggL_law_L_isWell_6 : GoodIn wsL_law wsL_isWell_r7 := goodIn_r _ [241, 242, 243, 244, 223, 224, 225, 226, 229, 230, 231, 232, 237, 238, 239, 240, 245, 246, 247, 248, 249, 250, 251, 252] (by decide +kernel) (by decide +kernel)
set_option maxRecDepth 100000 in
theorem ggL_law_L_isWell_wsX30 : GoodIn wsL_law wsX30 := goodIn_r _ [378, 379, 380, 381, 382] (by decide +kernel) (by decide +kernel)
set_option maxRecDepth 100000 in
theorem ggL_law_L_isWell_wsX20 : GoodIn wsL_law wsX20 := goodIn_r _ [383, 384, 385, 386, 387, 388, 389, 390, 391, 392, 393, 394, 395] (by decide +kernel) (by decide +kernel)
set_option maxRecDepth 100000 in
theorem ggL_law_L_isWell_wsX10 : GoodIn wsL_law wsX10 := goodIn_r _ [396, 397] (by decide +kernel) (by decide +kernel)
set_option maxRecDepth 100000 in
theorem ggL_law_L_isWell_wsX00 : GoodIn wsL_law wsX00 := goodIn_r _ [398, 399] (by decide +kernel) (by decide +kernel)
theorem ggL_law_L_isWell : GoodIn wsL_law wsL_isWell := by
  unfold wsL_isWell
  exact goodIn_ca (goodIn_ca (goodIn_ca (goodIn_ca (goodIn_ca ggL_law_L_isWell_0 (goodIn_app ggL_law_L_isWell_1 (goodIn_app ggL_law_L_isWell_2 (goodIn_app ggL_law_L_isWell_3 (goodIn_app ggL_law_L_isWell_4 (goodIn_app ggL_law_L_isWell_5 (ggL_law_L_isWell_6))))))) ggL_law_L_isWell_wsX30) ggL_law_L_isWell_wsX20) ggL_law_L_isWell_wsX10) ggL_law_L_isWell_wsX00
set_option maxRecDepth 20000 in
theorem gL_law_L_isWell : GoodIn wsL_law (va_wsS RL 106 yL_isWell wsL_isWell) := goodIn_app (goodIn_of _ (by decide +kernel)) ggL_law_L_isWell
set_option maxRecDepth 100000 in
theorem ggL_law_L_areAlike_0 : GoodIn wsL_law (.code yL_areAlike cL_areAlike 8 (some .boolean) :: wsL_areAlike_r1) := goodIn_r _ [369, 69, 70, 62, 71, 72, 370, 371, 372, 2, 373, 87, 12, 359, 360, 361, 11, 362, 227, 228, 144, 145, 146, 147, 148] (by decide +kernel) (by decide +kernel)
set_option maxRecDepth 100000 in
theorem ggL_law_L_areAlike_1 : GoodIn wsL_law wsL_areAlike_r2 := goodIn_r _ [149, 150, 363, 364, 365, 366, 29, 36, 233, 234, 235, 236, 30, 28, 99, 100, 101, 102, 354, 179, 180, 181, 182, 183] (by decide +kernel) (by decide +kernel)
set_option maxRecDepth 100000 in
theorem ggL_law_L_areAlike_2 : GoodIn wsL_law wsL_areAlike_r3 := goodIn_r _ [184, 241, 242, 243, 244, 35, 103, 104, 338, 339, 340, 341, 342, 343, 344, 345, 346, 347, 348, 349, 95, 96, 97, 98] (by decide +kernel) (by decide +kernel)
set_option maxRecDepth 100000 in
theorem ggL_law_L_areAlike_3 : GoodIn wsL_law wsL_areAlike_r4 := goodIn_r _ [350, 351, 352, 353, 73, 74, 75, 76, 77, 78, 79, 80, 81, 82, 83, 84, 17, 85, 21, 86, 88, 89, 90, 91] (by decide +kernel) (by decide +kernel)
set_option maxRecDepth 100000 in
theorem ggL_law_L_areAlike_4 : GoodIn wsL_law wsL_areAlike_r5 := goodIn_r _ [92, 93, 94, 185, 186, 187, 374, 375, 376, 377, 220, 221, 222, 267, 268, 269, 253, 254, 255, 256, 136, 257, 140, 141] (by decide +kernel) (by decide +kernel)
set_option maxRecDepth 100000 in
theorem ggL_law_L_areAlike_5 : GoodIn wsL_law wsL_areAlike_r6 := goodIn_r _ [142, 258, 155, 156, 157, 158, 159, 160, 161, 162, 163, 164, 165, 166, 167, 168, 169, 170, 171, 172, 40, 132, 133, 134] (by decide +kernel) (by decide +kernel)
set_option maxRecDepth 100000 in
theorem ggL_law_L_areAlike_6 : GoodIn wsL_law wsL_areAlike_r7 := goodIn_r _ [135, 137, 138, 139, 143] (by decide +kernel) (by decide +kernel)
set_option maxRecDepth 100000 in
theorem ggL_law_L_areAlike_wsX30 : GoodIn wsL_law wsX30 := goodIn_r _ [378, 379, 380, 381, 382] (by decide +kernel) (by decide +kernel)
set_option maxRecDepth 100000 in
theorem ggL_law_L_areAlike_wsX20 : GoodIn wsL_law wsX20 := goodIn_r _ [383, 384, 385, 386, 387, 388, 389, 390, 391, 392, 393, 394, 395] (by decide +kernel) (by decide +kernel)
set_option maxRecDepth 100000 in
theorem ggL_law_L_areAlike_wsX10 : GoodIn wsL_law wsX10 := goodIn_r _ [396, 397] (by decide +kernel) (by decide +kernel)
set_option maxRecDepth 100000 in
theorem ggL_law_L_areAlike_wsX00 : GoodIn wsL_law wsX00 := goodIn_r _ [398, 399] (by decide +kernel) (by decide +kernel)
theorem ggL_law_L_areAlike : GoodIn wsL_law wsL_areAlike := by
  unfold wsL_areAlike
  exact goodIn_ca (goodIn_ca (goodIn_ca (goodIn_ca (goodIn_ca ggL_law_L_areAlike_0 (goodIn_app ggL_law_L_areAlike_1 (goodIn_app ggL_law_L_areAlike_2 (goodIn_app ggL_law_L_areAlike_3 (goodIn_app ggL_law_L_areAlike_4 (goodIn_app ggL_law_L_areAlike_5 (ggL_law_L_areAlike_6))))))) ggL_law_L_areAlike_wsX30) ggL_law_L_areAlike_wsX20) ggL_law_L_areAlike_wsX10) ggL_law_L_areAlike_wsX00
set_option maxRecDepth 20000 in
theorem gL_law_L_areAlike : GoodIn wsL_law (va_wsS RL 110 yL_areAlike wsL_areAlike) := goodIn_app (goodIn_of _ (by decide +kernel)) ggL_law_L_areAlike
theorem dL_law_0 : decode cL_law 0 = .ok (.new 10, 3) := by decide +kernel
theorem dL_law_3 : decode cL_law 3 = .ok (.dup, 1) := by decide +kernel
theorem dL_law_4 : decode cL_law 4 = .ok (.invokespecial 97, 3) := by decide +kernel
theorem dL_law_7 : decode cL_law 7 = .ok (.astore_n 1, 1) := by decide +kernel
theorem dL_law_8 : decode cL_law 8 = .ok (.new 10, 3) := by decide +kernel
theorem dL_law_11 : decode cL_law 11 = .ok (.dup, 1) := by decide +kernel
theorem dL_law_12 : decode cL_law 12 = .ok (.invokespecial 97, 3) := by decide +kernel
theorem dL_law_15 : decode cL_law 15 = .ok (.astore_n 2, 1) := by decide +kernel
theorem dL_law_16 : decode cL_law 16 = .ok (.iconst 1, 1) := by decide +kernel
theorem dL_law_17 : decode cL_law 17 = .ok (.istore_n 3, 1) := by decide +kernel
theorem dL_law_18 : decode cL_law 18 = .ok (.iconst 0, 1) := by decide +kernel
theorem dL_law_19 : decode cL_law 19 = .ok (.istore 4, 2) := by decide +kernel
theorem dL_law_21 : decode cL_law 21 = .ok (.iload 4, 2) := by decide +kernel
theorem dL_law_23 : decode cL_law 23 = .ok (.bipush 60, 2) := by decide +kernel
theorem dL_law_25 : decode cL_law 25 = .ok (.if_icmp .ge 57, 3) := by decide +kernel
theorem dL_law_28 : decode cL_law 28 = .ok (.iload_n 3, 1) := by decide +kernel
theorem dL_law_29 : decode cL_law 29 = .ok (.ifCond .eq 53, 3) := by decide +kernel
theorem dL_law_32 : decode cL_law 32 = .ok (.aload_n 1, 1) := by decide +kernel
theorem dL_law_33 : decode cL_law 33 = .ok (.aload_n 2, 1) := by decide +kernel
theorem dL_law_34 : decode cL_law 34 = .ok (.aload_n 0, 1) := by decide +kernel
theorem dL_law_35 : decode cL_law 35 = .ok (.iload 4, 2) := by decide +kernel
theorem dL_law_37 : decode cL_law 37 = .ok (.invokestatic 98, 3) := by decide +kernel
theorem dL_law_40 : decode cL_law 40 = .ok (.aload_n 0, 1) := by decide +kernel
theorem dL_law_41 : decode cL_law 41 = .ok (.iload 4, 2) := by decide +kernel
theorem dL_law_43 : decode cL_law 43 = .ok (.iconst 1, 1) := by decide +kernel
theorem dL_law_44 : decode cL_law 44 = .ok (.iadd, 1) := by decide +kernel
theorem dL_law_45 : decode cL_law 45 = .ok (.invokestatic 98, 3) := by decide +kernel
theorem dL_law_48 : decode cL_law 48 = .ok (.iconst 2, 1) := by decide +kernel
theorem dL_law_49 : decode cL_law 49 = .ok (.ishr, 1) := by decide +kernel
theorem dL_law_50 : decode cL_law 50 = .ok (.invokestatic 102, 3) := by decide +kernel
theorem dL_law_53 : decode cL_law 53 = .ok (.ifCond .eq 21, 3) := by decide +kernel
theorem dL_law_56 : decode cL_law 56 = .ok (.iload 4, 2) := by decide +kernel
theorem dL_law_58 : decode cL_law 58 = .ok (.iconst 4, 1) := by decide +kernel
theorem dL_law_59 : decode cL_law 59 = .ok (.irem, 1) := by decide +kernel
theorem dL_law_60 : decode cL_law 60 = .ok (.ifCond .gt 10, 3) := by decide +kernel
theorem dL_law_63 : decode cL_law 63 = .ok (.aload_n 1, 1) := by decide +kernel
theorem dL_law_64 : decode cL_law 64 = .ok (.invokestatic 106, 3) := by decide +kernel
theorem dL_law_67 : decode cL_law 67 = .ok (.ifCond .eq 7, 3) := by decide +kernel
theorem dL_law_70 : decode cL_law 70 = .ok (.iconst 1, 1) := by decide +kernel
theorem dL_law_71 : decode cL_law 71 = .ok (.goto 4, 3) := by decide +kernel
theorem dL_law_74 : decode cL_law 74 = .ok (.iconst 0, 1) := by decide +kernel
theorem dL_law_75 : decode cL_law 75 = .ok (.istore_n 3, 1) := by decide +kernel
theorem dL_law_76 : decode cL_law 76 = .ok (.iinc 4 1, 3) := by decide +kernel
theorem dL_law_79 : decode cL_law 79 = .ok (.goto (-58), 3) := by decide +kernel
theorem dL_law_82 : decode cL_law 82 = .ok (.iload_n 3, 1) := by decide +kernel
theorem dL_law_83 : decode cL_law 83 = .ok (.ifCond .eq 28, 3) := by decide +kernel
theorem dL_law_86 : decode cL_law 86 = .ok (.aload_n 1, 1) := by decide +kernel
theorem dL_law_87 : decode cL_law 87 = .ok (.invokestatic 106, 3) := by decide +kernel
theorem dL_law_90 : decode cL_law 90 = .ok (.ifCond .eq 21, 3) := by decide +kernel
theorem dL_law_93 : decode cL_law 93 = .ok (.aload_n 1, 1) := by decide +kernel
theorem dL_law_94 : decode cL_law 94 = .ok (.aload_n 2, 1) := by decide +kernel
theorem dL_law_95 : decode cL_law 95 = .ok (.aload_n 0, 1) := by decide +kernel
theorem dL_law_96 : decode cL_law 96 = .ok (.bipush 60, 2) := by decide +kernel
theorem dL_law_98 : decode cL_law 98 = .ok (.invokestatic 98, 3) := by decide +kernel
theorem dL_law_101 : decode cL_law 101 = .ok (.invokestatic 110, 3) := by decide +kernel
theorem dL_law_104 : decode cL_law 104 = .ok (.ifCond .eq 7, 3) := by decide +kernel
theorem dL_law_107 : decode cL_law 107 = .ok (.iconst 1, 1) := by decide +kernel
theorem dL_law_108 : decode cL_law 108 = .ok (.goto 4, 3) := by decide +kernel
theorem dL_law_111 : decode cL_law 111 = .ok (.iconst 0, 1) := by decide +kernel
theorem dL_law_112 : decode cL_law 112 = .ok (.ireturn, 1) := by decide +kernel


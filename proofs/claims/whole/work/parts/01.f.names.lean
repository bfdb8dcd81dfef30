theorem dX4_weight_0 : decode cX4_weight 0 = .ok (.aload_n 0, 1) := by decide +kernel
theorem dX4_weight_1 : decode cX4_weight 1 = .ok (.invokevirtual 110, 3) := by decide +kernel
theorem dX4_weight_4 : decode cX4_weight 4 = .ok (.iload_n 1, 1) := by decide +kernel
theorem dX4_weight_5 : decode cX4_weight 5 = .ok (.ifCond .lt 8, 3) := by decide +kernel
theorem dX4_weight_8 : decode cX4_weight 8 = .ok (.iload_n 1, 1) := by decide +kernel
theorem dX4_weight_9 : decode cX4_weight 9 = .ok (.iconst 3, 1) := by decide +kernel
theorem dX4_weight_10 : decode cX4_weight 10 = .ok (.if_icmp .le 7, 3) := by decide +kernel
theorem dX4_weight_13 : decode cX4_weight 13 = .ok (.ldc2_w 67, 3) := by decide +kernel
theorem dX4_weight_16 : decode cX4_weight 16 = .ok (.lreturn, 1) := by decide +kernel
theorem dX4_weight_17 : decode cX4_weight 17 = .ok (.iconst 0, 1) := by decide +kernel
theorem dX4_weight_18 : decode cX4_weight 18 = .ok (.istore_n 2, 1) := by decide +kernel
theorem dX4_weight_19 : decode cX4_weight 19 = .ok (.iload_n 2, 1) := by decide +kernel
theorem dX4_weight_20 : decode cX4_weight 20 = .ok (.aload_n 0, 1) := by decide +kernel
theorem dX4_weight_21 : decode cX4_weight 21 = .ok (.getfield 7, 3) := by decide +kernel
theorem dX4_weight_24 : decode cX4_weight 24 = .ok (.if_icmp .ge 16, 3) := by decide +kernel
theorem dX4_weight_27 : decode cX4_weight 27 = .ok (.aload_n 0, 1) := by decide +kernel
theorem dX4_weight_28 : decode cX4_weight 28 = .ok (.getfield 53, 3) := by decide +kernel
theorem dX4_weight_31 : decode cX4_weight 31 = .ok (.iload_n 2, 1) := by decide +kernel
theorem dX4_weight_32 : decode cX4_weight 32 = .ok (.iload_n 2, 1) := by decide +kernel
theorem dX4_weight_33 : decode cX4_weight 33 = .ok (.iastore, 1) := by decide +kernel
theorem dX4_weight_34 : decode cX4_weight 34 = .ok (.iinc 2 1, 3) := by decide +kernel
theorem dX4_weight_37 : decode cX4_weight 37 = .ok (.goto (-18), 3) := by decide +kernel
theorem dX4_weight_40 : decode cX4_weight 40 = .ok (.iload_n 1, 1) := by decide +kernel
theorem dX4_weight_41 : decode cX4_weight 41 = .ok (.ifCond .ne 32, 3) := by decide +kernel
theorem dX4_weight_44 : decode cX4_weight 44 = .ok (.aload_n 0, 1) := by decide +kernel
theorem dX4_weight_45 : decode cX4_weight 45 = .ok (.aload_n 0, 1) := by decide +kernel
theorem dX4_weight_46 : decode cX4_weight 46 = .ok (.getfield 99, 3) := by decide +kernel
theorem dX4_weight_49 : decode cX4_weight 49 = .ok (.ifCond .eq 10, 3) := by decide +kernel
theorem dX4_weight_52 : decode cX4_weight 52 = .ok (.aload_n 0, 1) := by decide +kernel
theorem dX4_weight_53 : decode cX4_weight 53 = .ok (.getfield 41, 3) := by decide +kernel
theorem dX4_weight_56 : decode cX4_weight 56 = .ok (.goto 7, 3) := by decide +kernel
theorem dX4_weight_59 : decode cX4_weight 59 = .ok (.aload_n 0, 1) := by decide +kernel
theorem dX4_weight_60 : decode cX4_weight 60 = .ok (.getfield 44, 3) := by decide +kernel
theorem dX4_weight_63 : decode cX4_weight 63 = .ok (.aload_n 0, 1) := by decide +kernel
theorem dX4_weight_64 : decode cX4_weight 64 = .ok (.getfield 86, 3) := by decide +kernel
theorem dX4_weight_67 : decode cX4_weight 67 = .ok (.invokevirtual 95, 3) := by decide +kernel
theorem dX4_weight_70 : decode cX4_weight 70 = .ok (.goto 55, 3) := by decide +kernel
theorem dX4_weight_73 : decode cX4_weight 73 = .ok (.iload_n 1, 1) := by decide +kernel
theorem dX4_weight_74 : decode cX4_weight 74 = .ok (.iconst 1, 1) := by decide +kernel
theorem dX4_weight_75 : decode cX4_weight 75 = .ok (.if_icmp .ne 18, 3) := by decide +kernel
theorem dX4_weight_78 : decode cX4_weight 78 = .ok (.aload_n 0, 1) := by decide +kernel
theorem dX4_weight_79 : decode cX4_weight 79 = .ok (.aload_n 0, 1) := by decide +kernel
theorem dX4_weight_80 : decode cX4_weight 80 = .ok (.getfield 44, 3) := by decide +kernel
theorem dX4_weight_83 : decode cX4_weight 83 = .ok (.aload_n 0, 1) := by decide +kernel
theorem dX4_weight_84 : decode cX4_weight 84 = .ok (.getfield 86, 3) := by decide +kernel
theorem dX4_weight_87 : decode cX4_weight 87 = .ok (.invokevirtual 95, 3) := by decide +kernel
theorem dX4_weight_90 : decode cX4_weight 90 = .ok (.goto 35, 3) := by decide +kernel
theorem dX4_weight_93 : decode cX4_weight 93 = .ok (.iload_n 1, 1) := by decide +kernel
theorem dX4_weight_94 : decode cX4_weight 94 = .ok (.iconst 2, 1) := by decide +kernel
theorem dX4_weight_95 : decode cX4_weight 95 = .ok (.if_icmp .ne 18, 3) := by decide +kernel
theorem dX4_weight_98 : decode cX4_weight 98 = .ok (.aload_n 0, 1) := by decide +kernel
theorem dX4_weight_99 : decode cX4_weight 99 = .ok (.aload_n 0, 1) := by decide +kernel
theorem dX4_weight_100 : decode cX4_weight 100 = .ok (.getfield 53, 3) := by decide +kernel
theorem dX4_weight_103 : decode cX4_weight 103 = .ok (.aload_n 0, 1) := by decide +kernel
theorem dX4_weight_104 : decode cX4_weight 104 = .ok (.getfield 7, 3) := by decide +kernel
theorem dX4_weight_107 : decode cX4_weight 107 = .ok (.invokevirtual 95, 3) := by decide +kernel
theorem dX4_weight_110 : decode cX4_weight 110 = .ok (.goto 15, 3) := by decide +kernel
theorem dX4_weight_113 : decode cX4_weight 113 = .ok (.aload_n 0, 1) := by decide +kernel
theorem dX4_weight_114 : decode cX4_weight 114 = .ok (.aload_n 0, 1) := by decide +kernel
theorem dX4_weight_115 : decode cX4_weight 115 = .ok (.getfield 41, 3) := by decide +kernel
theorem dX4_weight_118 : decode cX4_weight 118 = .ok (.aload_n 0, 1) := by decide +kernel
theorem dX4_weight_119 : decode cX4_weight 119 = .ok (.getfield 86, 3) := by decide +kernel
theorem dX4_weight_122 : decode cX4_weight 122 = .ok (.invokevirtual 95, 3) := by decide +kernel
theorem dX4_weight_125 : decode cX4_weight 125 = .ok (.lreturn, 1) := by decide +kernel
set_option maxRecDepth 20000 in
theorem ggX4_chain_X4_know : GoodIn wsX4_chain wsX4_know := goodIn_r _ [8, 9, 10, 11, 3, 1, 12, 2, 13, 14, 15, 16, 17, 18, 7, 19, 20, 21, 22, 23, 24, 25, 26, 27, 28, 29, 30, 31, 32, 33, 34, 35, 36, 37, 38, 39, 40, 41, 42, 43, 44, 45, 46, 47, 52, 53, 54, 55, 56, 57, 58, 59, 60, 61, 62, 63, 64, 65, 66, 67, 68, 69] (by decide +kernel) (by decide +kernel)
set_option maxRecDepth 20000 in
theorem gX4_chain_X4_know : GoodIn wsX4_chain (wsV RX4 110 RX4 yX4_know wsX4_know) := goodIn_app (goodIn_of _ (by decide +kernel)) ggX4_chain_X4_know
set_option maxRecDepth 20000 in
theorem ggX4_chain_X4_isBlock : GoodIn wsX4_chain wsX4_isBlock := goodIn_r _ [51, 11, 52, 53, 54, 55, 56, 57, 58, 59, 60, 61, 62, 63, 64, 65, 66, 67, 68, 69] (by decide +kernel) (by decide +kernel)
set_option maxRecDepth 20000 in
theorem gX4_chain_X4_isBlock : GoodIn wsX4_chain (wsV RX4 63 RX4 yX4_isBlock wsX4_isBlock) := goodIn_app (goodIn_of _ (by decide +kernel)) ggX4_chain_X4_isBlock
theorem dX4_chain_0 : decode cX4_chain 0 = .ok (.aload_n 0, 1) := by decide +kernel
theorem dX4_chain_1 : decode cX4_chain 1 = .ok (.invokevirtual 110, 3) := by decide +kernel
theorem dX4_chain_4 : decode cX4_chain 4 = .ok (.aload_n 0, 1) := by decide +kernel
theorem dX4_chain_5 : decode cX4_chain 5 = .ok (.iload_n 1, 1) := by decide +kernel
theorem dX4_chain_6 : decode cX4_chain 6 = .ok (.invokevirtual 63, 3) := by decide +kernel
theorem dX4_chain_9 : decode cX4_chain 9 = .ok (.ifCond .eq 12, 3) := by decide +kernel
theorem dX4_chain_12 : decode cX4_chain 12 = .ok (.aload_n 0, 1) := by decide +kernel
theorem dX4_chain_13 : decode cX4_chain 13 = .ok (.getfield 13, 3) := by decide +kernel
theorem dX4_chain_16 : decode cX4_chain 16 = .ok (.iload_n 1, 1) := by decide +kernel
theorem dX4_chain_17 : decode cX4_chain 17 = .ok (.baload, 1) := by decide +kernel
theorem dX4_chain_18 : decode cX4_chain 18 = .ok (.ifCond .ne 7, 3) := by decide +kernel
theorem dX4_chain_21 : decode cX4_chain 21 = .ok (.iconst (-1), 1) := by decide +kernel
theorem dX4_chain_22 : decode cX4_chain 22 = .ok (.goto 18, 3) := by decide +kernel
theorem dX4_chain_25 : decode cX4_chain 25 = .ok (.aload_n 0, 1) := by decide +kernel
theorem dX4_chain_26 : decode cX4_chain 26 = .ok (.getfield 32, 3) := by decide +kernel
theorem dX4_chain_29 : decode cX4_chain 29 = .ok (.sipush 200, 3) := by decide +kernel
theorem dX4_chain_32 : decode cX4_chain 32 = .ok (.aload_n 0, 1) := by decide +kernel
theorem dX4_chain_33 : decode cX4_chain 33 = .ok (.getfield 38, 3) := by decide +kernel
theorem dX4_chain_36 : decode cX4_chain 36 = .ok (.iload_n 1, 1) := by decide +kernel
theorem dX4_chain_37 : decode cX4_chain 37 = .ok (.iaload, 1) := by decide +kernel
theorem dX4_chain_38 : decode cX4_chain 38 = .ok (.imul, 1) := by decide +kernel
theorem dX4_chain_39 : decode cX4_chain 39 = .ok (.iaload, 1) := by decide +kernel
theorem dX4_chain_40 : decode cX4_chain 40 = .ok (.ireturn, 1) := by decide +kernel
theorem dJ9_min_f86c9_0 : decode cJ9_min_f86c9 0 = .ok (.lload_n 0, 1) := by decide +kernel
theorem dJ9_min_f86c9_1 : decode cJ9_min_f86c9 1 = .ok (.lload_n 2, 1) := by decide +kernel
theorem dJ9_min_f86c9_2 : decode cJ9_min_f86c9 2 = .ok (.lcmp, 1) := by decide +kernel
theorem dJ9_min_f86c9_3 : decode cJ9_min_f86c9 3 = .ok (.ifCond .gt 7, 3) := by decide +kernel
theorem dJ9_min_f86c9_6 : decode cJ9_min_f86c9 6 = .ok (.lload_n 0, 1) := by decide +kernel
theorem dJ9_min_f86c9_7 : decode cJ9_min_f86c9 7 = .ok (.goto 4, 3) := by decide +kernel
theorem dJ9_min_f86c9_10 : decode cJ9_min_f86c9 10 = .ok (.lload_n 2, 1) := by decide +kernel
theorem dJ9_min_f86c9_11 : decode cJ9_min_f86c9 11 = .ok (.lreturn, 1) := by decide +kernel
theorem dJ7_fill_d0a16_0 : decode cJ7_fill_d0a16 0 = .ok (.iconst 0, 1) := by decide +kernel
theorem dJ7_fill_d0a16_1 : decode cJ7_fill_d0a16 1 = .ok (.istore_n 3, 1) := by decide +kernel
theorem dJ7_fill_d0a16_2 : decode cJ7_fill_d0a16 2 = .ok (.aload_n 0, 1) := by decide +kernel
theorem dJ7_fill_d0a16_3 : decode cJ7_fill_d0a16 3 = .ok (.arraylength, 1) := by decide +kernel
theorem dJ7_fill_d0a16_4 : decode cJ7_fill_d0a16 4 = .ok (.istore 4, 2) := by decide +kernel
theorem dJ7_fill_d0a16_6 : decode cJ7_fill_d0a16 6 = .ok (.iload_n 3, 1) := by decide +kernel
theorem dJ7_fill_d0a16_7 : decode cJ7_fill_d0a16 7 = .ok (.iload 4, 2) := by decide +kernel
theorem dJ7_fill_d0a16_9 : decode cJ7_fill_d0a16 9 = .ok (.if_icmp .ge 13, 3) := by decide +kernel
theorem dJ7_fill_d0a16_12 : decode cJ7_fill_d0a16 12 = .ok (.aload_n 0, 1) := by decide +kernel
theorem dJ7_fill_d0a16_13 : decode cJ7_fill_d0a16 13 = .ok (.iload_n 3, 1) := by decide +kernel
theorem dJ7_fill_d0a16_14 : decode cJ7_fill_d0a16 14 = .ok (.lload_n 1, 1) := by decide +kernel
theorem dJ7_fill_d0a16_15 : decode cJ7_fill_d0a16 15 = .ok (.lastore, 1) := by decide +kernel
theorem dJ7_fill_d0a16_16 : decode cJ7_fill_d0a16 16 = .ok (.iinc 3 1, 3) := by decide +kernel
theorem dJ7_fill_d0a16_19 : decode cJ7_fill_d0a16 19 = .ok (.goto (-13), 3) := by decide +kernel
theorem dJ7_fill_d0a16_22 : decode cJ7_fill_d0a16 22 = .ok (.return_, 1) := by decide +kernel
theorem dJ7_fill_53178_0 : decode cJ7_fill_53178 0 = .ok (.iconst 0, 1) := by decide +kernel
theorem dJ7_fill_53178_1 : decode cJ7_fill_53178 1 = .ok (.istore_n 2, 1) := by decide +kernel
theorem dJ7_fill_53178_2 : decode cJ7_fill_53178 2 = .ok (.aload_n 0, 1) := by decide +kernel
theorem dJ7_fill_53178_3 : decode cJ7_fill_53178 3 = .ok (.arraylength, 1) := by decide +kernel
theorem dJ7_fill_53178_4 : decode cJ7_fill_53178 4 = .ok (.istore_n 3, 1) := by decide +kernel
theorem dJ7_fill_53178_5 : decode cJ7_fill_53178 5 = .ok (.iload_n 2, 1) := by decide +kernel
theorem dJ7_fill_53178_6 : decode cJ7_fill_53178 6 = .ok (.iload_n 3, 1) := by decide +kernel
theorem dJ7_fill_53178_7 : decode cJ7_fill_53178 7 = .ok (.if_icmp .ge 13, 3) := by decide +kernel
theorem dJ7_fill_53178_10 : decode cJ7_fill_53178 10 = .ok (.aload_n 0, 1) := by decide +kernel
theorem dJ7_fill_53178_11 : decode cJ7_fill_53178 11 = .ok (.iload_n 2, 1) := by decide +kernel
theorem dJ7_fill_53178_12 : decode cJ7_fill_53178 12 = .ok (.iload_n 1, 1) := by decide +kernel
theorem dJ7_fill_53178_13 : decode cJ7_fill_53178 13 = .ok (.iastore, 1) := by decide +kernel
theorem dJ7_fill_53178_14 : decode cJ7_fill_53178 14 = .ok (.iinc 2 1, 3) := by decide +kernel
theorem dJ7_fill_53178_17 : decode cJ7_fill_53178 17 = .ok (.goto (-12), 3) := by decide +kernel
theorem dJ7_fill_53178_20 : decode cJ7_fill_53178 20 = .ok (.return_, 1) := by decide +kernel
set_option maxRecDepth 20000 in
theorem ggL_law_X3_init : GoodIn wsL_law wsX3_init := goodIn_r _ [8, 9, 10, 11, 12, 13, 14, 15, 16, 17, 18, 19, 20, 21, 22, 23, 24, 25, 26, 27, 28, 29, 30, 31, 32, 33, 34, 35, 36, 37, 38, 39, 40, 41, 42, 43, 44, 45, 46, 47, 48, 49, 316, 317, 318, 319, 320, 321, 322, 323, 324, 325, 326, 345, 346, 347, 348, 349, 350, 351, 352, 353, 354, 355] (by decide +kernel) (by decide +kernel)
set_option maxRecDepth 20000 in
theorem gL_law_X3_init : GoodIn wsL_law (wsX3_init) := ggL_law_X3_init
set_option maxRecDepth 20000 in
theorem ggL_law_X4_init : GoodIn wsL_law wsX4_init := goodIn_r _ [52, 53, 10, 11, 54, 12, 55, 33, 56, 57, 36, 58, 59, 60, 61, 62, 63, 64, 65, 66, 67, 68, 327, 328, 329, 330, 331, 332, 333, 334, 335, 336, 337, 338, 339, 340, 341, 342, 343, 344] (by decide +kernel) (by decide +kernel)
set_option maxRecDepth 20000 in
theorem gL_law_X4_init : GoodIn wsL_law (wsX4_init) := ggL_law_X4_init
set_option maxRecDepth 20000 in
theorem ggL_law_X3_size : GoodIn wsL_law wsX3_size := goodIn_r _ [72, 28, 13, 17, 29, 73, 74, 75, 16, 76, 77, 316, 317, 318, 319, 320, 321, 322, 323, 324, 325, 326, 345, 346, 347, 348, 349] (by decide +kernel) (by decide +kernel)
set_option maxRecDepth 20000 in
theorem gL_law_X3_size : GoodIn wsL_law (wsV RL 13 RX3 yX3_size wsX3_size) := goodIn_app (goodIn_of _ (by decide +kernel)) ggL_law_X3_size
set_option maxRecDepth 20000 in
theorem ggL_law_X4_size : GoodIn wsL_law wsX4_size := goodIn_r _ [81, 54, 82, 55, 83, 327, 328, 329, 330, 331, 332, 333, 334, 335, 336, 337, 338, 339, 340, 341, 342, 343, 344] (by decide +kernel) (by decide +kernel)
set_option maxRecDepth 20000 in
theorem gL_law_X4_size : GoodIn wsL_law (wsV RL 17 RX4 yX4_size wsX4_size) := goodIn_app (goodIn_of _ (by decide +kernel)) ggL_law_X4_size
set_option maxRecDepth 20000 in
theorem ggL_law_X3_heat : GoodIn wsL_law wsX3_heat := goodIn_r _ [87, 13, 29, 88, 89, 90, 2, 91, 28, 316, 317, 318, 319, 320, 321, 322, 323, 324, 325, 326] (by decide +kernel) (by decide +kernel)
set_option maxRecDepth 20000 in
theorem gL_law_X3_heat : GoodIn wsL_law (wsV RL 18 RX3 yX3_heat wsX3_heat) := goodIn_app (goodIn_of _ (by decide +kernel)) ggL_law_X3_heat
set_option maxRecDepth 20000 in
theorem ggL_law_X4_heat : GoodIn wsL_law wsX4_heat := goodIn_r _ [95, 55, 83, 96, 97, 98, 5, 99, 54, 327, 328, 329, 330, 331, 332, 333, 334, 335, 336, 337, 338, 339, 340, 341, 342, 343, 344] (by decide +kernel) (by decide +kernel)
set_option maxRecDepth 20000 in
theorem gL_law_X4_heat : GoodIn wsL_law (wsV RL 22 RX4 yX4_heat wsX4_heat) := goodIn_app (goodIn_of _ (by decide +kernel)) ggL_law_X4_heat
set_option maxRecDepth 20000 in
theorem ggL_law_X3_way : GoodIn wsL_law wsX3_way := goodIn_r _ [103, 104, 105, 106, 29, 17, 88, 89, 90, 2, 91, 28, 107, 108, 109, 16, 110, 111, 112, 37, 113, 114, 115, 116, 38, 117, 118, 119, 120, 77, 34, 35, 121, 122, 123, 124, 125, 126, 127, 128, 129, 130, 131, 132, 133, 134, 135, 136, 316, 317, 318, 319, 320, 321, 322, 323, 324, 325, 326, 345, 346, 347, 348, 349] (by decide +kernel) (by decide +kernel)
set_option maxRecDepth 20000 in
theorem gL_law_X3_way : GoodIn wsL_law (wsV RL 23 RX3 yX3_way wsX3_way) := goodIn_app (goodIn_of _ (by decide +kernel)) ggL_law_X3_way
set_option maxRecDepth 20000 in
theorem ggL_law_X4_way : GoodIn wsL_law wsX4_way := goodIn_r _ [140, 141, 142, 143, 82, 144, 56, 57, 58, 145, 146, 114, 115, 116, 59, 83, 96, 97, 98, 5, 99, 54, 147, 148, 149, 150, 327, 328, 329, 330, 331, 332, 333, 334, 335, 336, 337, 338, 339, 340, 341, 342, 343, 344] (by decide +kernel) (by decide +kernel)
set_option maxRecDepth 20000 in
theorem gL_law_X4_way : GoodIn wsL_law (wsV RL 27 RX4 yX4_way wsX4_way) := goodIn_app (goodIn_of _ (by decide +kernel)) ggL_law_X4_way
set_option maxRecDepth 20000 in
theorem ggL_law_X3_count : GoodIn wsL_law wsX3_count := goodIn_r _ [154, 17, 155, 156, 157, 16, 158, 37, 117, 118, 119, 120, 77, 34, 35, 316, 317, 318, 319, 320, 321, 322, 323, 324, 325, 326, 345, 346, 347, 348, 349] (by decide +kernel) (by decide +kernel)
set_option maxRecDepth 20000 in
theorem gL_law_X3_count : GoodIn wsL_law (wsV RL 28 RX3 yX3_count wsX3_count) := goodIn_app (goodIn_of _ (by decide +kernel)) ggL_law_X3_count
set_option maxRecDepth 20000 in
theorem ggL_law_X4_count : GoodIn wsL_law wsX4_count := goodIn_r _ [162, 58, 147, 148, 149, 5, 150, 82, 56, 57, 327, 328, 329, 330, 331, 332, 333, 334, 335, 336, 337, 338, 339, 340, 341, 342, 343, 344] (by decide +kernel) (by decide +kernel)
set_option maxRecDepth 20000 in
theorem gL_law_X4_count : GoodIn wsL_law (wsV RL 32 RX4 yX4_count wsX4_count) := goodIn_app (goodIn_of _ (by decide +kernel)) ggL_law_X4_count
set_option maxRecDepth 20000 in
theorem ggL_law_X3_length : GoodIn wsL_law wsX3_length := goodIn_r _ [166, 26, 167, 168, 169, 2, 170, 29, 21, 17, 27, 25, 171, 172, 173, 174, 175, 176, 177, 28, 13, 178, 179, 180, 24, 181, 182, 49, 183, 184, 185, 186, 187, 188, 189, 190, 48, 191, 192, 193, 194, 195, 20, 196, 43, 42, 197, 198, 199, 200, 201, 202, 203, 204, 205, 206, 207, 208, 209, 210, 211, 212, 213, 214, 215, 216, 217, 218, 219, 220, 221, 44, 222, 223, 224, 225, 226, 227, 228, 229, 230, 231, 232, 233, 234, 235, 236, 237, 238, 239, 240, 241, 242, 243, 244, 245, 246, 247, 248, 249, 16, 250, 77, 38, 34, 35, 37, 251, 252, 253, 254, 255, 316, 317, 318, 319, 320, 321, 322, 323, 324, 325, 326, 353, 354, 355, 350, 351, 352, 345, 346, 347, 348, 349] (by decide +kernel) (by decide +kernel)
set_option maxRecDepth 20000 in
theorem gL_law_X3_length : GoodIn wsL_law (wsV RL 33 RX3 yX3_length wsX3_length) := goodIn_app (goodIn_of _ (by decide +kernel)) ggL_law_X3_length
set_option maxRecDepth 20000 in
theorem ggL_law_X4_length : GoodIn wsL_law wsX4_length := goodIn_r _ [259, 260, 261, 262, 263, 5, 264, 83, 54, 63, 55, 62, 61, 65, 64, 265, 266, 267, 268, 269, 82, 66, 59, 58, 56, 57, 270, 271, 272, 273, 274, 275, 276, 277, 67, 141, 278, 279, 280, 281, 282, 283, 284, 285, 147, 148, 149, 150, 327, 328, 329, 330, 331, 332, 333, 334, 335, 336, 337, 338, 339, 340, 341, 342, 343, 344] (by decide +kernel) (by decide +kernel)
set_option maxRecDepth 20000 in
theorem gL_law_X4_length : GoodIn wsL_law (wsV RL 37 RX4 yX4_length wsX4_length) := goodIn_app (goodIn_of _ (by decide +kernel)) ggL_law_X4_length
set_option maxRecDepth 20000 in
theorem ggL_law_X3_row : GoodIn wsL_law wsX3_row := goodIn_r _ [289, 27, 26, 167, 168, 169, 2, 170, 29, 21, 17, 25, 171, 172, 173, 174, 175, 176, 177, 28, 13, 178, 179, 180, 24, 181, 182, 49, 183, 184, 185, 186, 187, 188, 189, 190, 48, 191, 192, 193, 194, 195, 20, 196, 43, 42, 197, 198, 199, 200, 201, 202, 203, 204, 205, 206, 207, 208, 209, 210, 211, 212, 213, 214, 215, 216, 217, 218, 219, 220, 221, 44, 222, 223, 224, 225, 226, 227, 228, 229, 230, 231, 232, 233, 234, 235, 236, 237, 238, 239, 240, 241, 242, 243, 244, 245, 246, 247, 248, 249, 16, 250, 77, 38, 34, 35, 37, 251, 252, 253, 254, 255, 290, 291, 292, 293, 294, 316, 317, 318, 319, 320, 321, 322, 323, 324, 325, 326, 353, 354, 355, 350, 351, 352, 345, 346, 347, 348, 349] (by decide +kernel) (by decide +kernel)
set_option maxRecDepth 20000 in
theorem gL_law_X3_row : GoodIn wsL_law (wsV RL 38 RX3 yX3_row wsX3_row) := goodIn_app (goodIn_of _ (by decide +kernel)) ggL_law_X3_row
set_option maxRecDepth 20000 in
theorem ggL_law_X4_row : GoodIn wsL_law wsX4_row := goodIn_r _ [298, 260, 265, 64, 65, 261, 262, 263, 5, 264, 83, 54, 63, 55, 62, 61, 266, 267, 268, 269, 82, 66, 59, 58, 56, 57, 270, 271, 272, 273, 274, 275, 276, 277, 67, 141, 278, 279, 280, 281, 282, 283, 284, 285, 147, 148, 149, 150, 327, 328, 329, 330, 331, 332, 333, 334, 335, 336, 337, 338, 339, 340, 341, 342, 343, 344] (by decide +kernel) (by decide +kernel)
set_option maxRecDepth 20000 in
theorem gL_law_X4_row : GoodIn wsL_law (wsV RL 42 RX4 yX4_row wsX4_row) := goodIn_app (goodIn_of _ (by decide +kernel)) ggL_law_X4_row
set_option maxRecDepth 20000 in
theorem ggL_law_X3_weight : GoodIn wsL_law wsX3_weight := goodIn_r _ [302, 173, 172, 171, 104, 167, 168, 169, 2, 170, 29, 21, 26, 17, 27, 25, 174, 175, 176, 177, 28, 13, 178, 179, 180, 24, 181, 182, 49, 183, 184, 185, 186, 187, 188, 189, 190, 48, 191, 192, 193, 194, 195, 20, 196, 43, 42, 197, 198, 199, 200, 201, 202, 203, 204, 205, 206, 207, 208, 209, 210, 211, 212, 213, 214, 215, 216, 217, 218, 219, 220, 221, 44, 222, 223, 224, 225, 226, 227, 228, 229, 230, 231, 232, 233, 234, 235, 236, 237, 238, 239, 240, 241, 242, 243, 244, 245, 246, 247, 248, 249, 16, 250, 77, 38, 34, 35, 37, 251, 252, 253, 254, 255, 290, 291, 292, 293, 316, 317, 318, 319, 320, 321, 322, 323, 324, 325, 326, 353, 354, 355, 350, 351, 352, 345, 346, 347, 348, 349] (by decide +kernel) (by decide +kernel)
set_option maxRecDepth 20000 in
theorem gL_law_X3_weight : GoodIn wsL_law (wsV RL 43 RX3 yX3_weight wsX3_weight) := goodIn_app (goodIn_of _ (by decide +kernel)) ggL_law_X3_weight
set_option maxRecDepth 20000 in
theorem ggL_law_X4_weight : GoodIn wsL_law wsX4_weight := goodIn_r _ [306, 141, 54, 68, 265, 64, 65, 260, 261, 262, 263, 5, 264, 83, 63, 55, 62, 61, 266, 267, 268, 269, 82, 66, 59, 58, 56, 57, 270, 271, 272, 273, 274, 275, 276, 277, 67, 278, 279, 280, 281, 282, 283, 284, 285, 147, 148, 149, 150, 327, 328, 329, 330, 331, 332, 333, 334, 335, 336, 337, 338, 339, 340, 341, 342, 343, 344] (by decide +kernel) (by decide +kernel)
set_option maxRecDepth 20000 in
theorem gL_law_X4_weight : GoodIn wsL_law (wsV RL 47 RX4 yX4_weight wsX4_weight) := goodIn_app (goodIn_of _ (by decide +kernel)) ggL_law_X4_weight
set_option maxRecDepth 20000 in
theorem ggL_law_X3_chain : GoodIn wsL_law wsX3_chain := goodIn_r _ [310, 21, 167, 168, 169, 2, 170, 29, 26, 17, 27, 25, 171, 172, 173, 174, 175, 176, 177, 28, 13, 178, 179, 180, 24, 181, 182, 49, 183, 184, 185, 186, 187, 188, 189, 190, 48, 191, 192, 193, 194, 195, 20, 196, 43, 42, 197, 198, 199, 200, 201, 202, 203, 204, 205, 206, 207, 208, 209, 210, 211, 212, 213, 214, 215, 216, 217, 218, 219, 220, 221, 44, 222, 223, 224, 225, 226, 227, 228, 229, 230, 231, 232, 233, 234, 235, 236, 237, 238, 239, 240, 241, 242, 243, 244, 245, 246, 247, 248, 249, 16, 250, 77, 38, 34, 35, 37, 251, 252, 253, 254, 255, 88, 89, 90, 91, 311, 316, 317, 318, 319, 320, 321, 322, 323, 324, 325, 326, 353, 354, 355, 350, 351, 352, 345, 346, 347, 348, 349] (by decide +kernel) (by decide +kernel)
set_option maxRecDepth 20000 in
theorem gL_law_X3_chain : GoodIn wsL_law (wsV RL 48 RX3 yX3_chain wsX3_chain) := goodIn_app (goodIn_of _ (by decide +kernel)) ggL_law_X3_chain
set_option maxRecDepth 20000 in
theorem ggL_law_X4_chain : GoodIn wsL_law wsX4_chain := goodIn_r _ [315, 55, 61, 63, 261, 262, 263, 5, 264, 83, 260, 54, 62, 65, 64, 265, 266, 267, 268, 269, 82, 66, 59, 58, 56, 57, 270, 271, 272, 273, 274, 275, 276, 277, 67, 141, 278, 279, 280, 281, 282, 283, 284, 285, 147, 148, 149, 150, 96, 97, 98, 99, 327, 328, 329, 330, 331, 332, 333, 334, 335, 336, 337, 338, 339, 340, 341, 342, 343, 344] (by decide +kernel) (by decide +kernel)
set_option maxRecDepth 20000 in
theorem gL_law_X4_chain : GoodIn wsL_law (wsV RL 51 RX4 yX4_chain wsX4_chain) := goodIn_app (goodIn_of _ (by decide +kernel)) ggL_law_X4_chain
theorem dL_law_0 : decode cL_law 0 = .ok (.new 7, 3) := by decide +kernel
theorem dL_law_3 : decode cL_law 3 = .ok (.dup, 1) := by decide +kernel
theorem dL_law_4 : decode cL_law 4 = .ok (.invokespecial 9, 3) := by decide +kernel
theorem dL_law_7 : decode cL_law 7 = .ok (.astore_n 1, 1) := by decide +kernel
theorem dL_law_8 : decode cL_law 8 = .ok (.new 10, 3) := by decide +kernel
theorem dL_law_11 : decode cL_law 11 = .ok (.dup, 1) := by decide +kernel
theorem dL_law_12 : decode cL_law 12 = .ok (.invokespecial 12, 3) := by decide +kernel
theorem dL_law_15 : decode cL_law 15 = .ok (.astore_n 2, 1) := by decide +kernel
theorem dL_law_16 : decode cL_law 16 = .ok (.iconst 0, 1) := by decide +kernel
theorem dL_law_17 : decode cL_law 17 = .ok (.istore_n 3, 1) := by decide +kernel
theorem dL_law_18 : decode cL_law 18 = .ok (.iload_n 3, 1) := by decide +kernel
theorem dL_law_19 : decode cL_law 19 = .ok (.aload_n 0, 1) := by decide +kernel
theorem dL_law_20 : decode cL_law 20 = .ok (.arraylength, 1) := by decide +kernel
theorem dL_law_21 : decode cL_law 21 = .ok (.iconst 5, 1) := by decide +kernel
theorem dL_law_22 : decode cL_law 22 = .ok (.isub, 1) := by decide +kernel
theorem dL_law_23 : decode cL_law 23 = .ok (.if_icmp .gt 322, 3) := by decide +kernel
theorem dL_law_26 : decode cL_law 26 = .ok (.aload_n 0, 1) := by decide +kernel
theorem dL_law_27 : decode cL_law 27 = .ok (.iload_n 3, 1) := by decide +kernel
theorem dL_law_28 : decode cL_law 28 = .ok (.iaload, 1) := by decide +kernel
theorem dL_law_29 : decode cL_law 29 = .ok (.bipush 7, 2) := by decide +kernel
theorem dL_law_31 : decode cL_law 31 = .ok (.iand, 1) := by decide +kernel
theorem dL_law_32 : decode cL_law 32 = .ok (.tableswitch 307 0 7 #[48, 71, 120, 190, 224, 237, 260, 284], 48) := by decide +kernel
theorem dL_law_80 : decode cL_law 80 = .ok (.aload_n 1, 1) := by decide +kernel
theorem dL_law_81 : decode cL_law 81 = .ok (.aload_n 0, 1) := by decide +kernel
theorem dL_law_82 : decode cL_law 82 = .ok (.iload_n 3, 1) := by decide +kernel
theorem dL_law_83 : decode cL_law 83 = .ok (.iconst 1, 1) := by decide +kernel
theorem dL_law_84 : decode cL_law 84 = .ok (.iadd, 1) := by decide +kernel
theorem dL_law_85 : decode cL_law 85 = .ok (.iaload, 1) := by decide +kernel
theorem dL_law_86 : decode cL_law 86 = .ok (.invokevirtual 13, 3) := by decide +kernel
theorem dL_law_89 : decode cL_law 89 = .ok (.aload_n 2, 1) := by decide +kernel
theorem dL_law_90 : decode cL_law 90 = .ok (.aload_n 0, 1) := by decide +kernel
theorem dL_law_91 : decode cL_law 91 = .ok (.iload_n 3, 1) := by decide +kernel
theorem dL_law_92 : decode cL_law 92 = .ok (.iconst 1, 1) := by decide +kernel
theorem dL_law_93 : decode cL_law 93 = .ok (.iadd, 1) := by decide +kernel
theorem dL_law_94 : decode cL_law 94 = .ok (.iaload, 1) := by decide +kernel
theorem dL_law_95 : decode cL_law 95 = .ok (.invokevirtual 17, 3) := by decide +kernel
theorem dL_law_98 : decode cL_law 98 = .ok (.if_icmp .eq 241, 3) := by decide +kernel
theorem dL_law_101 : decode cL_law 101 = .ok (.iconst 0, 1) := by decide +kernel
theorem dL_law_102 : decode cL_law 102 = .ok (.ireturn, 1) := by decide +kernel
theorem dL_law_103 : decode cL_law 103 = .ok (.aload_n 1, 1) := by decide +kernel
theorem dL_law_104 : decode cL_law 104 = .ok (.aload_n 0, 1) := by decide +kernel
theorem dL_law_105 : decode cL_law 105 = .ok (.iload_n 3, 1) := by decide +kernel
theorem dL_law_106 : decode cL_law 106 = .ok (.iconst 1, 1) := by decide +kernel
theorem dL_law_107 : decode cL_law 107 = .ok (.iadd, 1) := by decide +kernel
theorem dL_law_108 : decode cL_law 108 = .ok (.iaload, 1) := by decide +kernel
theorem dL_law_109 : decode cL_law 109 = .ok (.aload_n 0, 1) := by decide +kernel
theorem dL_law_110 : decode cL_law 110 = .ok (.iload_n 3, 1) := by decide +kernel
theorem dL_law_111 : decode cL_law 111 = .ok (.iconst 2, 1) := by decide +kernel
theorem dL_law_112 : decode cL_law 112 = .ok (.iadd, 1) := by decide +kernel
theorem dL_law_113 : decode cL_law 113 = .ok (.iaload, 1) := by decide +kernel
theorem dL_law_114 : decode cL_law 114 = .ok (.ifCond .eq 7, 3) := by decide +kernel
theorem dL_law_117 : decode cL_law 117 = .ok (.iconst 1, 1) := by decide +kernel
theorem dL_law_118 : decode cL_law 118 = .ok (.goto 4, 3) := by decide +kernel
theorem dL_law_121 : decode cL_law 121 = .ok (.iconst 0, 1) := by decide +kernel
theorem dL_law_122 : decode cL_law 122 = .ok (.invokevirtual 18, 3) := by decide +kernel
theorem dL_law_125 : decode cL_law 125 = .ok (.aload_n 2, 1) := by decide +kernel
theorem dL_law_126 : decode cL_law 126 = .ok (.aload_n 0, 1) := by decide +kernel
theorem dL_law_127 : decode cL_law 127 = .ok (.iload_n 3, 1) := by decide +kernel
theorem dL_law_128 : decode cL_law 128 = .ok (.iconst 1, 1) := by decide +kernel
theorem dL_law_129 : decode cL_law 129 = .ok (.iadd, 1) := by decide +kernel
theorem dL_law_130 : decode cL_law 130 = .ok (.iaload, 1) := by decide +kernel
theorem dL_law_131 : decode cL_law 131 = .ok (.aload_n 0, 1) := by decide +kernel
theorem dL_law_132 : decode cL_law 132 = .ok (.iload_n 3, 1) := by decide +kernel
theorem dL_law_133 : decode cL_law 133 = .ok (.iconst 2, 1) := by decide +kernel
theorem dL_law_134 : decode cL_law 134 = .ok (.iadd, 1) := by decide +kernel
theorem dL_law_135 : decode cL_law 135 = .ok (.iaload, 1) := by decide +kernel
theorem dL_law_136 : decode cL_law 136 = .ok (.ifCond .eq 7, 3) := by decide +kernel
theorem dL_law_139 : decode cL_law 139 = .ok (.iconst 1, 1) := by decide +kernel
theorem dL_law_140 : decode cL_law 140 = .ok (.goto 4, 3) := by decide +kernel
theorem dL_law_143 : decode cL_law 143 = .ok (.iconst 0, 1) := by decide +kernel
theorem dL_law_144 : decode cL_law 144 = .ok (.invokevirtual 22, 3) := by decide +kernel
theorem dL_law_147 : decode cL_law 147 = .ok (.if_icmp .eq 192, 3) := by decide +kernel
theorem dL_law_150 : decode cL_law 150 = .ok (.iconst 0, 1) := by decide +kernel
theorem dL_law_151 : decode cL_law 151 = .ok (.ireturn, 1) := by decide +kernel
theorem dL_law_152 : decode cL_law 152 = .ok (.aload_n 1, 1) := by decide +kernel
theorem dL_law_153 : decode cL_law 153 = .ok (.aload_n 0, 1) := by decide +kernel
theorem dL_law_154 : decode cL_law 154 = .ok (.iload_n 3, 1) := by decide +kernel
theorem dL_law_155 : decode cL_law 155 = .ok (.iconst 1, 1) := by decide +kernel
theorem dL_law_156 : decode cL_law 156 = .ok (.iadd, 1) := by decide +kernel
theorem dL_law_157 : decode cL_law 157 = .ok (.iaload, 1) := by decide +kernel
theorem dL_law_158 : decode cL_law 158 = .ok (.aload_n 0, 1) := by decide +kernel
theorem dL_law_159 : decode cL_law 159 = .ok (.iload_n 3, 1) := by decide +kernel
theorem dL_law_160 : decode cL_law 160 = .ok (.iconst 2, 1) := by decide +kernel
theorem dL_law_161 : decode cL_law 161 = .ok (.iadd, 1) := by decide +kernel
theorem dL_law_162 : decode cL_law 162 = .ok (.iaload, 1) := by decide +kernel
theorem dL_law_163 : decode cL_law 163 = .ok (.aload_n 0, 1) := by decide +kernel
theorem dL_law_164 : decode cL_law 164 = .ok (.iload_n 3, 1) := by decide +kernel
theorem dL_law_165 : decode cL_law 165 = .ok (.iconst 3, 1) := by decide +kernel
theorem dL_law_166 : decode cL_law 166 = .ok (.iadd, 1) := by decide +kernel
theorem dL_law_167 : decode cL_law 167 = .ok (.iaload, 1) := by decide +kernel
theorem dL_law_168 : decode cL_law 168 = .ok (.aload_n 0, 1) := by decide +kernel
theorem dL_law_169 : decode cL_law 169 = .ok (.iload_n 3, 1) := by decide +kernel
theorem dL_law_170 : decode cL_law 170 = .ok (.iconst 4, 1) := by decide +kernel
theorem dL_law_171 : decode cL_law 171 = .ok (.iadd, 1) := by decide +kernel
theorem dL_law_172 : decode cL_law 172 = .ok (.iaload, 1) := by decide +kernel
theorem dL_law_173 : decode cL_law 173 = .ok (.ifCond .eq 7, 3) := by decide +kernel
theorem dL_law_176 : decode cL_law 176 = .ok (.iconst 1, 1) := by decide +kernel
theorem dL_law_177 : decode cL_law 177 = .ok (.goto 4, 3) := by decide +kernel
theorem dL_law_180 : decode cL_law 180 = .ok (.iconst 0, 1) := by decide +kernel
theorem dL_law_181 : decode cL_law 181 = .ok (.invokevirtual 23, 3) := by decide +kernel
theorem dL_law_184 : decode cL_law 184 = .ok (.aload_n 2, 1) := by decide +kernel
theorem dL_law_185 : decode cL_law 185 = .ok (.aload_n 0, 1) := by decide +kernel
theorem dL_law_186 : decode cL_law 186 = .ok (.iload_n 3, 1) := by decide +kernel
theorem dL_law_187 : decode cL_law 187 = .ok (.iconst 1, 1) := by decide +kernel
theorem dL_law_188 : decode cL_law 188 = .ok (.iadd, 1) := by decide +kernel
theorem dL_law_189 : decode cL_law 189 = .ok (.iaload, 1) := by decide +kernel
theorem dL_law_190 : decode cL_law 190 = .ok (.aload_n 0, 1) := by decide +kernel
theorem dL_law_191 : decode cL_law 191 = .ok (.iload_n 3, 1) := by decide +kernel
theorem dL_law_192 : decode cL_law 192 = .ok (.iconst 2, 1) := by decide +kernel
theorem dL_law_193 : decode cL_law 193 = .ok (.iadd, 1) := by decide +kernel
theorem dL_law_194 : decode cL_law 194 = .ok (.iaload, 1) := by decide +kernel
theorem dL_law_195 : decode cL_law 195 = .ok (.aload_n 0, 1) := by decide +kernel
theorem dL_law_196 : decode cL_law 196 = .ok (.iload_n 3, 1) := by decide +kernel
theorem dL_law_197 : decode cL_law 197 = .ok (.iconst 3, 1) := by decide +kernel
theorem dL_law_198 : decode cL_law 198 = .ok (.iadd, 1) := by decide +kernel
theorem dL_law_199 : decode cL_law 199 = .ok (.iaload, 1) := by decide +kernel
theorem dL_law_200 : decode cL_law 200 = .ok (.aload_n 0, 1) := by decide +kernel
theorem dL_law_201 : decode cL_law 201 = .ok (.iload_n 3, 1) := by decide +kernel
theorem dL_law_202 : decode cL_law 202 = .ok (.iconst 4, 1) := by decide +kernel
theorem dL_law_203 : decode cL_law 203 = .ok (.iadd, 1) := by decide +kernel
theorem dL_law_204 : decode cL_law 204 = .ok (.iaload, 1) := by decide +kernel
theorem dL_law_205 : decode cL_law 205 = .ok (.ifCond .eq 7, 3) := by decide +kernel
theorem dL_law_208 : decode cL_law 208 = .ok (.iconst 1, 1) := by decide +kernel
theorem dL_law_209 : decode cL_law 209 = .ok (.goto 4, 3) := by decide +kernel
theorem dL_law_212 : decode cL_law 212 = .ok (.iconst 0, 1) := by decide +kernel
theorem dL_law_213 : decode cL_law 213 = .ok (.invokevirtual 27, 3) := by decide +kernel
theorem dL_law_216 : decode cL_law 216 = .ok (.lcmp, 1) := by decide +kernel
theorem dL_law_217 : decode cL_law 217 = .ok (.ifCond .eq 122, 3) := by decide +kernel
theorem dL_law_220 : decode cL_law 220 = .ok (.iconst 0, 1) := by decide +kernel
theorem dL_law_221 : decode cL_law 221 = .ok (.ireturn, 1) := by decide +kernel
theorem dL_law_222 : decode cL_law 222 = .ok (.aload_n 1, 1) := by decide +kernel
theorem dL_law_223 : decode cL_law 223 = .ok (.aload_n 0, 1) := by decide +kernel
theorem dL_law_224 : decode cL_law 224 = .ok (.iload_n 3, 1) := by decide +kernel
theorem dL_law_225 : decode cL_law 225 = .ok (.iconst 1, 1) := by decide +kernel
theorem dL_law_226 : decode cL_law 226 = .ok (.iadd, 1) := by decide +kernel
theorem dL_law_227 : decode cL_law 227 = .ok (.iaload, 1) := by decide +kernel
theorem dL_law_228 : decode cL_law 228 = .ok (.aload_n 0, 1) := by decide +kernel
theorem dL_law_229 : decode cL_law 229 = .ok (.iload_n 3, 1) := by decide +kernel
theorem dL_law_230 : decode cL_law 230 = .ok (.iconst 2, 1) := by decide +kernel
theorem dL_law_231 : decode cL_law 231 = .ok (.iadd, 1) := by decide +kernel
theorem dL_law_232 : decode cL_law 232 = .ok (.iaload, 1) := by decide +kernel
theorem dL_law_233 : decode cL_law 233 = .ok (.invokevirtual 28, 3) := by decide +kernel
theorem dL_law_236 : decode cL_law 236 = .ok (.aload_n 2, 1) := by decide +kernel
theorem dL_law_237 : decode cL_law 237 = .ok (.aload_n 0, 1) := by decide +kernel
theorem dL_law_238 : decode cL_law 238 = .ok (.iload_n 3, 1) := by decide +kernel
theorem dL_law_239 : decode cL_law 239 = .ok (.iconst 1, 1) := by decide +kernel
theorem dL_law_240 : decode cL_law 240 = .ok (.iadd, 1) := by decide +kernel
theorem dL_law_241 : decode cL_law 241 = .ok (.iaload, 1) := by decide +kernel
theorem dL_law_242 : decode cL_law 242 = .ok (.aload_n 0, 1) := by decide +kernel
theorem dL_law_243 : decode cL_law 243 = .ok (.iload_n 3, 1) := by decide +kernel
theorem dL_law_244 : decode cL_law 244 = .ok (.iconst 2, 1) := by decide +kernel
theorem dL_law_245 : decode cL_law 245 = .ok (.iadd, 1) := by decide +kernel
theorem dL_law_246 : decode cL_law 246 = .ok (.iaload, 1) := by decide +kernel
theorem dL_law_247 : decode cL_law 247 = .ok (.invokevirtual 32, 3) := by decide +kernel
theorem dL_law_250 : decode cL_law 250 = .ok (.lcmp, 1) := by decide +kernel
theorem dL_law_251 : decode cL_law 251 = .ok (.ifCond .eq 88, 3) := by decide +kernel
theorem dL_law_254 : decode cL_law 254 = .ok (.iconst 0, 1) := by decide +kernel
theorem dL_law_255 : decode cL_law 255 = .ok (.ireturn, 1) := by decide +kernel
theorem dL_law_256 : decode cL_law 256 = .ok (.aload_n 1, 1) := by decide +kernel
theorem dL_law_257 : decode cL_law 257 = .ok (.invokevirtual 33, 3) := by decide +kernel
theorem dL_law_260 : decode cL_law 260 = .ok (.aload_n 2, 1) := by decide +kernel
theorem dL_law_261 : decode cL_law 261 = .ok (.invokevirtual 37, 3) := by decide +kernel
theorem dL_law_264 : decode cL_law 264 = .ok (.if_icmp .eq 75, 3) := by decide +kernel
theorem dL_law_267 : decode cL_law 267 = .ok (.iconst 0, 1) := by decide +kernel
theorem dL_law_268 : decode cL_law 268 = .ok (.ireturn, 1) := by decide +kernel
theorem dL_law_269 : decode cL_law 269 = .ok (.aload_n 1, 1) := by decide +kernel
theorem dL_law_270 : decode cL_law 270 = .ok (.aload_n 0, 1) := by decide +kernel
theorem dL_law_271 : decode cL_law 271 = .ok (.iload_n 3, 1) := by decide +kernel
theorem dL_law_272 : decode cL_law 272 = .ok (.iconst 1, 1) := by decide +kernel
theorem dL_law_273 : decode cL_law 273 = .ok (.iadd, 1) := by decide +kernel
theorem dL_law_274 : decode cL_law 274 = .ok (.iaload, 1) := by decide +kernel
theorem dL_law_275 : decode cL_law 275 = .ok (.invokevirtual 38, 3) := by decide +kernel
theorem dL_law_278 : decode cL_law 278 = .ok (.aload_n 2, 1) := by decide +kernel
theorem dL_law_279 : decode cL_law 279 = .ok (.aload_n 0, 1) := by decide +kernel
theorem dL_law_280 : decode cL_law 280 = .ok (.iload_n 3, 1) := by decide +kernel
theorem dL_law_281 : decode cL_law 281 = .ok (.iconst 1, 1) := by decide +kernel
theorem dL_law_282 : decode cL_law 282 = .ok (.iadd, 1) := by decide +kernel
theorem dL_law_283 : decode cL_law 283 = .ok (.iaload, 1) := by decide +kernel
theorem dL_law_284 : decode cL_law 284 = .ok (.invokevirtual 42, 3) := by decide +kernel
theorem dL_law_287 : decode cL_law 287 = .ok (.if_icmp .eq 52, 3) := by decide +kernel
theorem dL_law_290 : decode cL_law 290 = .ok (.iconst 0, 1) := by decide +kernel
theorem dL_law_291 : decode cL_law 291 = .ok (.ireturn, 1) := by decide +kernel
theorem dL_law_292 : decode cL_law 292 = .ok (.aload_n 1, 1) := by decide +kernel
theorem dL_law_293 : decode cL_law 293 = .ok (.aload_n 0, 1) := by decide +kernel
theorem dL_law_294 : decode cL_law 294 = .ok (.iload_n 3, 1) := by decide +kernel
theorem dL_law_295 : decode cL_law 295 = .ok (.iconst 1, 1) := by decide +kernel
theorem dL_law_296 : decode cL_law 296 = .ok (.iadd, 1) := by decide +kernel
theorem dL_law_297 : decode cL_law 297 = .ok (.iaload, 1) := by decide +kernel
theorem dL_law_298 : decode cL_law 298 = .ok (.invokevirtual 43, 3) := by decide +kernel
theorem dL_law_301 : decode cL_law 301 = .ok (.aload_n 2, 1) := by decide +kernel
theorem dL_law_302 : decode cL_law 302 = .ok (.aload_n 0, 1) := by decide +kernel
theorem dL_law_303 : decode cL_law 303 = .ok (.iload_n 3, 1) := by decide +kernel
theorem dL_law_304 : decode cL_law 304 = .ok (.iconst 1, 1) := by decide +kernel
theorem dL_law_305 : decode cL_law 305 = .ok (.iadd, 1) := by decide +kernel
theorem dL_law_306 : decode cL_law 306 = .ok (.iaload, 1) := by decide +kernel
theorem dL_law_307 : decode cL_law 307 = .ok (.invokevirtual 47, 3) := by decide +kernel
theorem dL_law_310 : decode cL_law 310 = .ok (.lcmp, 1) := by decide +kernel
theorem dL_law_311 : decode cL_law 311 = .ok (.ifCond .eq 28, 3) := by decide +kernel
theorem dL_law_314 : decode cL_law 314 = .ok (.iconst 0, 1) := by decide +kernel
theorem dL_law_315 : decode cL_law 315 = .ok (.ireturn, 1) := by decide +kernel
theorem dL_law_316 : decode cL_law 316 = .ok (.aload_n 1, 1) := by decide +kernel
theorem dL_law_317 : decode cL_law 317 = .ok (.aload_n 0, 1) := by decide +kernel
theorem dL_law_318 : decode cL_law 318 = .ok (.iload_n 3, 1) := by decide +kernel
theorem dL_law_319 : decode cL_law 319 = .ok (.iconst 1, 1) := by decide +kernel
theorem dL_law_320 : decode cL_law 320 = .ok (.iadd, 1) := by decide +kernel
theorem dL_law_321 : decode cL_law 321 = .ok (.iaload, 1) := by decide +kernel
theorem dL_law_322 : decode cL_law 322 = .ok (.invokevirtual 48, 3) := by decide +kernel
theorem dL_law_325 : decode cL_law 325 = .ok (.aload_n 2, 1) := by decide +kernel
theorem dL_law_326 : decode cL_law 326 = .ok (.aload_n 0, 1) := by decide +kernel
theorem dL_law_327 : decode cL_law 327 = .ok (.iload_n 3, 1) := by decide +kernel
theorem dL_law_328 : decode cL_law 328 = .ok (.iconst 1, 1) := by decide +kernel
theorem dL_law_329 : decode cL_law 329 = .ok (.iadd, 1) := by decide +kernel
theorem dL_law_330 : decode cL_law 330 = .ok (.iaload, 1) := by decide +kernel
theorem dL_law_331 : decode cL_law 331 = .ok (.invokevirtual 51, 3) := by decide +kernel
theorem dL_law_334 : decode cL_law 334 = .ok (.if_icmp .eq 5, 3) := by decide +kernel
theorem dL_law_337 : decode cL_law 337 = .ok (.iconst 0, 1) := by decide +kernel
theorem dL_law_338 : decode cL_law 338 = .ok (.ireturn, 1) := by decide +kernel
theorem dL_law_339 : decode cL_law 339 = .ok (.iinc 3 5, 3) := by decide +kernel
theorem dL_law_342 : decode cL_law 342 = .ok (.goto (-324), 3) := by decide +kernel
theorem dL_law_345 : decode cL_law 345 = .ok (.iconst 1, 1) := by decide +kernel
theorem dL_law_346 : decode cL_law 346 = .ok (.ireturn, 1) := by decide +kernel

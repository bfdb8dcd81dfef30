theorem dX4_way_0 : decode cX4_way 0 = .ok (.aload_n 0, 1) := by decide +kernel
theorem dX4_way_1 : decode cX4_way 1 = .ok (.iload_n 1, 1) := by decide +kernel
theorem dX4_way_2 : decode cX4_way 2 = .ok (.invokevirtual 63, 3) := by decide +kernel
theorem dX4_way_5 : decode cX4_way 5 = .ok (.ifCond .eq 11, 3) := by decide +kernel
theorem dX4_way_8 : decode cX4_way 8 = .ok (.aload_n 0, 1) := by decide +kernel
theorem dX4_way_9 : decode cX4_way 9 = .ok (.iload_n 2, 1) := by decide +kernel
theorem dX4_way_10 : decode cX4_way 10 = .ok (.invokevirtual 63, 3) := by decide +kernel
theorem dX4_way_13 : decode cX4_way 13 = .ok (.ifCond .ne 7, 3) := by decide +kernel
theorem dX4_way_16 : decode cX4_way 16 = .ok (.ldc2_w 67, 3) := by decide +kernel
theorem dX4_way_19 : decode cX4_way 19 = .ok (.lreturn, 1) := by decide +kernel
theorem dX4_way_20 : decode cX4_way 20 = .ok (.iload_n 3, 1) := by decide +kernel
theorem dX4_way_21 : decode cX4_way 21 = .ok (.ifCond .lt 9, 3) := by decide +kernel
theorem dX4_way_24 : decode cX4_way 24 = .ok (.iload_n 3, 1) := by decide +kernel
theorem dX4_way_25 : decode cX4_way 25 = .ok (.ldc 69, 2) := by decide +kernel
theorem dX4_way_27 : decode cX4_way 27 = .ok (.if_icmp .le 7, 3) := by decide +kernel
theorem dX4_way_30 : decode cX4_way 30 = .ok (.ldc2_w 70, 3) := by decide +kernel
theorem dX4_way_33 : decode cX4_way 33 = .ok (.lreturn, 1) := by decide +kernel
theorem dX4_way_34 : decode cX4_way 34 = .ok (.aload_n 0, 1) := by decide +kernel
theorem dX4_way_35 : decode cX4_way 35 = .ok (.iload_n 1, 1) := by decide +kernel
theorem dX4_way_36 : decode cX4_way 36 = .ok (.iload_n 2, 1) := by decide +kernel
theorem dX4_way_37 : decode cX4_way 37 = .ok (.invokevirtual 72, 3) := by decide +kernel
theorem dX4_way_40 : decode cX4_way 40 = .ok (.istore 5, 2) := by decide +kernel
theorem dX4_way_42 : decode cX4_way 42 = .ok (.iload 5, 2) := by decide +kernel
theorem dX4_way_44 : decode cX4_way 44 = .ok (.ifCond .ge 57, 3) := by decide +kernel
theorem dX4_way_47 : decode cX4_way 47 = .ok (.aload_n 0, 1) := by decide +kernel
theorem dX4_way_48 : decode cX4_way 48 = .ok (.getfield 56, 3) := by decide +kernel
theorem dX4_way_51 : decode cX4_way 51 = .ok (.sipush 1000, 3) := by decide +kernel
theorem dX4_way_54 : decode cX4_way 54 = .ok (.if_icmp .ne 7, 3) := by decide +kernel
theorem dX4_way_57 : decode cX4_way 57 = .ok (.ldc2_w 76, 3) := by decide +kernel
theorem dX4_way_60 : decode cX4_way 60 = .ok (.lreturn, 1) := by decide +kernel
theorem dX4_way_61 : decode cX4_way 61 = .ok (.aload_n 0, 1) := by decide +kernel
theorem dX4_way_62 : decode cX4_way 62 = .ok (.getfield 56, 3) := by decide +kernel
theorem dX4_way_65 : decode cX4_way 65 = .ok (.istore 5, 2) := by decide +kernel
theorem dX4_way_67 : decode cX4_way 67 = .ok (.aload_n 0, 1) := by decide +kernel
theorem dX4_way_68 : decode cX4_way 68 = .ok (.dup, 1) := by decide +kernel
theorem dX4_way_69 : decode cX4_way 69 = .ok (.getfield 56, 3) := by decide +kernel
theorem dX4_way_72 : decode cX4_way 72 = .ok (.iconst 1, 1) := by decide +kernel
theorem dX4_way_73 : decode cX4_way 73 = .ok (.iadd, 1) := by decide +kernel
theorem dX4_way_74 : decode cX4_way 74 = .ok (.putfield 56, 3) := by decide +kernel
theorem dX4_way_77 : decode cX4_way 77 = .ok (.aload_n 0, 1) := by decide +kernel
theorem dX4_way_78 : decode cX4_way 78 = .ok (.getfield 17, 3) := by decide +kernel
theorem dX4_way_81 : decode cX4_way 81 = .ok (.iload 5, 2) := by decide +kernel
theorem dX4_way_83 : decode cX4_way 83 = .ok (.iload_n 1, 1) := by decide +kernel
theorem dX4_way_84 : decode cX4_way 84 = .ok (.iastore, 1) := by decide +kernel
theorem dX4_way_85 : decode cX4_way 85 = .ok (.aload_n 0, 1) := by decide +kernel
theorem dX4_way_86 : decode cX4_way 86 = .ok (.getfield 21, 3) := by decide +kernel
theorem dX4_way_89 : decode cX4_way 89 = .ok (.iload 5, 2) := by decide +kernel
theorem dX4_way_91 : decode cX4_way 91 = .ok (.iload_n 2, 1) := by decide +kernel
theorem dX4_way_92 : decode cX4_way 92 = .ok (.iastore, 1) := by decide +kernel
theorem dX4_way_93 : decode cX4_way 93 = .ok (.aload_n 0, 1) := by decide +kernel
theorem dX4_way_94 : decode cX4_way 94 = .ok (.getfield 24, 3) := by decide +kernel
theorem dX4_way_97 : decode cX4_way 97 = .ok (.iload 5, 2) := by decide +kernel
theorem dX4_way_99 : decode cX4_way 99 = .ok (.lconst 0, 1) := by decide +kernel
theorem dX4_way_100 : decode cX4_way 100 = .ok (.lastore, 1) := by decide +kernel
theorem dX4_way_101 : decode cX4_way 101 = .ok (.aload_n 0, 1) := by decide +kernel
theorem dX4_way_102 : decode cX4_way 102 = .ok (.getfield 24, 3) := by decide +kernel
theorem dX4_way_105 : decode cX4_way 105 = .ok (.iload 5, 2) := by decide +kernel
theorem dX4_way_107 : decode cX4_way 107 = .ok (.aload_n 0, 1) := by decide +kernel
theorem dX4_way_108 : decode cX4_way 108 = .ok (.getfield 24, 3) := by decide +kernel
theorem dX4_way_111 : decode cX4_way 111 = .ok (.iload 5, 2) := by decide +kernel
theorem dX4_way_113 : decode cX4_way 113 = .ok (.laload, 1) := by decide +kernel
theorem dX4_way_114 : decode cX4_way 114 = .ok (.iload_n 3, 1) := by decide +kernel
theorem dX4_way_115 : decode cX4_way 115 = .ok (.i2l, 1) := by decide +kernel
theorem dX4_way_116 : decode cX4_way 116 = .ok (.ladd, 1) := by decide +kernel
theorem dX4_way_117 : decode cX4_way 117 = .ok (.ldc2_w 78, 3) := by decide +kernel
theorem dX4_way_120 : decode cX4_way 120 = .ok (.invokestatic 80, 3) := by decide +kernel
theorem dX4_way_123 : decode cX4_way 123 = .ok (.lastore, 1) := by decide +kernel
theorem dX4_way_124 : decode cX4_way 124 = .ok (.aload_n 0, 1) := by decide +kernel
theorem dX4_way_125 : decode cX4_way 125 = .ok (.getfield 28, 3) := by decide +kernel
theorem dX4_way_128 : decode cX4_way 128 = .ok (.iload 5, 2) := by decide +kernel
theorem dX4_way_130 : decode cX4_way 130 = .ok (.iload 4, 2) := by decide +kernel
theorem dX4_way_132 : decode cX4_way 132 = .ok (.bastore, 1) := by decide +kernel
theorem dX4_way_133 : decode cX4_way 133 = .ok (.aload_n 0, 1) := by decide +kernel
theorem dX4_way_134 : decode cX4_way 134 = .ok (.iconst 0, 1) := by decide +kernel
theorem dX4_way_135 : decode cX4_way 135 = .ok (.putfield 59, 3) := by decide +kernel
theorem dX4_way_138 : decode cX4_way 138 = .ok (.aload_n 0, 1) := by decide +kernel
theorem dX4_way_139 : decode cX4_way 139 = .ok (.getfield 24, 3) := by decide +kernel
theorem dX4_way_142 : decode cX4_way 142 = .ok (.iload 5, 2) := by decide +kernel
theorem dX4_way_144 : decode cX4_way 144 = .ok (.laload, 1) := by decide +kernel
theorem dX4_way_145 : decode cX4_way 145 = .ok (.lreturn, 1) := by decide +kernel
set_option maxRecDepth 20000 in
theorem ggX4_count_X4_find : GoodIn wsX4_count wsX4_find := goodIn_r _ [6, 7, 8, 9, 10, 11, 12, 13, 14, 15, 16, 17, 18, 19, 20, 21, 22, 23, 24, 25, 26, 27] (by decide +kernel) (by decide +kernel)
set_option maxRecDepth 20000 in
theorem gX4_count_X4_find : GoodIn wsX4_count (wsV RX4 72 RX4 yX4_find wsX4_find) := goodIn_app (goodIn_of _ (by decide +kernel)) ggX4_count_X4_find
theorem dX4_count_0 : decode cX4_count 0 = .ok (.aload_n 0, 1) := by decide +kernel
theorem dX4_count_1 : decode cX4_count 1 = .ok (.iload_n 1, 1) := by decide +kernel
theorem dX4_count_2 : decode cX4_count 2 = .ok (.iload_n 2, 1) := by decide +kernel
theorem dX4_count_3 : decode cX4_count 3 = .ok (.invokevirtual 72, 3) := by decide +kernel
theorem dX4_count_6 : decode cX4_count 6 = .ok (.istore_n 3, 1) := by decide +kernel
theorem dX4_count_7 : decode cX4_count 7 = .ok (.iload_n 3, 1) := by decide +kernel
theorem dX4_count_8 : decode cX4_count 8 = .ok (.ifCond .ge 7, 3) := by decide +kernel
theorem dX4_count_11 : decode cX4_count 11 = .ok (.lconst 0, 1) := by decide +kernel
theorem dX4_count_12 : decode cX4_count 12 = .ok (.goto 9, 3) := by decide +kernel
theorem dX4_count_15 : decode cX4_count 15 = .ok (.aload_n 0, 1) := by decide +kernel
theorem dX4_count_16 : decode cX4_count 16 = .ok (.getfield 24, 3) := by decide +kernel
theorem dX4_count_19 : decode cX4_count 19 = .ok (.iload_n 3, 1) := by decide +kernel
theorem dX4_count_20 : decode cX4_count 20 = .ok (.laload, 1) := by decide +kernel
theorem dX4_count_21 : decode cX4_count 21 = .ok (.lreturn, 1) := by decide +kernel
set_option maxRecDepth 20000 in
theorem ggX4_know_X4_chains : GoodIn wsX4_know wsX4_chains := goodIn_r _ [15, 16, 17, 18, 19, 5, 20, 21, 4, 7, 6, 22, 23, 24, 14, 25, 44, 45, 46, 47, 48, 49, 50, 51, 52, 53, 54, 55, 56, 57, 58, 59, 60, 61] (by decide +kernel) (by decide +kernel)
set_option maxRecDepth 20000 in
theorem gX4_know_X4_chains : GoodIn wsX4_know (wsV RX4 89 RX4 yX4_chains wsX4_chains) := goodIn_app (goodIn_of _ (by decide +kernel)) ggX4_know_X4_chains
set_option maxRecDepth 20000 in
theorem ggX4_know_X4_place : GoodIn wsX4_know wsX4_place := goodIn_r _ [29, 3, 30, 2, 31, 5, 4, 6, 9, 7, 32, 33, 34, 14, 35, 16, 20, 21, 19, 44, 45, 46, 47, 48, 49, 50, 51, 52, 53, 54, 55, 56, 57, 58, 59, 60, 61] (by decide +kernel) (by decide +kernel)
set_option maxRecDepth 20000 in
theorem gX4_know_X4_place : GoodIn wsX4_know (wsV RX4 92 RX4 yX4_place wsX4_place) := goodIn_app (goodIn_of _ (by decide +kernel)) ggX4_know_X4_place
set_option maxRecDepth 20000 in
theorem ggX4_know_X4_weightOf : GoodIn wsX4_know wsX4_weightOf := goodIn_r _ [39, 18, 19, 40, 41, 42, 14, 43, 16, 20, 21, 44, 45, 46, 47, 48, 49, 50, 51, 52, 53, 54, 55, 56, 57, 58, 59, 60, 61] (by decide +kernel) (by decide +kernel)
set_option maxRecDepth 20000 in
theorem gX4_know_X4_weightOf : GoodIn wsX4_know (wsV RX4 95 RX4 yX4_weightOf wsX4_weightOf) := goodIn_app (goodIn_of _ (by decide +kernel)) ggX4_know_X4_weightOf
theorem dX4_know_0 : decode cX4_know 0 = .ok (.aload_n 0, 1) := by decide +kernel
theorem dX4_know_1 : decode cX4_know 1 = .ok (.getfield 59, 3) := by decide +kernel
theorem dX4_know_4 : decode cX4_know 4 = .ok (.ifCond .eq 4, 3) := by decide +kernel
theorem dX4_know_7 : decode cX4_know 7 = .ok (.return_, 1) := by decide +kernel
theorem dX4_know_8 : decode cX4_know 8 = .ok (.aload_n 0, 1) := by decide +kernel
theorem dX4_know_9 : decode cX4_know 9 = .ok (.iconst 1, 1) := by decide +kernel
theorem dX4_know_10 : decode cX4_know 10 = .ok (.putfield 59, 3) := by decide +kernel
theorem dX4_know_13 : decode cX4_know 13 = .ok (.aload_n 0, 1) := by decide +kernel
theorem dX4_know_14 : decode cX4_know 14 = .ok (.iconst 0, 1) := by decide +kernel
theorem dX4_know_15 : decode cX4_know 15 = .ok (.putfield 86, 3) := by decide +kernel
theorem dX4_know_18 : decode cX4_know 18 = .ok (.iconst 0, 1) := by decide +kernel
theorem dX4_know_19 : decode cX4_know 19 = .ok (.istore_n 1, 1) := by decide +kernel
theorem dX4_know_20 : decode cX4_know 20 = .ok (.iload_n 1, 1) := by decide +kernel
theorem dX4_know_21 : decode cX4_know 21 = .ok (.aload_n 0, 1) := by decide +kernel
theorem dX4_know_22 : decode cX4_know 22 = .ok (.getfield 7, 3) := by decide +kernel
theorem dX4_know_25 : decode cX4_know 25 = .ok (.if_icmp .ge 92, 3) := by decide +kernel
theorem dX4_know_28 : decode cX4_know 28 = .ok (.aload_n 0, 1) := by decide +kernel
theorem dX4_know_29 : decode cX4_know 29 = .ok (.getfield 38, 3) := by decide +kernel
theorem dX4_know_32 : decode cX4_know 32 = .ok (.iload_n 1, 1) := by decide +kernel
theorem dX4_know_33 : decode cX4_know 33 = .ok (.aload_n 0, 1) := by decide +kernel
theorem dX4_know_34 : decode cX4_know 34 = .ok (.getfield 13, 3) := by decide +kernel
theorem dX4_know_37 : decode cX4_know 37 = .ok (.iload_n 1, 1) := by decide +kernel
theorem dX4_know_38 : decode cX4_know 38 = .ok (.baload, 1) := by decide +kernel
theorem dX4_know_39 : decode cX4_know 39 = .ok (.ifCond .eq 7, 3) := by decide +kernel
theorem dX4_know_42 : decode cX4_know 42 = .ok (.iload_n 1, 1) := by decide +kernel
theorem dX4_know_43 : decode cX4_know 43 = .ok (.goto 4, 3) := by decide +kernel
theorem dX4_know_46 : decode cX4_know 46 = .ok (.iconst (-1), 1) := by decide +kernel
theorem dX4_know_47 : decode cX4_know 47 = .ok (.iastore, 1) := by decide +kernel
theorem dX4_know_48 : decode cX4_know 48 = .ok (.aload_n 0, 1) := by decide +kernel
theorem dX4_know_49 : decode cX4_know 49 = .ok (.getfield 35, 3) := by decide +kernel
theorem dX4_know_52 : decode cX4_know 52 = .ok (.iload_n 1, 1) := by decide +kernel
theorem dX4_know_53 : decode cX4_know 53 = .ok (.aload_n 0, 1) := by decide +kernel
theorem dX4_know_54 : decode cX4_know 54 = .ok (.getfield 13, 3) := by decide +kernel
theorem dX4_know_57 : decode cX4_know 57 = .ok (.iload_n 1, 1) := by decide +kernel
theorem dX4_know_58 : decode cX4_know 58 = .ok (.baload, 1) := by decide +kernel
theorem dX4_know_59 : decode cX4_know 59 = .ok (.ifCond .eq 7, 3) := by decide +kernel
theorem dX4_know_62 : decode cX4_know 62 = .ok (.iconst 1, 1) := by decide +kernel
theorem dX4_know_63 : decode cX4_know 63 = .ok (.goto 4, 3) := by decide +kernel
theorem dX4_know_66 : decode cX4_know 66 = .ok (.iconst 0, 1) := by decide +kernel
theorem dX4_know_67 : decode cX4_know 67 = .ok (.iastore, 1) := by decide +kernel
theorem dX4_know_68 : decode cX4_know 68 = .ok (.aload_n 0, 1) := by decide +kernel
theorem dX4_know_69 : decode cX4_know 69 = .ok (.getfield 32, 3) := by decide +kernel
theorem dX4_know_72 : decode cX4_know 72 = .ok (.sipush 200, 3) := by decide +kernel
theorem dX4_know_75 : decode cX4_know 75 = .ok (.iload_n 1, 1) := by decide +kernel
theorem dX4_know_76 : decode cX4_know 76 = .ok (.imul, 1) := by decide +kernel
theorem dX4_know_77 : decode cX4_know 77 = .ok (.iload_n 1, 1) := by decide +kernel
theorem dX4_know_78 : decode cX4_know 78 = .ok (.iastore, 1) := by decide +kernel
theorem dX4_know_79 : decode cX4_know 79 = .ok (.aload_n 0, 1) := by decide +kernel
theorem dX4_know_80 : decode cX4_know 80 = .ok (.getfield 13, 3) := by decide +kernel
theorem dX4_know_83 : decode cX4_know 83 = .ok (.iload_n 1, 1) := by decide +kernel
theorem dX4_know_84 : decode cX4_know 84 = .ok (.baload, 1) := by decide +kernel
theorem dX4_know_85 : decode cX4_know 85 = .ok (.ifCond .ne 6, 3) := by decide +kernel
theorem dX4_know_88 : decode cX4_know 88 = .ok (.goto 23, 3) := by decide +kernel
theorem dX4_know_91 : decode cX4_know 91 = .ok (.aload_n 0, 1) := by decide +kernel
theorem dX4_know_92 : decode cX4_know 92 = .ok (.getfield 44, 3) := by decide +kernel
theorem dX4_know_95 : decode cX4_know 95 = .ok (.aload_n 0, 1) := by decide +kernel
theorem dX4_know_96 : decode cX4_know 96 = .ok (.getfield 86, 3) := by decide +kernel
theorem dX4_know_99 : decode cX4_know 99 = .ok (.iload_n 1, 1) := by decide +kernel
theorem dX4_know_100 : decode cX4_know 100 = .ok (.iastore, 1) := by decide +kernel
theorem dX4_know_101 : decode cX4_know 101 = .ok (.aload_n 0, 1) := by decide +kernel
theorem dX4_know_102 : decode cX4_know 102 = .ok (.dup, 1) := by decide +kernel
theorem dX4_know_103 : decode cX4_know 103 = .ok (.getfield 86, 3) := by decide +kernel
theorem dX4_know_106 : decode cX4_know 106 = .ok (.iconst 1, 1) := by decide +kernel
theorem dX4_know_107 : decode cX4_know 107 = .ok (.iadd, 1) := by decide +kernel
theorem dX4_know_108 : decode cX4_know 108 = .ok (.putfield 86, 3) := by decide +kernel
theorem dX4_know_111 : decode cX4_know 111 = .ok (.iinc 1 1, 3) := by decide +kernel
theorem dX4_know_114 : decode cX4_know 114 = .ok (.goto (-94), 3) := by decide +kernel
theorem dX4_know_117 : decode cX4_know 117 = .ok (.aload_n 0, 1) := by decide +kernel
theorem dX4_know_118 : decode cX4_know 118 = .ok (.invokevirtual 89, 3) := by decide +kernel
theorem dX4_know_121 : decode cX4_know 121 = .ok (.aload_n 0, 1) := by decide +kernel
theorem dX4_know_122 : decode cX4_know 122 = .ok (.invokevirtual 92, 3) := by decide +kernel
theorem dX4_know_125 : decode cX4_know 125 = .ok (.aload_n 0, 1) := by decide +kernel
theorem dX4_know_126 : decode cX4_know 126 = .ok (.aload_n 0, 1) := by decide +kernel
theorem dX4_know_127 : decode cX4_know 127 = .ok (.aload_n 0, 1) := by decide +kernel
theorem dX4_know_128 : decode cX4_know 128 = .ok (.getfield 41, 3) := by decide +kernel
theorem dX4_know_131 : decode cX4_know 131 = .ok (.aload_n 0, 1) := by decide +kernel
theorem dX4_know_132 : decode cX4_know 132 = .ok (.getfield 86, 3) := by decide +kernel
theorem dX4_know_135 : decode cX4_know 135 = .ok (.invokevirtual 95, 3) := by decide +kernel
theorem dX4_know_138 : decode cX4_know 138 = .ok (.aload_n 0, 1) := by decide +kernel
theorem dX4_know_139 : decode cX4_know 139 = .ok (.aload_n 0, 1) := by decide +kernel
theorem dX4_know_140 : decode cX4_know 140 = .ok (.getfield 44, 3) := by decide +kernel
theorem dX4_know_143 : decode cX4_know 143 = .ok (.aload_n 0, 1) := by decide +kernel
theorem dX4_know_144 : decode cX4_know 144 = .ok (.getfield 86, 3) := by decide +kernel
theorem dX4_know_147 : decode cX4_know 147 = .ok (.invokevirtual 95, 3) := by decide +kernel
theorem dX4_know_150 : decode cX4_know 150 = .ok (.lcmp, 1) := by decide +kernel
theorem dX4_know_151 : decode cX4_know 151 = .ok (.ifCond .le 7, 3) := by decide +kernel
theorem dX4_know_154 : decode cX4_know 154 = .ok (.iconst 1, 1) := by decide +kernel
theorem dX4_know_155 : decode cX4_know 155 = .ok (.goto 4, 3) := by decide +kernel
theorem dX4_know_158 : decode cX4_know 158 = .ok (.iconst 0, 1) := by decide +kernel
theorem dX4_know_159 : decode cX4_know 159 = .ok (.putfield 99, 3) := by decide +kernel
theorem dX4_know_162 : decode cX4_know 162 = .ok (.return_, 1) := by decide +kernel
theorem dX4_comesBefore_0 : decode cX4_comesBefore 0 = .ok (.aload_n 0, 1) := by decide +kernel
theorem dX4_comesBefore_1 : decode cX4_comesBefore 1 = .ok (.getfield 24, 3) := by decide +kernel
theorem dX4_comesBefore_4 : decode cX4_comesBefore 4 = .ok (.iload_n 1, 1) := by decide +kernel
theorem dX4_comesBefore_5 : decode cX4_comesBefore 5 = .ok (.laload, 1) := by decide +kernel
theorem dX4_comesBefore_6 : decode cX4_comesBefore 6 = .ok (.aload_n 0, 1) := by decide +kernel
theorem dX4_comesBefore_7 : decode cX4_comesBefore 7 = .ok (.getfield 24, 3) := by decide +kernel
theorem dX4_comesBefore_10 : decode cX4_comesBefore 10 = .ok (.iload_n 2, 1) := by decide +kernel
theorem dX4_comesBefore_11 : decode cX4_comesBefore 11 = .ok (.laload, 1) := by decide +kernel
theorem dX4_comesBefore_12 : decode cX4_comesBefore 12 = .ok (.lcmp, 1) := by decide +kernel
theorem dX4_comesBefore_13 : decode cX4_comesBefore 13 = .ok (.ifCond .eq 25, 3) := by decide +kernel
theorem dX4_comesBefore_16 : decode cX4_comesBefore 16 = .ok (.aload_n 0, 1) := by decide +kernel
theorem dX4_comesBefore_17 : decode cX4_comesBefore 17 = .ok (.getfield 24, 3) := by decide +kernel
theorem dX4_comesBefore_20 : decode cX4_comesBefore 20 = .ok (.iload_n 1, 1) := by decide +kernel
theorem dX4_comesBefore_21 : decode cX4_comesBefore 21 = .ok (.laload, 1) := by decide +kernel
theorem dX4_comesBefore_22 : decode cX4_comesBefore 22 = .ok (.aload_n 0, 1) := by decide +kernel
theorem dX4_comesBefore_23 : decode cX4_comesBefore 23 = .ok (.getfield 24, 3) := by decide +kernel
theorem dX4_comesBefore_26 : decode cX4_comesBefore 26 = .ok (.iload_n 2, 1) := by decide +kernel
theorem dX4_comesBefore_27 : decode cX4_comesBefore 27 = .ok (.laload, 1) := by decide +kernel
theorem dX4_comesBefore_28 : decode cX4_comesBefore 28 = .ok (.lcmp, 1) := by decide +kernel
theorem dX4_comesBefore_29 : decode cX4_comesBefore 29 = .ok (.ifCond .le 7, 3) := by decide +kernel
theorem dX4_comesBefore_32 : decode cX4_comesBefore 32 = .ok (.iconst 1, 1) := by decide +kernel
theorem dX4_comesBefore_33 : decode cX4_comesBefore 33 = .ok (.goto 4, 3) := by decide +kernel
theorem dX4_comesBefore_36 : decode cX4_comesBefore 36 = .ok (.iconst 0, 1) := by decide +kernel
theorem dX4_comesBefore_37 : decode cX4_comesBefore 37 = .ok (.ireturn, 1) := by decide +kernel
theorem dX4_comesBefore_38 : decode cX4_comesBefore 38 = .ok (.aload_n 0, 1) := by decide +kernel
theorem dX4_comesBefore_39 : decode cX4_comesBefore 39 = .ok (.getfield 17, 3) := by decide +kernel
theorem dX4_comesBefore_42 : decode cX4_comesBefore 42 = .ok (.iload_n 1, 1) := by decide +kernel
theorem dX4_comesBefore_43 : decode cX4_comesBefore 43 = .ok (.iaload, 1) := by decide +kernel
theorem dX4_comesBefore_44 : decode cX4_comesBefore 44 = .ok (.aload_n 0, 1) := by decide +kernel
theorem dX4_comesBefore_45 : decode cX4_comesBefore 45 = .ok (.getfield 17, 3) := by decide +kernel
theorem dX4_comesBefore_48 : decode cX4_comesBefore 48 = .ok (.iload_n 2, 1) := by decide +kernel
theorem dX4_comesBefore_49 : decode cX4_comesBefore 49 = .ok (.iaload, 1) := by decide +kernel
theorem dX4_comesBefore_50 : decode cX4_comesBefore 50 = .ok (.if_icmp .eq 26, 3) := by decide +kernel
theorem dX4_comesBefore_53 : decode cX4_comesBefore 53 = .ok (.aload_n 0, 1) := by decide +kernel
theorem dX4_comesBefore_54 : decode cX4_comesBefore 54 = .ok (.getfield 17, 3) := by decide +kernel
theorem dX4_comesBefore_57 : decode cX4_comesBefore 57 = .ok (.iload_n 1, 1) := by decide +kernel
theorem dX4_comesBefore_58 : decode cX4_comesBefore 58 = .ok (.iaload, 1) := by decide +kernel
theorem dX4_comesBefore_59 : decode cX4_comesBefore 59 = .ok (.aload_n 0, 1) := by decide +kernel
theorem dX4_comesBefore_60 : decode cX4_comesBefore 60 = .ok (.getfield 17, 3) := by decide +kernel
theorem dX4_comesBefore_63 : decode cX4_comesBefore 63 = .ok (.iload_n 2, 1) := by decide +kernel
theorem dX4_comesBefore_64 : decode cX4_comesBefore 64 = .ok (.iaload, 1) := by decide +kernel
theorem dX4_comesBefore_65 : decode cX4_comesBefore 65 = .ok (.if_icmp .ge 7, 3) := by decide +kernel
theorem dX4_comesBefore_68 : decode cX4_comesBefore 68 = .ok (.iconst 1, 1) := by decide +kernel
theorem dX4_comesBefore_69 : decode cX4_comesBefore 69 = .ok (.goto 27, 3) := by decide +kernel
theorem dX4_comesBefore_72 : decode cX4_comesBefore 72 = .ok (.iconst 0, 1) := by decide +kernel
theorem dX4_comesBefore_73 : decode cX4_comesBefore 73 = .ok (.goto 23, 3) := by decide +kernel
theorem dX4_comesBefore_76 : decode cX4_comesBefore 76 = .ok (.aload_n 0, 1) := by decide +kernel
theorem dX4_comesBefore_77 : decode cX4_comesBefore 77 = .ok (.getfield 21, 3) := by decide +kernel
theorem dX4_comesBefore_80 : decode cX4_comesBefore 80 = .ok (.iload_n 1, 1) := by decide +kernel
theorem dX4_comesBefore_81 : decode cX4_comesBefore 81 = .ok (.iaload, 1) := by decide +kernel
theorem dX4_comesBefore_82 : decode cX4_comesBefore 82 = .ok (.aload_n 0, 1) := by decide +kernel
theorem dX4_comesBefore_83 : decode cX4_comesBefore 83 = .ok (.getfield 21, 3) := by decide +kernel
theorem dX4_comesBefore_86 : decode cX4_comesBefore 86 = .ok (.iload_n 2, 1) := by decide +kernel
theorem dX4_comesBefore_87 : decode cX4_comesBefore 87 = .ok (.iaload, 1) := by decide +kernel
theorem dX4_comesBefore_88 : decode cX4_comesBefore 88 = .ok (.if_icmp .ge 7, 3) := by decide +kernel
theorem dX4_comesBefore_91 : decode cX4_comesBefore 91 = .ok (.iconst 1, 1) := by decide +kernel
theorem dX4_comesBefore_92 : decode cX4_comesBefore 92 = .ok (.goto 4, 3) := by decide +kernel
theorem dX4_comesBefore_95 : decode cX4_comesBefore 95 = .ok (.iconst 0, 1) := by decide +kernel
theorem dX4_comesBefore_96 : decode cX4_comesBefore 96 = .ok (.ireturn, 1) := by decide +kernel
set_option maxRecDepth 20000 in
theorem ggX4_chains_X4_comesBefore : GoodIn wsX4_chains wsX4_comesBefore := goodIn_r _ [15, 4, 6, 7, 16, 17, 18, 19, 20, 21, 22, 23, 24, 25, 26, 27, 28, 29, 30, 31, 32, 33] (by decide +kernel) (by decide +kernel)
set_option maxRecDepth 20000 in
theorem gX4_chains_X4_comesBefore : GoodIn wsX4_chains (wsV RX4 102 RX4 yX4_comesBefore wsX4_comesBefore) := goodIn_app (goodIn_of _ (by decide +kernel)) ggX4_chains_X4_comesBefore
theorem dX4_chains_0 : decode cX4_chains 0 = .ok (.iconst 0, 1) := by decide +kernel
theorem dX4_chains_1 : decode cX4_chains 1 = .ok (.istore_n 1, 1) := by decide +kernel
theorem dX4_chains_2 : decode cX4_chains 2 = .ok (.iload_n 1, 1) := by decide +kernel
theorem dX4_chains_3 : decode cX4_chains 3 = .ok (.aload_n 0, 1) := by decide +kernel
theorem dX4_chains_4 : decode cX4_chains 4 = .ok (.getfield 56, 3) := by decide +kernel
theorem dX4_chains_7 : decode cX4_chains 7 = .ok (.if_icmp .ge 68, 3) := by decide +kernel
theorem dX4_chains_10 : decode cX4_chains 10 = .ok (.aload_n 0, 1) := by decide +kernel
theorem dX4_chains_11 : decode cX4_chains 11 = .ok (.getfield 47, 3) := by decide +kernel
theorem dX4_chains_14 : decode cX4_chains 14 = .ok (.iload_n 1, 1) := by decide +kernel
theorem dX4_chains_15 : decode cX4_chains 15 = .ok (.aload_n 0, 1) := by decide +kernel
theorem dX4_chains_16 : decode cX4_chains 16 = .ok (.getfield 28, 3) := by decide +kernel
theorem dX4_chains_19 : decode cX4_chains 19 = .ok (.iload_n 1, 1) := by decide +kernel
theorem dX4_chains_20 : decode cX4_chains 20 = .ok (.baload, 1) := by decide +kernel
theorem dX4_chains_21 : decode cX4_chains 21 = .ok (.ifCond .eq 42, 3) := by decide +kernel
theorem dX4_chains_24 : decode cX4_chains 24 = .ok (.aload_n 0, 1) := by decide +kernel
theorem dX4_chains_25 : decode cX4_chains 25 = .ok (.getfield 24, 3) := by decide +kernel
theorem dX4_chains_28 : decode cX4_chains 28 = .ok (.iload_n 1, 1) := by decide +kernel
theorem dX4_chains_29 : decode cX4_chains 29 = .ok (.laload, 1) := by decide +kernel
theorem dX4_chains_30 : decode cX4_chains 30 = .ok (.lconst 0, 1) := by decide +kernel
theorem dX4_chains_31 : decode cX4_chains 31 = .ok (.lcmp, 1) := by decide +kernel
theorem dX4_chains_32 : decode cX4_chains 32 = .ok (.ifCond .eq 31, 3) := by decide +kernel
theorem dX4_chains_35 : decode cX4_chains 35 = .ok (.aload_n 0, 1) := by decide +kernel
theorem dX4_chains_36 : decode cX4_chains 36 = .ok (.getfield 13, 3) := by decide +kernel
theorem dX4_chains_39 : decode cX4_chains 39 = .ok (.aload_n 0, 1) := by decide +kernel
theorem dX4_chains_40 : decode cX4_chains 40 = .ok (.getfield 17, 3) := by decide +kernel
theorem dX4_chains_43 : decode cX4_chains 43 = .ok (.iload_n 1, 1) := by decide +kernel
theorem dX4_chains_44 : decode cX4_chains 44 = .ok (.iaload, 1) := by decide +kernel
theorem dX4_chains_45 : decode cX4_chains 45 = .ok (.baload, 1) := by decide +kernel
theorem dX4_chains_46 : decode cX4_chains 46 = .ok (.ifCond .eq 17, 3) := by decide +kernel
theorem dX4_chains_49 : decode cX4_chains 49 = .ok (.aload_n 0, 1) := by decide +kernel
theorem dX4_chains_50 : decode cX4_chains 50 = .ok (.getfield 13, 3) := by decide +kernel
theorem dX4_chains_53 : decode cX4_chains 53 = .ok (.aload_n 0, 1) := by decide +kernel
theorem dX4_chains_54 : decode cX4_chains 54 = .ok (.getfield 21, 3) := by decide +kernel
theorem dX4_chains_57 : decode cX4_chains 57 = .ok (.iload_n 1, 1) := by decide +kernel
theorem dX4_chains_58 : decode cX4_chains 58 = .ok (.iaload, 1) := by decide +kernel
theorem dX4_chains_59 : decode cX4_chains 59 = .ok (.baload, 1) := by decide +kernel
theorem dX4_chains_60 : decode cX4_chains 60 = .ok (.ifCond .ne 7, 3) := by decide +kernel
theorem dX4_chains_63 : decode cX4_chains 63 = .ok (.iconst 1, 1) := by decide +kernel
theorem dX4_chains_64 : decode cX4_chains 64 = .ok (.goto 4, 3) := by decide +kernel
theorem dX4_chains_67 : decode cX4_chains 67 = .ok (.iconst 0, 1) := by decide +kernel
theorem dX4_chains_68 : decode cX4_chains 68 = .ok (.bastore, 1) := by decide +kernel
theorem dX4_chains_69 : decode cX4_chains 69 = .ok (.iinc 1 1, 3) := by decide +kernel
theorem dX4_chains_72 : decode cX4_chains 72 = .ok (.goto (-70), 3) := by decide +kernel
theorem dX4_chains_75 : decode cX4_chains 75 = .ok (.iconst 0, 1) := by decide +kernel
theorem dX4_chains_76 : decode cX4_chains 76 = .ok (.istore_n 1, 1) := by decide +kernel
theorem dX4_chains_77 : decode cX4_chains 77 = .ok (.iload_n 1, 1) := by decide +kernel
theorem dX4_chains_78 : decode cX4_chains 78 = .ok (.ifCond .lt 247, 3) := by decide +kernel
theorem dX4_chains_81 : decode cX4_chains 81 = .ok (.iconst (-1), 1) := by decide +kernel
theorem dX4_chains_82 : decode cX4_chains 82 = .ok (.istore_n 1, 1) := by decide +kernel
theorem dX4_chains_83 : decode cX4_chains 83 = .ok (.iconst 0, 1) := by decide +kernel
theorem dX4_chains_84 : decode cX4_chains 84 = .ok (.istore_n 2, 1) := by decide +kernel
theorem dX4_chains_85 : decode cX4_chains 85 = .ok (.iload_n 2, 1) := by decide +kernel
theorem dX4_chains_86 : decode cX4_chains 86 = .ok (.aload_n 0, 1) := by decide +kernel
theorem dX4_chains_87 : decode cX4_chains 87 = .ok (.getfield 56, 3) := by decide +kernel
theorem dX4_chains_90 : decode cX4_chains 90 = .ok (.if_icmp .ge 33, 3) := by decide +kernel
theorem dX4_chains_93 : decode cX4_chains 93 = .ok (.aload_n 0, 1) := by decide +kernel
theorem dX4_chains_94 : decode cX4_chains 94 = .ok (.getfield 47, 3) := by decide +kernel
theorem dX4_chains_97 : decode cX4_chains 97 = .ok (.iload_n 2, 1) := by decide +kernel
theorem dX4_chains_98 : decode cX4_chains 98 = .ok (.baload, 1) := by decide +kernel
theorem dX4_chains_99 : decode cX4_chains 99 = .ok (.ifCond .ne 18, 3) := by decide +kernel
theorem dX4_chains_102 : decode cX4_chains 102 = .ok (.iload_n 1, 1) := by decide +kernel
theorem dX4_chains_103 : decode cX4_chains 103 = .ok (.ifCond .lt 12, 3) := by decide +kernel
theorem dX4_chains_106 : decode cX4_chains 106 = .ok (.aload_n 0, 1) := by decide +kernel
theorem dX4_chains_107 : decode cX4_chains 107 = .ok (.iload_n 2, 1) := by decide +kernel
theorem dX4_chains_108 : decode cX4_chains 108 = .ok (.iload_n 1, 1) := by decide +kernel
theorem dX4_chains_109 : decode cX4_chains 109 = .ok (.invokevirtual 102, 3) := by decide +kernel
theorem dX4_chains_112 : decode cX4_chains 112 = .ok (.ifCond .eq 5, 3) := by decide +kernel
theorem dX4_chains_115 : decode cX4_chains 115 = .ok (.iload_n 2, 1) := by decide +kernel
theorem dX4_chains_116 : decode cX4_chains 116 = .ok (.istore_n 1, 1) := by decide +kernel
theorem dX4_chains_117 : decode cX4_chains 117 = .ok (.iinc 2 1, 3) := by decide +kernel
theorem dX4_chains_120 : decode cX4_chains 120 = .ok (.goto (-35), 3) := by decide +kernel
theorem dX4_chains_123 : decode cX4_chains 123 = .ok (.iload_n 1, 1) := by decide +kernel
theorem dX4_chains_124 : decode cX4_chains 124 = .ok (.ifCond .ge 4, 3) := by decide +kernel
theorem dX4_chains_127 : decode cX4_chains 127 = .ok (.return_, 1) := by decide +kernel
theorem dX4_chains_128 : decode cX4_chains 128 = .ok (.aload_n 0, 1) := by decide +kernel
theorem dX4_chains_129 : decode cX4_chains 129 = .ok (.getfield 47, 3) := by decide +kernel
theorem dX4_chains_132 : decode cX4_chains 132 = .ok (.iload_n 1, 1) := by decide +kernel
theorem dX4_chains_133 : decode cX4_chains 133 = .ok (.iconst 1, 1) := by decide +kernel
theorem dX4_chains_134 : decode cX4_chains 134 = .ok (.bastore, 1) := by decide +kernel
theorem dX4_chains_135 : decode cX4_chains 135 = .ok (.aload_n 0, 1) := by decide +kernel
theorem dX4_chains_136 : decode cX4_chains 136 = .ok (.getfield 38, 3) := by decide +kernel
theorem dX4_chains_139 : decode cX4_chains 139 = .ok (.aload_n 0, 1) := by decide +kernel
theorem dX4_chains_140 : decode cX4_chains 140 = .ok (.getfield 17, 3) := by decide +kernel
theorem dX4_chains_143 : decode cX4_chains 143 = .ok (.iload_n 1, 1) := by decide +kernel
theorem dX4_chains_144 : decode cX4_chains 144 = .ok (.iaload, 1) := by decide +kernel
theorem dX4_chains_145 : decode cX4_chains 145 = .ok (.iaload, 1) := by decide +kernel
theorem dX4_chains_146 : decode cX4_chains 146 = .ok (.istore_n 2, 1) := by decide +kernel
theorem dX4_chains_147 : decode cX4_chains 147 = .ok (.aload_n 0, 1) := by decide +kernel
theorem dX4_chains_148 : decode cX4_chains 148 = .ok (.getfield 38, 3) := by decide +kernel
theorem dX4_chains_151 : decode cX4_chains 151 = .ok (.aload_n 0, 1) := by decide +kernel
theorem dX4_chains_152 : decode cX4_chains 152 = .ok (.getfield 21, 3) := by decide +kernel
theorem dX4_chains_155 : decode cX4_chains 155 = .ok (.iload_n 1, 1) := by decide +kernel
theorem dX4_chains_156 : decode cX4_chains 156 = .ok (.iaload, 1) := by decide +kernel
theorem dX4_chains_157 : decode cX4_chains 157 = .ok (.iaload, 1) := by decide +kernel
theorem dX4_chains_158 : decode cX4_chains 158 = .ok (.istore_n 3, 1) := by decide +kernel
theorem dX4_chains_159 : decode cX4_chains 159 = .ok (.iload_n 2, 1) := by decide +kernel
theorem dX4_chains_160 : decode cX4_chains 160 = .ok (.iload_n 3, 1) := by decide +kernel
theorem dX4_chains_161 : decode cX4_chains 161 = .ok (.if_icmp .eq 63, 3) := by decide +kernel
theorem dX4_chains_164 : decode cX4_chains 164 = .ok (.aload_n 0, 1) := by decide +kernel
theorem dX4_chains_165 : decode cX4_chains 165 = .ok (.getfield 32, 3) := by decide +kernel
theorem dX4_chains_168 : decode cX4_chains 168 = .ok (.sipush 200, 3) := by decide +kernel
theorem dX4_chains_171 : decode cX4_chains 171 = .ok (.iload_n 2, 1) := by decide +kernel
theorem dX4_chains_172 : decode cX4_chains 172 = .ok (.imul, 1) := by decide +kernel
theorem dX4_chains_173 : decode cX4_chains 173 = .ok (.aload_n 0, 1) := by decide +kernel
theorem dX4_chains_174 : decode cX4_chains 174 = .ok (.getfield 35, 3) := by decide +kernel
theorem dX4_chains_177 : decode cX4_chains 177 = .ok (.iload_n 2, 1) := by decide +kernel
theorem dX4_chains_178 : decode cX4_chains 178 = .ok (.iaload, 1) := by decide +kernel
theorem dX4_chains_179 : decode cX4_chains 179 = .ok (.iadd, 1) := by decide +kernel
theorem dX4_chains_180 : decode cX4_chains 180 = .ok (.iconst 1, 1) := by decide +kernel
theorem dX4_chains_181 : decode cX4_chains 181 = .ok (.isub, 1) := by decide +kernel
theorem dX4_chains_182 : decode cX4_chains 182 = .ok (.iaload, 1) := by decide +kernel
theorem dX4_chains_183 : decode cX4_chains 183 = .ok (.aload_n 0, 1) := by decide +kernel
theorem dX4_chains_184 : decode cX4_chains 184 = .ok (.getfield 17, 3) := by decide +kernel
theorem dX4_chains_187 : decode cX4_chains 187 = .ok (.iload_n 1, 1) := by decide +kernel
theorem dX4_chains_188 : decode cX4_chains 188 = .ok (.iaload, 1) := by decide +kernel
theorem dX4_chains_189 : decode cX4_chains 189 = .ok (.if_icmp .ne 35, 3) := by decide +kernel
theorem dX4_chains_192 : decode cX4_chains 192 = .ok (.aload_n 0, 1) := by decide +kernel
theorem dX4_chains_193 : decode cX4_chains 193 = .ok (.getfield 32, 3) := by decide +kernel
theorem dX4_chains_196 : decode cX4_chains 196 = .ok (.sipush 200, 3) := by decide +kernel
theorem dX4_chains_199 : decode cX4_chains 199 = .ok (.iload_n 3, 1) := by decide +kernel
theorem dX4_chains_200 : decode cX4_chains 200 = .ok (.imul, 1) := by decide +kernel
theorem dX4_chains_201 : decode cX4_chains 201 = .ok (.iaload, 1) := by decide +kernel
theorem dX4_chains_202 : decode cX4_chains 202 = .ok (.aload_n 0, 1) := by decide +kernel
theorem dX4_chains_203 : decode cX4_chains 203 = .ok (.getfield 21, 3) := by decide +kernel
theorem dX4_chains_206 : decode cX4_chains 206 = .ok (.iload_n 1, 1) := by decide +kernel
theorem dX4_chains_207 : decode cX4_chains 207 = .ok (.iaload, 1) := by decide +kernel
theorem dX4_chains_208 : decode cX4_chains 208 = .ok (.if_icmp .ne 16, 3) := by decide +kernel
theorem dX4_chains_211 : decode cX4_chains 211 = .ok (.aload_n 0, 1) := by decide +kernel
theorem dX4_chains_212 : decode cX4_chains 212 = .ok (.getfield 21, 3) := by decide +kernel
theorem dX4_chains_215 : decode cX4_chains 215 = .ok (.iload_n 1, 1) := by decide +kernel
theorem dX4_chains_216 : decode cX4_chains 216 = .ok (.iaload, 1) := by decide +kernel
theorem dX4_chains_217 : decode cX4_chains 217 = .ok (.ifCond .eq 7, 3) := by decide +kernel
theorem dX4_chains_220 : decode cX4_chains 220 = .ok (.iconst 1, 1) := by decide +kernel
theorem dX4_chains_221 : decode cX4_chains 221 = .ok (.goto 4, 3) := by decide +kernel
theorem dX4_chains_224 : decode cX4_chains 224 = .ok (.iconst 0, 1) := by decide +kernel
theorem dX4_chains_225 : decode cX4_chains 225 = .ok (.istore 4, 2) := by decide +kernel
theorem dX4_chains_227 : decode cX4_chains 227 = .ok (.iload 4, 2) := by decide +kernel
theorem dX4_chains_229 : decode cX4_chains 229 = .ok (.ifCond .ne 6, 3) := by decide +kernel
theorem dX4_chains_232 : decode cX4_chains 232 = .ok (.goto (-155), 3) := by decide +kernel
theorem dX4_chains_235 : decode cX4_chains 235 = .ok (.iconst 0, 1) := by decide +kernel
theorem dX4_chains_236 : decode cX4_chains 236 = .ok (.istore 5, 2) := by decide +kernel
theorem dX4_chains_238 : decode cX4_chains 238 = .ok (.iload 5, 2) := by decide +kernel
theorem dX4_chains_240 : decode cX4_chains 240 = .ok (.aload_n 0, 1) := by decide +kernel
theorem dX4_chains_241 : decode cX4_chains 241 = .ok (.getfield 35, 3) := by decide +kernel
theorem dX4_chains_244 : decode cX4_chains 244 = .ok (.iload_n 3, 1) := by decide +kernel
theorem dX4_chains_245 : decode cX4_chains 245 = .ok (.iaload, 1) := by decide +kernel
theorem dX4_chains_246 : decode cX4_chains 246 = .ok (.if_icmp .ge 54, 3) := by decide +kernel
theorem dX4_chains_249 : decode cX4_chains 249 = .ok (.aload_n 0, 1) := by decide +kernel
theorem dX4_chains_250 : decode cX4_chains 250 = .ok (.getfield 32, 3) := by decide +kernel
theorem dX4_chains_253 : decode cX4_chains 253 = .ok (.sipush 200, 3) := by decide +kernel
theorem dX4_chains_256 : decode cX4_chains 256 = .ok (.iload_n 3, 1) := by decide +kernel
theorem dX4_chains_257 : decode cX4_chains 257 = .ok (.imul, 1) := by decide +kernel
theorem dX4_chains_258 : decode cX4_chains 258 = .ok (.iload 5, 2) := by decide +kernel
theorem dX4_chains_260 : decode cX4_chains 260 = .ok (.iadd, 1) := by decide +kernel
theorem dX4_chains_261 : decode cX4_chains 261 = .ok (.iaload, 1) := by decide +kernel
theorem dX4_chains_262 : decode cX4_chains 262 = .ok (.istore 6, 2) := by decide +kernel
theorem dX4_chains_264 : decode cX4_chains 264 = .ok (.aload_n 0, 1) := by decide +kernel
theorem dX4_chains_265 : decode cX4_chains 265 = .ok (.getfield 32, 3) := by decide +kernel
theorem dX4_chains_268 : decode cX4_chains 268 = .ok (.sipush 200, 3) := by decide +kernel
theorem dX4_chains_271 : decode cX4_chains 271 = .ok (.iload_n 2, 1) := by decide +kernel
theorem dX4_chains_272 : decode cX4_chains 272 = .ok (.imul, 1) := by decide +kernel
theorem dX4_chains_273 : decode cX4_chains 273 = .ok (.aload_n 0, 1) := by decide +kernel
theorem dX4_chains_274 : decode cX4_chains 274 = .ok (.getfield 35, 3) := by decide +kernel
theorem dX4_chains_277 : decode cX4_chains 277 = .ok (.iload_n 2, 1) := by decide +kernel
theorem dX4_chains_278 : decode cX4_chains 278 = .ok (.iaload, 1) := by decide +kernel
theorem dX4_chains_279 : decode cX4_chains 279 = .ok (.iadd, 1) := by decide +kernel
theorem dX4_chains_280 : decode cX4_chains 280 = .ok (.iload 5, 2) := by decide +kernel
theorem dX4_chains_282 : decode cX4_chains 282 = .ok (.iadd, 1) := by decide +kernel
theorem dX4_chains_283 : decode cX4_chains 283 = .ok (.iload 6, 2) := by decide +kernel
theorem dX4_chains_285 : decode cX4_chains 285 = .ok (.iastore, 1) := by decide +kernel
theorem dX4_chains_286 : decode cX4_chains 286 = .ok (.aload_n 0, 1) := by decide +kernel
theorem dX4_chains_287 : decode cX4_chains 287 = .ok (.getfield 38, 3) := by decide +kernel
theorem dX4_chains_290 : decode cX4_chains 290 = .ok (.iload 6, 2) := by decide +kernel
theorem dX4_chains_292 : decode cX4_chains 292 = .ok (.iload_n 2, 1) := by decide +kernel
theorem dX4_chains_293 : decode cX4_chains 293 = .ok (.iastore, 1) := by decide +kernel
theorem dX4_chains_294 : decode cX4_chains 294 = .ok (.iinc 5 1, 3) := by decide +kernel
theorem dX4_chains_297 : decode cX4_chains 297 = .ok (.goto (-59), 3) := by decide +kernel
theorem dX4_chains_300 : decode cX4_chains 300 = .ok (.aload_n 0, 1) := by decide +kernel
theorem dX4_chains_301 : decode cX4_chains 301 = .ok (.getfield 35, 3) := by decide +kernel
theorem dX4_chains_304 : decode cX4_chains 304 = .ok (.iload_n 2, 1) := by decide +kernel
theorem dX4_chains_305 : decode cX4_chains 305 = .ok (.dup2, 1) := by decide +kernel
theorem dX4_chains_306 : decode cX4_chains 306 = .ok (.iaload, 1) := by decide +kernel
theorem dX4_chains_307 : decode cX4_chains 307 = .ok (.aload_n 0, 1) := by decide +kernel
theorem dX4_chains_308 : decode cX4_chains 308 = .ok (.getfield 35, 3) := by decide +kernel
theorem dX4_chains_311 : decode cX4_chains 311 = .ok (.iload_n 3, 1) := by decide +kernel
theorem dX4_chains_312 : decode cX4_chains 312 = .ok (.iaload, 1) := by decide +kernel
theorem dX4_chains_313 : decode cX4_chains 313 = .ok (.iadd, 1) := by decide +kernel
theorem dX4_chains_314 : decode cX4_chains 314 = .ok (.iastore, 1) := by decide +kernel
theorem dX4_chains_315 : decode cX4_chains 315 = .ok (.aload_n 0, 1) := by decide +kernel
theorem dX4_chains_316 : decode cX4_chains 316 = .ok (.getfield 35, 3) := by decide +kernel
theorem dX4_chains_319 : decode cX4_chains 319 = .ok (.iload_n 3, 1) := by decide +kernel
theorem dX4_chains_320 : decode cX4_chains 320 = .ok (.iconst 0, 1) := by decide +kernel
theorem dX4_chains_321 : decode cX4_chains 321 = .ok (.iastore, 1) := by decide +kernel
theorem dX4_chains_322 : decode cX4_chains 322 = .ok (.goto (-245), 3) := by decide +kernel
theorem dX4_chains_325 : decode cX4_chains 325 = .ok (.return_, 1) := by decide +kernel
set_option maxRecDepth 20000 in
theorem ggX4_place_X4_sum : GoodIn wsX4_place wsX4_sum := goodIn_r _ [14, 15, 16, 17, 6, 2, 18, 19, 20, 21, 22, 23, 24, 25, 26, 27, 28, 29, 30, 31, 32, 33, 34, 35, 36] (by decide +kernel) (by decide +kernel)
set_option maxRecDepth 20000 in
theorem gX4_place_X4_sum : GoodIn wsX4_place (wsV RX4 106 RX4 yX4_sum wsX4_sum) := goodIn_app (goodIn_of _ (by decide +kernel)) ggX4_place_X4_sum
theorem dX4_place_0 : decode cX4_place 0 = .ok (.iconst 0, 1) := by decide +kernel
theorem dX4_place_1 : decode cX4_place 1 = .ok (.istore_n 1, 1) := by decide +kernel
theorem dX4_place_2 : decode cX4_place 2 = .ok (.iload_n 1, 1) := by decide +kernel
theorem dX4_place_3 : decode cX4_place 3 = .ok (.aload_n 0, 1) := by decide +kernel
theorem dX4_place_4 : decode cX4_place 4 = .ok (.getfield 7, 3) := by decide +kernel
theorem dX4_place_7 : decode cX4_place 7 = .ok (.if_icmp .ge 16, 3) := by decide +kernel
theorem dX4_place_10 : decode cX4_place 10 = .ok (.aload_n 0, 1) := by decide +kernel
theorem dX4_place_11 : decode cX4_place 11 = .ok (.getfield 50, 3) := by decide +kernel
theorem dX4_place_14 : decode cX4_place 14 = .ok (.iload_n 1, 1) := by decide +kernel
theorem dX4_place_15 : decode cX4_place 15 = .ok (.iconst 0, 1) := by decide +kernel
theorem dX4_place_16 : decode cX4_place 16 = .ok (.bastore, 1) := by decide +kernel
theorem dX4_place_17 : decode cX4_place 17 = .ok (.iinc 1 1, 3) := by decide +kernel
theorem dX4_place_20 : decode cX4_place 20 = .ok (.goto (-18), 3) := by decide +kernel
theorem dX4_place_23 : decode cX4_place 23 = .ok (.iconst 0, 1) := by decide +kernel
theorem dX4_place_24 : decode cX4_place 24 = .ok (.istore_n 1, 1) := by decide +kernel
theorem dX4_place_25 : decode cX4_place 25 = .ok (.iload_n 1, 1) := by decide +kernel
theorem dX4_place_26 : decode cX4_place 26 = .ok (.aload_n 0, 1) := by decide +kernel
theorem dX4_place_27 : decode cX4_place 27 = .ok (.getfield 86, 3) := by decide +kernel
theorem dX4_place_30 : decode cX4_place 30 = .ok (.if_icmp .ge 160, 3) := by decide +kernel
theorem dX4_place_33 : decode cX4_place 33 = .ok (.iconst (-1), 1) := by decide +kernel
theorem dX4_place_34 : decode cX4_place 34 = .ok (.istore_n 2, 1) := by decide +kernel
theorem dX4_place_35 : decode cX4_place 35 = .ok (.ldc2_w 67, 3) := by decide +kernel
theorem dX4_place_38 : decode cX4_place 38 = .ok (.lstore_n 3, 1) := by decide +kernel
theorem dX4_place_39 : decode cX4_place 39 = .ok (.iconst 0, 1) := by decide +kernel
theorem dX4_place_40 : decode cX4_place 40 = .ok (.istore 5, 2) := by decide +kernel
theorem dX4_place_42 : decode cX4_place 42 = .ok (.iload 5, 2) := by decide +kernel
theorem dX4_place_44 : decode cX4_place 44 = .ok (.aload_n 0, 1) := by decide +kernel
theorem dX4_place_45 : decode cX4_place 45 = .ok (.getfield 7, 3) := by decide +kernel
theorem dX4_place_48 : decode cX4_place 48 = .ok (.if_icmp .ge 85, 3) := by decide +kernel
theorem dX4_place_51 : decode cX4_place 51 = .ok (.aload_n 0, 1) := by decide +kernel
theorem dX4_place_52 : decode cX4_place 52 = .ok (.getfield 13, 3) := by decide +kernel
theorem dX4_place_55 : decode cX4_place 55 = .ok (.iload 5, 2) := by decide +kernel
theorem dX4_place_57 : decode cX4_place 57 = .ok (.baload, 1) := by decide +kernel
theorem dX4_place_58 : decode cX4_place 58 = .ok (.ifCond .eq 69, 3) := by decide +kernel
theorem dX4_place_61 : decode cX4_place 61 = .ok (.aload_n 0, 1) := by decide +kernel
theorem dX4_place_62 : decode cX4_place 62 = .ok (.getfield 50, 3) := by decide +kernel
theorem dX4_place_65 : decode cX4_place 65 = .ok (.iload 5, 2) := by decide +kernel
theorem dX4_place_67 : decode cX4_place 67 = .ok (.baload, 1) := by decide +kernel
theorem dX4_place_68 : decode cX4_place 68 = .ok (.ifCond .ne 59, 3) := by decide +kernel
theorem dX4_place_71 : decode cX4_place 71 = .ok (.iload_n 2, 1) := by decide +kernel
theorem dX4_place_72 : decode cX4_place 72 = .ok (.aload_n 0, 1) := by decide +kernel
theorem dX4_place_73 : decode cX4_place 73 = .ok (.getfield 38, 3) := by decide +kernel
theorem dX4_place_76 : decode cX4_place 76 = .ok (.iload 5, 2) := by decide +kernel
theorem dX4_place_78 : decode cX4_place 78 = .ok (.iaload, 1) := by decide +kernel
theorem dX4_place_79 : decode cX4_place 79 = .ok (.if_icmp .ne 6, 3) := by decide +kernel
theorem dX4_place_82 : decode cX4_place 82 = .ok (.goto 45, 3) := by decide +kernel
theorem dX4_place_85 : decode cX4_place 85 = .ok (.iload_n 1, 1) := by decide +kernel
theorem dX4_place_86 : decode cX4_place 86 = .ok (.ifCond .ne 7, 3) := by decide +kernel
theorem dX4_place_89 : decode cX4_place 89 = .ok (.lconst 0, 1) := by decide +kernel
theorem dX4_place_90 : decode cX4_place 90 = .ok (.goto 14, 3) := by decide +kernel
theorem dX4_place_93 : decode cX4_place 93 = .ok (.aload_n 0, 1) := by decide +kernel
theorem dX4_place_94 : decode cX4_place 94 = .ok (.aload_n 0, 1) := by decide +kernel
theorem dX4_place_95 : decode cX4_place 95 = .ok (.getfield 38, 3) := by decide +kernel
theorem dX4_place_98 : decode cX4_place 98 = .ok (.iload 5, 2) := by decide +kernel
theorem dX4_place_100 : decode cX4_place 100 = .ok (.iaload, 1) := by decide +kernel
theorem dX4_place_101 : decode cX4_place 101 = .ok (.invokevirtual 106, 3) := by decide +kernel
theorem dX4_place_104 : decode cX4_place 104 = .ok (.lstore 6, 2) := by decide +kernel
theorem dX4_place_106 : decode cX4_place 106 = .ok (.lload 6, 2) := by decide +kernel
theorem dX4_place_108 : decode cX4_place 108 = .ok (.lload_n 3, 1) := by decide +kernel
theorem dX4_place_109 : decode cX4_place 109 = .ok (.lcmp, 1) := by decide +kernel
theorem dX4_place_110 : decode cX4_place 110 = .ok (.ifCond .gt 6, 3) := by decide +kernel
theorem dX4_place_113 : decode cX4_place 113 = .ok (.goto 14, 3) := by decide +kernel
theorem dX4_place_116 : decode cX4_place 116 = .ok (.aload_n 0, 1) := by decide +kernel
theorem dX4_place_117 : decode cX4_place 117 = .ok (.getfield 38, 3) := by decide +kernel
theorem dX4_place_120 : decode cX4_place 120 = .ok (.iload 5, 2) := by decide +kernel
theorem dX4_place_122 : decode cX4_place 122 = .ok (.iaload, 1) := by decide +kernel
theorem dX4_place_123 : decode cX4_place 123 = .ok (.istore_n 2, 1) := by decide +kernel
theorem dX4_place_124 : decode cX4_place 124 = .ok (.lload 6, 2) := by decide +kernel
theorem dX4_place_126 : decode cX4_place 126 = .ok (.lstore_n 3, 1) := by decide +kernel
theorem dX4_place_127 : decode cX4_place 127 = .ok (.iinc 5 1, 3) := by decide +kernel
theorem dX4_place_130 : decode cX4_place 130 = .ok (.goto (-88), 3) := by decide +kernel
theorem dX4_place_133 : decode cX4_place 133 = .ok (.iconst 0, 1) := by decide +kernel
theorem dX4_place_134 : decode cX4_place 134 = .ok (.istore 5, 2) := by decide +kernel
theorem dX4_place_136 : decode cX4_place 136 = .ok (.iload 5, 2) := by decide +kernel
theorem dX4_place_138 : decode cX4_place 138 = .ok (.aload_n 0, 1) := by decide +kernel
theorem dX4_place_139 : decode cX4_place 139 = .ok (.getfield 35, 3) := by decide +kernel
theorem dX4_place_142 : decode cX4_place 142 = .ok (.iload_n 2, 1) := by decide +kernel
theorem dX4_place_143 : decode cX4_place 143 = .ok (.iaload, 1) := by decide +kernel
theorem dX4_place_144 : decode cX4_place 144 = .ok (.if_icmp .ge 43, 3) := by decide +kernel
theorem dX4_place_147 : decode cX4_place 147 = .ok (.aload_n 0, 1) := by decide +kernel
theorem dX4_place_148 : decode cX4_place 148 = .ok (.getfield 41, 3) := by decide +kernel
theorem dX4_place_151 : decode cX4_place 151 = .ok (.iload_n 1, 1) := by decide +kernel
theorem dX4_place_152 : decode cX4_place 152 = .ok (.aload_n 0, 1) := by decide +kernel
theorem dX4_place_153 : decode cX4_place 153 = .ok (.getfield 32, 3) := by decide +kernel
theorem dX4_place_156 : decode cX4_place 156 = .ok (.sipush 200, 3) := by decide +kernel
theorem dX4_place_159 : decode cX4_place 159 = .ok (.iload_n 2, 1) := by decide +kernel
theorem dX4_place_160 : decode cX4_place 160 = .ok (.imul, 1) := by decide +kernel
theorem dX4_place_161 : decode cX4_place 161 = .ok (.iload 5, 2) := by decide +kernel
theorem dX4_place_163 : decode cX4_place 163 = .ok (.iadd, 1) := by decide +kernel
theorem dX4_place_164 : decode cX4_place 164 = .ok (.iaload, 1) := by decide +kernel
theorem dX4_place_165 : decode cX4_place 165 = .ok (.iastore, 1) := by decide +kernel
theorem dX4_place_166 : decode cX4_place 166 = .ok (.aload_n 0, 1) := by decide +kernel
theorem dX4_place_167 : decode cX4_place 167 = .ok (.getfield 50, 3) := by decide +kernel
theorem dX4_place_170 : decode cX4_place 170 = .ok (.aload_n 0, 1) := by decide +kernel
theorem dX4_place_171 : decode cX4_place 171 = .ok (.getfield 41, 3) := by decide +kernel
theorem dX4_place_174 : decode cX4_place 174 = .ok (.iload_n 1, 1) := by decide +kernel
theorem dX4_place_175 : decode cX4_place 175 = .ok (.iaload, 1) := by decide +kernel
theorem dX4_place_176 : decode cX4_place 176 = .ok (.iconst 1, 1) := by decide +kernel
theorem dX4_place_177 : decode cX4_place 177 = .ok (.bastore, 1) := by decide +kernel
theorem dX4_place_178 : decode cX4_place 178 = .ok (.iinc 1 1, 3) := by decide +kernel
theorem dX4_place_181 : decode cX4_place 181 = .ok (.iinc 5 1, 3) := by decide +kernel
theorem dX4_place_184 : decode cX4_place 184 = .ok (.goto (-48), 3) := by decide +kernel
theorem dX4_place_187 : decode cX4_place 187 = .ok (.goto (-162), 3) := by decide +kernel
theorem dX4_place_190 : decode cX4_place 190 = .ok (.return_, 1) := by decide +kernel
theorem dX4_sum_0 : decode cX4_sum 0 = .ok (.lconst 0, 1) := by decide +kernel
theorem dX4_sum_1 : decode cX4_sum 1 = .ok (.lstore_n 2, 1) := by decide +kernel
theorem dX4_sum_2 : decode cX4_sum 2 = .ok (.iconst 0, 1) := by decide +kernel
theorem dX4_sum_3 : decode cX4_sum 3 = .ok (.istore 4, 2) := by decide +kernel
theorem dX4_sum_5 : decode cX4_sum 5 = .ok (.iload 4, 2) := by decide +kernel
theorem dX4_sum_7 : decode cX4_sum 7 = .ok (.aload_n 0, 1) := by decide +kernel
theorem dX4_sum_8 : decode cX4_sum 8 = .ok (.getfield 56, 3) := by decide +kernel
theorem dX4_sum_11 : decode cX4_sum 11 = .ok (.if_icmp .ge 79, 3) := by decide +kernel
theorem dX4_sum_14 : decode cX4_sum 14 = .ok (.aload_n 0, 1) := by decide +kernel
theorem dX4_sum_15 : decode cX4_sum 15 = .ok (.getfield 17, 3) := by decide +kernel
theorem dX4_sum_18 : decode cX4_sum 18 = .ok (.iload 4, 2) := by decide +kernel
theorem dX4_sum_20 : decode cX4_sum 20 = .ok (.iaload, 1) := by decide +kernel
theorem dX4_sum_21 : decode cX4_sum 21 = .ok (.istore 5, 2) := by decide +kernel
theorem dX4_sum_23 : decode cX4_sum 23 = .ok (.aload_n 0, 1) := by decide +kernel
theorem dX4_sum_24 : decode cX4_sum 24 = .ok (.getfield 21, 3) := by decide +kernel
theorem dX4_sum_27 : decode cX4_sum 27 = .ok (.iload 4, 2) := by decide +kernel
theorem dX4_sum_29 : decode cX4_sum 29 = .ok (.iaload, 1) := by decide +kernel
theorem dX4_sum_30 : decode cX4_sum 30 = .ok (.istore 6, 2) := by decide +kernel
theorem dX4_sum_32 : decode cX4_sum 32 = .ok (.aload_n 0, 1) := by decide +kernel
theorem dX4_sum_33 : decode cX4_sum 33 = .ok (.getfield 38, 3) := by decide +kernel
theorem dX4_sum_36 : decode cX4_sum 36 = .ok (.iload 5, 2) := by decide +kernel
theorem dX4_sum_38 : decode cX4_sum 38 = .ok (.iaload, 1) := by decide +kernel
theorem dX4_sum_39 : decode cX4_sum 39 = .ok (.iload_n 1, 1) := by decide +kernel
theorem dX4_sum_40 : decode cX4_sum 40 = .ok (.if_icmp .ne 13, 3) := by decide +kernel
theorem dX4_sum_43 : decode cX4_sum 43 = .ok (.aload_n 0, 1) := by decide +kernel
theorem dX4_sum_44 : decode cX4_sum 44 = .ok (.getfield 50, 3) := by decide +kernel
theorem dX4_sum_47 : decode cX4_sum 47 = .ok (.iload 6, 2) := by decide +kernel
theorem dX4_sum_49 : decode cX4_sum 49 = .ok (.baload, 1) := by decide +kernel
theorem dX4_sum_50 : decode cX4_sum 50 = .ok (.ifCond .ne 24, 3) := by decide +kernel
theorem dX4_sum_53 : decode cX4_sum 53 = .ok (.aload_n 0, 1) := by decide +kernel
theorem dX4_sum_54 : decode cX4_sum 54 = .ok (.getfield 38, 3) := by decide +kernel
theorem dX4_sum_57 : decode cX4_sum 57 = .ok (.iload 6, 2) := by decide +kernel
theorem dX4_sum_59 : decode cX4_sum 59 = .ok (.iaload, 1) := by decide +kernel
theorem dX4_sum_60 : decode cX4_sum 60 = .ok (.iload_n 1, 1) := by decide +kernel
theorem dX4_sum_61 : decode cX4_sum 61 = .ok (.if_icmp .ne 23, 3) := by decide +kernel
theorem dX4_sum_64 : decode cX4_sum 64 = .ok (.aload_n 0, 1) := by decide +kernel
theorem dX4_sum_65 : decode cX4_sum 65 = .ok (.getfield 50, 3) := by decide +kernel
theorem dX4_sum_68 : decode cX4_sum 68 = .ok (.iload 5, 2) := by decide +kernel
theorem dX4_sum_70 : decode cX4_sum 70 = .ok (.baload, 1) := by decide +kernel
theorem dX4_sum_71 : decode cX4_sum 71 = .ok (.ifCond .eq 13, 3) := by decide +kernel
theorem dX4_sum_74 : decode cX4_sum 74 = .ok (.lload_n 2, 1) := by decide +kernel
theorem dX4_sum_75 : decode cX4_sum 75 = .ok (.aload_n 0, 1) := by decide +kernel
theorem dX4_sum_76 : decode cX4_sum 76 = .ok (.getfield 24, 3) := by decide +kernel
theorem dX4_sum_79 : decode cX4_sum 79 = .ok (.iload 4, 2) := by decide +kernel
theorem dX4_sum_81 : decode cX4_sum 81 = .ok (.laload, 1) := by decide +kernel
theorem dX4_sum_82 : decode cX4_sum 82 = .ok (.ladd, 1) := by decide +kernel
theorem dX4_sum_83 : decode cX4_sum 83 = .ok (.lstore_n 2, 1) := by decide +kernel
theorem dX4_sum_84 : decode cX4_sum 84 = .ok (.iinc 4 1, 3) := by decide +kernel
theorem dX4_sum_87 : decode cX4_sum 87 = .ok (.goto (-82), 3) := by decide +kernel
theorem dX4_sum_90 : decode cX4_sum 90 = .ok (.lload_n 2, 1) := by decide +kernel
theorem dX4_sum_91 : decode cX4_sum 91 = .ok (.lreturn, 1) := by decide +kernel
set_option maxRecDepth 20000 in
theorem ggX4_weightOf_X4_find : GoodIn wsX4_weightOf wsX4_find := goodIn_r _ [7, 8, 9, 10, 11, 12, 13, 14, 15, 16, 17, 18, 19, 20, 21, 22, 23, 24, 25, 26, 27, 28] (by decide +kernel) (by decide +kernel)
set_option maxRecDepth 20000 in
theorem gX4_weightOf_X4_find : GoodIn wsX4_weightOf (wsV RX4 72 RX4 yX4_find wsX4_find) := goodIn_app (goodIn_of _ (by decide +kernel)) ggX4_weightOf_X4_find
theorem dX4_weightOf_0 : decode cX4_weightOf 0 = .ok (.lconst 0, 1) := by decide +kernel
theorem dX4_weightOf_1 : decode cX4_weightOf 1 = .ok (.lstore_n 3, 1) := by decide +kernel
theorem dX4_weightOf_2 : decode cX4_weightOf 2 = .ok (.iconst 0, 1) := by decide +kernel
theorem dX4_weightOf_3 : decode cX4_weightOf 3 = .ok (.istore 5, 2) := by decide +kernel
theorem dX4_weightOf_5 : decode cX4_weightOf 5 = .ok (.iload 5, 2) := by decide +kernel
theorem dX4_weightOf_7 : decode cX4_weightOf 7 = .ok (.iconst 1, 1) := by decide +kernel
theorem dX4_weightOf_8 : decode cX4_weightOf 8 = .ok (.iadd, 1) := by decide +kernel
theorem dX4_weightOf_9 : decode cX4_weightOf 9 = .ok (.iload_n 2, 1) := by decide +kernel
theorem dX4_weightOf_10 : decode cX4_weightOf 10 = .ok (.if_icmp .ge 50, 3) := by decide +kernel
theorem dX4_weightOf_13 : decode cX4_weightOf 13 = .ok (.aload_n 0, 1) := by decide +kernel
theorem dX4_weightOf_14 : decode cX4_weightOf 14 = .ok (.aload_n 1, 1) := by decide +kernel
theorem dX4_weightOf_15 : decode cX4_weightOf 15 = .ok (.iload 5, 2) := by decide +kernel
theorem dX4_weightOf_17 : decode cX4_weightOf 17 = .ok (.iaload, 1) := by decide +kernel
theorem dX4_weightOf_18 : decode cX4_weightOf 18 = .ok (.aload_n 1, 1) := by decide +kernel
theorem dX4_weightOf_19 : decode cX4_weightOf 19 = .ok (.iload 5, 2) := by decide +kernel
theorem dX4_weightOf_21 : decode cX4_weightOf 21 = .ok (.iconst 1, 1) := by decide +kernel
theorem dX4_weightOf_22 : decode cX4_weightOf 22 = .ok (.iadd, 1) := by decide +kernel
theorem dX4_weightOf_23 : decode cX4_weightOf 23 = .ok (.iaload, 1) := by decide +kernel
theorem dX4_weightOf_24 : decode cX4_weightOf 24 = .ok (.invokevirtual 72, 3) := by decide +kernel
theorem dX4_weightOf_27 : decode cX4_weightOf 27 = .ok (.istore 6, 2) := by decide +kernel
theorem dX4_weightOf_29 : decode cX4_weightOf 29 = .ok (.iload 6, 2) := by decide +kernel
theorem dX4_weightOf_31 : decode cX4_weightOf 31 = .ok (.ifCond .lt 23, 3) := by decide +kernel
theorem dX4_weightOf_34 : decode cX4_weightOf 34 = .ok (.aload_n 0, 1) := by decide +kernel
theorem dX4_weightOf_35 : decode cX4_weightOf 35 = .ok (.getfield 28, 3) := by decide +kernel
theorem dX4_weightOf_38 : decode cX4_weightOf 38 = .ok (.iload 6, 2) := by decide +kernel
theorem dX4_weightOf_40 : decode cX4_weightOf 40 = .ok (.baload, 1) := by decide +kernel
theorem dX4_weightOf_41 : decode cX4_weightOf 41 = .ok (.ifCond .eq 13, 3) := by decide +kernel
theorem dX4_weightOf_44 : decode cX4_weightOf 44 = .ok (.lload_n 3, 1) := by decide +kernel
theorem dX4_weightOf_45 : decode cX4_weightOf 45 = .ok (.aload_n 0, 1) := by decide +kernel
theorem dX4_weightOf_46 : decode cX4_weightOf 46 = .ok (.getfield 24, 3) := by decide +kernel
theorem dX4_weightOf_49 : decode cX4_weightOf 49 = .ok (.iload 6, 2) := by decide +kernel
theorem dX4_weightOf_51 : decode cX4_weightOf 51 = .ok (.laload, 1) := by decide +kernel
theorem dX4_weightOf_52 : decode cX4_weightOf 52 = .ok (.ladd, 1) := by decide +kernel
theorem dX4_weightOf_53 : decode cX4_weightOf 53 = .ok (.lstore_n 3, 1) := by decide +kernel
theorem dX4_weightOf_54 : decode cX4_weightOf 54 = .ok (.iinc 5 1, 3) := by decide +kernel
theorem dX4_weightOf_57 : decode cX4_weightOf 57 = .ok (.goto (-52), 3) := by decide +kernel
theorem dX4_weightOf_60 : decode cX4_weightOf 60 = .ok (.lload_n 3, 1) := by decide +kernel
theorem dX4_weightOf_61 : decode cX4_weightOf 61 = .ok (.lreturn, 1) := by decide +kernel
set_option maxRecDepth 20000 in
theorem ggX4_length_X4_know : GoodIn wsX4_length wsX4_know := goodIn_r _ [6, 7, 1, 8, 9, 10, 11, 12, 13, 14, 15, 16, 17, 18, 5, 19, 20, 21, 22, 23, 24, 25, 26, 27, 28, 29, 30, 31, 32, 33, 34, 35, 36, 37, 38, 39, 40, 41, 42, 43, 44, 45, 46, 47, 48, 49, 50, 51, 52, 53, 54, 55, 56, 57, 58, 59, 60, 61, 62, 63, 64, 65] (by decide +kernel) (by decide +kernel)
set_option maxRecDepth 20000 in
theorem gX4_length_X4_know : GoodIn wsX4_length (wsV RX4 110 RX4 yX4_know wsX4_know) := goodIn_app (goodIn_of _ (by decide +kernel)) ggX4_length_X4_know
theorem dX4_length_0 : decode cX4_length 0 = .ok (.aload_n 0, 1) := by decide +kernel
theorem dX4_length_1 : decode cX4_length 1 = .ok (.invokevirtual 110, 3) := by decide +kernel
theorem dX4_length_4 : decode cX4_length 4 = .ok (.aload_n 0, 1) := by decide +kernel
theorem dX4_length_5 : decode cX4_length 5 = .ok (.getfield 86, 3) := by decide +kernel
theorem dX4_length_8 : decode cX4_length 8 = .ok (.ireturn, 1) := by decide +kernel
set_option maxRecDepth 20000 in
theorem ggX4_row_X4_know : GoodIn wsX4_row wsX4_know := goodIn_r _ [9, 10, 1, 11, 12, 13, 14, 15, 4, 3, 2, 16, 17, 18, 8, 19, 20, 21, 22, 23, 24, 25, 26, 27, 28, 29, 30, 31, 32, 33, 34, 35, 36, 37, 38, 39, 40, 41, 42, 43, 44, 45, 46, 47, 48, 49, 50, 51, 52, 53, 54, 55, 56, 57, 58, 59, 60, 61, 62, 63, 64, 65] (by decide +kernel) (by decide +kernel)
set_option maxRecDepth 20000 in
theorem gX4_row_X4_know : GoodIn wsX4_row (wsV RX4 110 RX4 yX4_know wsX4_know) := goodIn_app (goodIn_of _ (by decide +kernel)) ggX4_row_X4_know
theorem dX4_row_0 : decode cX4_row 0 = .ok (.aload_n 0, 1) := by decide +kernel
theorem dX4_row_1 : decode cX4_row 1 = .ok (.invokevirtual 110, 3) := by decide +kernel
theorem dX4_row_4 : decode cX4_row 4 = .ok (.iload_n 1, 1) := by decide +kernel
theorem dX4_row_5 : decode cX4_row 5 = .ok (.ifCond .lt 11, 3) := by decide +kernel
theorem dX4_row_8 : decode cX4_row 8 = .ok (.iload_n 1, 1) := by decide +kernel
theorem dX4_row_9 : decode cX4_row 9 = .ok (.aload_n 0, 1) := by decide +kernel
theorem dX4_row_10 : decode cX4_row 10 = .ok (.getfield 86, 3) := by decide +kernel
theorem dX4_row_13 : decode cX4_row 13 = .ok (.if_icmp .lt 7, 3) := by decide +kernel
theorem dX4_row_16 : decode cX4_row 16 = .ok (.iconst (-1), 1) := by decide +kernel
theorem dX4_row_17 : decode cX4_row 17 = .ok (.goto 25, 3) := by decide +kernel
theorem dX4_row_20 : decode cX4_row 20 = .ok (.aload_n 0, 1) := by decide +kernel
theorem dX4_row_21 : decode cX4_row 21 = .ok (.getfield 99, 3) := by decide +kernel
theorem dX4_row_24 : decode cX4_row 24 = .ok (.ifCond .eq 12, 3) := by decide +kernel
theorem dX4_row_27 : decode cX4_row 27 = .ok (.aload_n 0, 1) := by decide +kernel
theorem dX4_row_28 : decode cX4_row 28 = .ok (.getfield 41, 3) := by decide +kernel
theorem dX4_row_31 : decode cX4_row 31 = .ok (.iload_n 1, 1) := by decide +kernel
theorem dX4_row_32 : decode cX4_row 32 = .ok (.iaload, 1) := by decide +kernel
theorem dX4_row_33 : decode cX4_row 33 = .ok (.goto 9, 3) := by decide +kernel
theorem dX4_row_36 : decode cX4_row 36 = .ok (.aload_n 0, 1) := by decide +kernel
theorem dX4_row_37 : decode cX4_row 37 = .ok (.getfield 44, 3) := by decide +kernel
theorem dX4_row_40 : decode cX4_row 40 = .ok (.iload_n 1, 1) := by decide +kernel
theorem dX4_row_41 : decode cX4_row 41 = .ok (.iaload, 1) := by decide +kernel
theorem dX4_row_42 : decode cX4_row 42 = .ok (.ireturn, 1) := by decide +kernel
set_option maxRecDepth 20000 in
theorem ggX4_weight_X4_know : GoodIn wsX4_weight wsX4_know := goodIn_r _ [12, 13, 7, 2, 14, 15, 16, 17, 6, 5, 4, 18, 19, 20, 11, 21, 22, 23, 24, 25, 26, 27, 28, 29, 30, 31, 32, 33, 34, 35, 36, 1, 37, 38, 39, 40, 41, 42, 43, 44, 45, 46, 47, 48, 49, 50, 51, 52, 53, 54, 55, 56, 57, 58, 59, 60, 61, 62, 63, 64, 65, 66] (by decide +kernel) (by decide +kernel)
set_option maxRecDepth 20000 in
theorem gX4_weight_X4_know : GoodIn wsX4_weight (wsV RX4 110 RX4 yX4_know wsX4_know) := goodIn_app (goodIn_of _ (by decide +kernel)) ggX4_weight_X4_know
set_option maxRecDepth 20000 in
theorem ggX4_weight_X4_weightOf : GoodIn wsX4_weight wsX4_weightOf := goodIn_r _ [44, 24, 25, 45, 46, 47, 11, 48, 22, 26, 27, 49, 50, 51, 52, 53, 54, 55, 56, 57, 58, 59, 60, 61, 62, 63, 64, 65, 66] (by decide +kernel) (by decide +kernel)
set_option maxRecDepth 20000 in
theorem gX4_weight_X4_weightOf : GoodIn wsX4_weight (wsV RX4 95 RX4 yX4_weightOf wsX4_weightOf) := goodIn_app (goodIn_of _ (by decide +kernel)) ggX4_weight_X4_weightOf

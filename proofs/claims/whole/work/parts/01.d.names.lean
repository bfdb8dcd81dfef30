theorem dX2_add_35 : decode cX2_add 35 = .ok (.iload_n 3, 1) := by decide +kernel
theorem dX2_add_36 : decode cX2_add 36 = .ok (.lconst 0, 1) := by decide +kernel
theorem dX2_add_37 : decode cX2_add 37 = .ok (.lastore, 1) := by decide +kernel
theorem dX2_add_38 : decode cX2_add 38 = .ok (.aload_n 0, 1) := by decide +kernel
theorem dX2_add_39 : decode cX2_add 39 = .ok (.dup, 1) := by decide +kernel
theorem dX2_add_40 : decode cX2_add 40 = .ok (.getfield 26, 3) := by decide +kernel
theorem dX2_add_43 : decode cX2_add 43 = .ok (.iconst 1, 1) := by decide +kernel
theorem dX2_add_44 : decode cX2_add 44 = .ok (.iadd, 1) := by decide +kernel
theorem dX2_add_45 : decode cX2_add 45 = .ok (.putfield 26, 3) := by decide +kernel
theorem dX2_add_48 : decode cX2_add 48 = .ok (.iload_n 3, 1) := by decide +kernel
theorem dX2_add_49 : decode cX2_add 49 = .ok (.ireturn, 1) := by decide +kernel
set_option maxRecDepth 20000 in
theorem ggX2_moveForward_X2_isBefore : GoodIn wsX2_moveForward wsX2_isBefore := goodIn_r _ [5, 6, 7, 8, 14, 15, 16, 17, 18] (by decide +kernel) (by decide +kernel)
set_option maxRecDepth 20000 in
theorem gX2_moveForward_X2_isBefore : GoodIn wsX2_moveForward (wsV RX2 57 RX2 yX2_isBefore wsX2_isBefore) := goodIn_app (goodIn_of _ (by decide +kernel)) ggX2_moveForward_X2_isBefore
set_option maxRecDepth 20000 in
theorem ggX2_moveForward_X2_swap : GoodIn wsX2_moveForward wsX2_swap := goodIn_r _ [12, 7, 8, 6, 13, 14, 15, 16, 17, 18] (by decide +kernel) (by decide +kernel)
set_option maxRecDepth 20000 in
theorem gX2_moveForward_X2_swap : GoodIn wsX2_moveForward (wsV RX2 60 RX2 yX2_swap wsX2_swap) := goodIn_app (goodIn_of _ (by decide +kernel)) ggX2_moveForward_X2_swap
theorem dX2_moveForward_0 : decode cX2_moveForward 0 = .ok (.iload_n 1, 1) := by decide +kernel
theorem dX2_moveForward_1 : decode cX2_moveForward 1 = .ok (.istore_n 2, 1) := by decide +kernel
theorem dX2_moveForward_2 : decode cX2_moveForward 2 = .ok (.iload_n 2, 1) := by decide +kernel
theorem dX2_moveForward_3 : decode cX2_moveForward 3 = .ok (.ifCond .le 28, 3) := by decide +kernel
theorem dX2_moveForward_6 : decode cX2_moveForward 6 = .ok (.aload_n 0, 1) := by decide +kernel
theorem dX2_moveForward_7 : decode cX2_moveForward 7 = .ok (.iload_n 2, 1) := by decide +kernel
theorem dX2_moveForward_8 : decode cX2_moveForward 8 = .ok (.iload_n 2, 1) := by decide +kernel
theorem dX2_moveForward_9 : decode cX2_moveForward 9 = .ok (.iconst 1, 1) := by decide +kernel
theorem dX2_moveForward_10 : decode cX2_moveForward 10 = .ok (.isub, 1) := by decide +kernel
theorem dX2_moveForward_11 : decode cX2_moveForward 11 = .ok (.invokevirtual 57, 3) := by decide +kernel
theorem dX2_moveForward_14 : decode cX2_moveForward 14 = .ok (.ifCond .eq 17, 3) := by decide +kernel
theorem dX2_moveForward_17 : decode cX2_moveForward 17 = .ok (.aload_n 0, 1) := by decide +kernel
theorem dX2_moveForward_18 : decode cX2_moveForward 18 = .ok (.iload_n 2, 1) := by decide +kernel
theorem dX2_moveForward_19 : decode cX2_moveForward 19 = .ok (.iload_n 2, 1) := by decide +kernel
theorem dX2_moveForward_20 : decode cX2_moveForward 20 = .ok (.iconst 1, 1) := by decide +kernel
theorem dX2_moveForward_21 : decode cX2_moveForward 21 = .ok (.isub, 1) := by decide +kernel
theorem dX2_moveForward_22 : decode cX2_moveForward 22 = .ok (.invokevirtual 60, 3) := by decide +kernel
theorem dX2_moveForward_25 : decode cX2_moveForward 25 = .ok (.iinc 2 (-1), 3) := by decide +kernel
theorem dX2_moveForward_28 : decode cX2_moveForward 28 = .ok (.goto (-26), 3) := by decide +kernel
theorem dX2_moveForward_31 : decode cX2_moveForward 31 = .ok (.return_, 1) := by decide +kernel
theorem dX2_isBefore_0 : decode cX2_isBefore 0 = .ok (.aload_n 0, 1) := by decide +kernel
theorem dX2_isBefore_1 : decode cX2_isBefore 1 = .ok (.getfield 18, 3) := by decide +kernel
theorem dX2_isBefore_4 : decode cX2_isBefore 4 = .ok (.iload_n 1, 1) := by decide +kernel
theorem dX2_isBefore_5 : decode cX2_isBefore 5 = .ok (.laload, 1) := by decide +kernel
theorem dX2_isBefore_6 : decode cX2_isBefore 6 = .ok (.aload_n 0, 1) := by decide +kernel
theorem dX2_isBefore_7 : decode cX2_isBefore 7 = .ok (.getfield 18, 3) := by decide +kernel
theorem dX2_isBefore_10 : decode cX2_isBefore 10 = .ok (.iload_n 2, 1) := by decide +kernel
theorem dX2_isBefore_11 : decode cX2_isBefore 11 = .ok (.laload, 1) := by decide +kernel
theorem dX2_isBefore_12 : decode cX2_isBefore 12 = .ok (.lcmp, 1) := by decide +kernel
theorem dX2_isBefore_13 : decode cX2_isBefore 13 = .ok (.ifCond .eq 25, 3) := by decide +kernel
theorem dX2_isBefore_16 : decode cX2_isBefore 16 = .ok (.aload_n 0, 1) := by decide +kernel
theorem dX2_isBefore_17 : decode cX2_isBefore 17 = .ok (.getfield 18, 3) := by decide +kernel
theorem dX2_isBefore_20 : decode cX2_isBefore 20 = .ok (.iload_n 1, 1) := by decide +kernel
theorem dX2_isBefore_21 : decode cX2_isBefore 21 = .ok (.laload, 1) := by decide +kernel
theorem dX2_isBefore_22 : decode cX2_isBefore 22 = .ok (.aload_n 0, 1) := by decide +kernel
theorem dX2_isBefore_23 : decode cX2_isBefore 23 = .ok (.getfield 18, 3) := by decide +kernel
theorem dX2_isBefore_26 : decode cX2_isBefore 26 = .ok (.iload_n 2, 1) := by decide +kernel
theorem dX2_isBefore_27 : decode cX2_isBefore 27 = .ok (.laload, 1) := by decide +kernel
theorem dX2_isBefore_28 : decode cX2_isBefore 28 = .ok (.lcmp, 1) := by decide +kernel
theorem dX2_isBefore_29 : decode cX2_isBefore 29 = .ok (.ifCond .le 7, 3) := by decide +kernel
theorem dX2_isBefore_32 : decode cX2_isBefore 32 = .ok (.iconst 1, 1) := by decide +kernel
theorem dX2_isBefore_33 : decode cX2_isBefore 33 = .ok (.goto 4, 3) := by decide +kernel
theorem dX2_isBefore_36 : decode cX2_isBefore 36 = .ok (.iconst 0, 1) := by decide +kernel
theorem dX2_isBefore_37 : decode cX2_isBefore 37 = .ok (.ireturn, 1) := by decide +kernel
theorem dX2_isBefore_38 : decode cX2_isBefore 38 = .ok (.aload_n 0, 1) := by decide +kernel
theorem dX2_isBefore_39 : decode cX2_isBefore 39 = .ok (.getfield 9, 3) := by decide +kernel
theorem dX2_isBefore_42 : decode cX2_isBefore 42 = .ok (.iload_n 1, 1) := by decide +kernel
theorem dX2_isBefore_43 : decode cX2_isBefore 43 = .ok (.iaload, 1) := by decide +kernel
theorem dX2_isBefore_44 : decode cX2_isBefore 44 = .ok (.aload_n 0, 1) := by decide +kernel
theorem dX2_isBefore_45 : decode cX2_isBefore 45 = .ok (.getfield 9, 3) := by decide +kernel
theorem dX2_isBefore_48 : decode cX2_isBefore 48 = .ok (.iload_n 2, 1) := by decide +kernel
theorem dX2_isBefore_49 : decode cX2_isBefore 49 = .ok (.iaload, 1) := by decide +kernel
theorem dX2_isBefore_50 : decode cX2_isBefore 50 = .ok (.if_icmp .eq 24, 3) := by decide +kernel
theorem dX2_isBefore_53 : decode cX2_isBefore 53 = .ok (.aload_n 0, 1) := by decide +kernel
theorem dX2_isBefore_54 : decode cX2_isBefore 54 = .ok (.getfield 9, 3) := by decide +kernel
theorem dX2_isBefore_57 : decode cX2_isBefore 57 = .ok (.iload_n 1, 1) := by decide +kernel
theorem dX2_isBefore_58 : decode cX2_isBefore 58 = .ok (.iaload, 1) := by decide +kernel
theorem dX2_isBefore_59 : decode cX2_isBefore 59 = .ok (.aload_n 0, 1) := by decide +kernel
theorem dX2_isBefore_60 : decode cX2_isBefore 60 = .ok (.getfield 9, 3) := by decide +kernel
theorem dX2_isBefore_63 : decode cX2_isBefore 63 = .ok (.iload_n 2, 1) := by decide +kernel
theorem dX2_isBefore_64 : decode cX2_isBefore 64 = .ok (.iaload, 1) := by decide +kernel
theorem dX2_isBefore_65 : decode cX2_isBefore 65 = .ok (.if_icmp .ge 7, 3) := by decide +kernel
theorem dX2_isBefore_68 : decode cX2_isBefore 68 = .ok (.iconst 1, 1) := by decide +kernel
theorem dX2_isBefore_69 : decode cX2_isBefore 69 = .ok (.goto 4, 3) := by decide +kernel
theorem dX2_isBefore_72 : decode cX2_isBefore 72 = .ok (.iconst 0, 1) := by decide +kernel
theorem dX2_isBefore_73 : decode cX2_isBefore 73 = .ok (.ireturn, 1) := by decide +kernel
theorem dX2_isBefore_74 : decode cX2_isBefore 74 = .ok (.aload_n 0, 1) := by decide +kernel
theorem dX2_isBefore_75 : decode cX2_isBefore 75 = .ok (.getfield 15, 3) := by decide +kernel
theorem dX2_isBefore_78 : decode cX2_isBefore 78 = .ok (.iload_n 1, 1) := by decide +kernel
theorem dX2_isBefore_79 : decode cX2_isBefore 79 = .ok (.iaload, 1) := by decide +kernel
theorem dX2_isBefore_80 : decode cX2_isBefore 80 = .ok (.aload_n 0, 1) := by decide +kernel
theorem dX2_isBefore_81 : decode cX2_isBefore 81 = .ok (.getfield 15, 3) := by decide +kernel
theorem dX2_isBefore_84 : decode cX2_isBefore 84 = .ok (.iload_n 2, 1) := by decide +kernel
theorem dX2_isBefore_85 : decode cX2_isBefore 85 = .ok (.iaload, 1) := by decide +kernel
theorem dX2_isBefore_86 : decode cX2_isBefore 86 = .ok (.if_icmp .ge 7, 3) := by decide +kernel
theorem dX2_isBefore_89 : decode cX2_isBefore 89 = .ok (.iconst 1, 1) := by decide +kernel
theorem dX2_isBefore_90 : decode cX2_isBefore 90 = .ok (.goto 4, 3) := by decide +kernel
theorem dX2_isBefore_93 : decode cX2_isBefore 93 = .ok (.iconst 0, 1) := by decide +kernel
theorem dX2_isBefore_94 : decode cX2_isBefore 94 = .ok (.ireturn, 1) := by decide +kernel
theorem dX2_swap_0 : decode cX2_swap 0 = .ok (.aload_n 0, 1) := by decide +kernel
theorem dX2_swap_1 : decode cX2_swap 1 = .ok (.getfield 9, 3) := by decide +kernel
theorem dX2_swap_4 : decode cX2_swap 4 = .ok (.iload_n 1, 1) := by decide +kernel
theorem dX2_swap_5 : decode cX2_swap 5 = .ok (.iaload, 1) := by decide +kernel
theorem dX2_swap_6 : decode cX2_swap 6 = .ok (.istore_n 3, 1) := by decide +kernel
theorem dX2_swap_7 : decode cX2_swap 7 = .ok (.aload_n 0, 1) := by decide +kernel
theorem dX2_swap_8 : decode cX2_swap 8 = .ok (.getfield 15, 3) := by decide +kernel
theorem dX2_swap_11 : decode cX2_swap 11 = .ok (.iload_n 1, 1) := by decide +kernel
theorem dX2_swap_12 : decode cX2_swap 12 = .ok (.iaload, 1) := by decide +kernel
theorem dX2_swap_13 : decode cX2_swap 13 = .ok (.istore 4, 2) := by decide +kernel
theorem dX2_swap_15 : decode cX2_swap 15 = .ok (.aload_n 0, 1) := by decide +kernel
theorem dX2_swap_16 : decode cX2_swap 16 = .ok (.getfield 18, 3) := by decide +kernel
theorem dX2_swap_19 : decode cX2_swap 19 = .ok (.iload_n 1, 1) := by decide +kernel
theorem dX2_swap_20 : decode cX2_swap 20 = .ok (.laload, 1) := by decide +kernel
theorem dX2_swap_21 : decode cX2_swap 21 = .ok (.lstore 5, 2) := by decide +kernel
theorem dX2_swap_23 : decode cX2_swap 23 = .ok (.aload_n 0, 1) := by decide +kernel
theorem dX2_swap_24 : decode cX2_swap 24 = .ok (.getfield 22, 3) := by decide +kernel
theorem dX2_swap_27 : decode cX2_swap 27 = .ok (.iload_n 1, 1) := by decide +kernel
theorem dX2_swap_28 : decode cX2_swap 28 = .ok (.baload, 1) := by decide +kernel
theorem dX2_swap_29 : decode cX2_swap 29 = .ok (.istore 7, 2) := by decide +kernel
theorem dX2_swap_31 : decode cX2_swap 31 = .ok (.aload_n 0, 1) := by decide +kernel
theorem dX2_swap_32 : decode cX2_swap 32 = .ok (.getfield 9, 3) := by decide +kernel
theorem dX2_swap_35 : decode cX2_swap 35 = .ok (.iload_n 1, 1) := by decide +kernel
theorem dX2_swap_36 : decode cX2_swap 36 = .ok (.aload_n 0, 1) := by decide +kernel
theorem dX2_swap_37 : decode cX2_swap 37 = .ok (.getfield 9, 3) := by decide +kernel
theorem dX2_swap_40 : decode cX2_swap 40 = .ok (.iload_n 2, 1) := by decide +kernel
theorem dX2_swap_41 : decode cX2_swap 41 = .ok (.iaload, 1) := by decide +kernel
theorem dX2_swap_42 : decode cX2_swap 42 = .ok (.iastore, 1) := by decide +kernel
theorem dX2_swap_43 : decode cX2_swap 43 = .ok (.aload_n 0, 1) := by decide +kernel
theorem dX2_swap_44 : decode cX2_swap 44 = .ok (.getfield 15, 3) := by decide +kernel
theorem dX2_swap_47 : decode cX2_swap 47 = .ok (.iload_n 1, 1) := by decide +kernel
theorem dX2_swap_48 : decode cX2_swap 48 = .ok (.aload_n 0, 1) := by decide +kernel
theorem dX2_swap_49 : decode cX2_swap 49 = .ok (.getfield 15, 3) := by decide +kernel
theorem dX2_swap_52 : decode cX2_swap 52 = .ok (.iload_n 2, 1) := by decide +kernel
theorem dX2_swap_53 : decode cX2_swap 53 = .ok (.iaload, 1) := by decide +kernel
theorem dX2_swap_54 : decode cX2_swap 54 = .ok (.iastore, 1) := by decide +kernel
theorem dX2_swap_55 : decode cX2_swap 55 = .ok (.aload_n 0, 1) := by decide +kernel
theorem dX2_swap_56 : decode cX2_swap 56 = .ok (.getfield 18, 3) := by decide +kernel
theorem dX2_swap_59 : decode cX2_swap 59 = .ok (.iload_n 1, 1) := by decide +kernel
theorem dX2_swap_60 : decode cX2_swap 60 = .ok (.aload_n 0, 1) := by decide +kernel
theorem dX2_swap_61 : decode cX2_swap 61 = .ok (.getfield 18, 3) := by decide +kernel
theorem dX2_swap_64 : decode cX2_swap 64 = .ok (.iload_n 2, 1) := by decide +kernel
theorem dX2_swap_65 : decode cX2_swap 65 = .ok (.laload, 1) := by decide +kernel
theorem dX2_swap_66 : decode cX2_swap 66 = .ok (.lastore, 1) := by decide +kernel
theorem dX2_swap_67 : decode cX2_swap 67 = .ok (.aload_n 0, 1) := by decide +kernel
theorem dX2_swap_68 : decode cX2_swap 68 = .ok (.getfield 22, 3) := by decide +kernel
theorem dX2_swap_71 : decode cX2_swap 71 = .ok (.iload_n 1, 1) := by decide +kernel
theorem dX2_swap_72 : decode cX2_swap 72 = .ok (.aload_n 0, 1) := by decide +kernel
theorem dX2_swap_73 : decode cX2_swap 73 = .ok (.getfield 22, 3) := by decide +kernel
theorem dX2_swap_76 : decode cX2_swap 76 = .ok (.iload_n 2, 1) := by decide +kernel
theorem dX2_swap_77 : decode cX2_swap 77 = .ok (.baload, 1) := by decide +kernel
theorem dX2_swap_78 : decode cX2_swap 78 = .ok (.bastore, 1) := by decide +kernel
theorem dX2_swap_79 : decode cX2_swap 79 = .ok (.aload_n 0, 1) := by decide +kernel
theorem dX2_swap_80 : decode cX2_swap 80 = .ok (.getfield 9, 3) := by decide +kernel
theorem dX2_swap_83 : decode cX2_swap 83 = .ok (.iload_n 2, 1) := by decide +kernel
theorem dX2_swap_84 : decode cX2_swap 84 = .ok (.iload_n 3, 1) := by decide +kernel
theorem dX2_swap_85 : decode cX2_swap 85 = .ok (.iastore, 1) := by decide +kernel
theorem dX2_swap_86 : decode cX2_swap 86 = .ok (.aload_n 0, 1) := by decide +kernel
theorem dX2_swap_87 : decode cX2_swap 87 = .ok (.getfield 15, 3) := by decide +kernel
theorem dX2_swap_90 : decode cX2_swap 90 = .ok (.iload_n 2, 1) := by decide +kernel
theorem dX2_swap_91 : decode cX2_swap 91 = .ok (.iload 4, 2) := by decide +kernel
theorem dX2_swap_93 : decode cX2_swap 93 = .ok (.iastore, 1) := by decide +kernel
theorem dX2_swap_94 : decode cX2_swap 94 = .ok (.aload_n 0, 1) := by decide +kernel
theorem dX2_swap_95 : decode cX2_swap 95 = .ok (.getfield 18, 3) := by decide +kernel
theorem dX2_swap_98 : decode cX2_swap 98 = .ok (.iload_n 2, 1) := by decide +kernel
theorem dX2_swap_99 : decode cX2_swap 99 = .ok (.lload 5, 2) := by decide +kernel
theorem dX2_swap_101 : decode cX2_swap 101 = .ok (.lastore, 1) := by decide +kernel
theorem dX2_swap_102 : decode cX2_swap 102 = .ok (.aload_n 0, 1) := by decide +kernel
theorem dX2_swap_103 : decode cX2_swap 103 = .ok (.getfield 22, 3) := by decide +kernel
theorem dX2_swap_106 : decode cX2_swap 106 = .ok (.iload_n 2, 1) := by decide +kernel
theorem dX2_swap_107 : decode cX2_swap 107 = .ok (.iload 7, 2) := by decide +kernel
theorem dX2_swap_109 : decode cX2_swap 109 = .ok (.bastore, 1) := by decide +kernel
theorem dX2_swap_110 : decode cX2_swap 110 = .ok (.return_, 1) := by decide +kernel
set_option maxRecDepth 20000 in
theorem ggX3_init_X2_init : GoodIn wsX3_init wsX2_init := goodIn_r _ [23, 24, 2, 3, 25, 26, 27, 28, 29, 4, 30, 53, 54, 55, 56, 57] (by decide +kernel) (by decide +kernel)
set_option maxRecDepth 20000 in
theorem gX3_init_X2_init_n15 : GoodIn wsX3_init (wsX2_init) := ggX3_init_X2_init
set_option maxRecDepth 20000 in
theorem ggX3_init_X0_init : GoodIn wsX3_init wsX0_init := goodIn_r _ [32, 33, 2, 3, 25, 34, 35, 28, 36, 58, 59, 60] (by decide +kernel) (by decide +kernel)
set_option maxRecDepth 20000 in
theorem gX3_init_X0_init_n22 : GoodIn wsX3_init (wsX0_init) := ggX3_init_X0_init
set_option maxRecDepth 20000 in
theorem ggX3_init_X1_init : GoodIn wsX3_init wsX1_init := goodIn_r _ [38, 39, 2, 3, 25, 40, 41, 61, 62, 63] (by decide +kernel) (by decide +kernel)
set_option maxRecDepth 20000 in
theorem gX3_init_X1_init_n29 : GoodIn wsX3_init (wsX1_init) := ggX3_init_X1_init
theorem dX3_init_0 : decode cX3_init 0 = .ok (.aload_n 0, 1) := by decide +kernel
theorem dX3_init_1 : decode cX3_init 1 = .ok (.invokespecial 1, 3) := by decide +kernel
theorem dX3_init_4 : decode cX3_init 4 = .ok (.aload_n 0, 1) := by decide +kernel
theorem dX3_init_5 : decode cX3_init 5 = .ok (.sipush 200, 3) := by decide +kernel
theorem dX3_init_8 : decode cX3_init 8 = .ok (.newarray .boolean, 2) := by decide +kernel
theorem dX3_init_10 : decode cX3_init 10 = .ok (.putfield 9, 3) := by decide +kernel
theorem dX3_init_13 : decode cX3_init 13 = .ok (.aload_n 0, 1) := by decide +kernel
theorem dX3_init_14 : decode cX3_init 14 = .ok (.new 13, 3) := by decide +kernel
theorem dX3_init_17 : decode cX3_init 17 = .ok (.dup, 1) := by decide +kernel
theorem dX3_init_18 : decode cX3_init 18 = .ok (.invokespecial 15, 3) := by decide +kernel
theorem dX3_init_21 : decode cX3_init 21 = .ok (.putfield 16, 3) := by decide +kernel
theorem dX3_init_24 : decode cX3_init 24 = .ok (.aload_n 0, 1) := by decide +kernel
theorem dX3_init_25 : decode cX3_init 25 = .ok (.new 20, 3) := by decide +kernel
theorem dX3_init_28 : decode cX3_init 28 = .ok (.dup, 1) := by decide +kernel
theorem dX3_init_29 : decode cX3_init 29 = .ok (.invokespecial 22, 3) := by decide +kernel
theorem dX3_init_32 : decode cX3_init 32 = .ok (.putfield 23, 3) := by decide +kernel
theorem dX3_init_35 : decode cX3_init 35 = .ok (.aload_n 0, 1) := by decide +kernel
theorem dX3_init_36 : decode cX3_init 36 = .ok (.new 27, 3) := by decide +kernel
theorem dX3_init_39 : decode cX3_init 39 = .ok (.dup, 1) := by decide +kernel
theorem dX3_init_40 : decode cX3_init 40 = .ok (.invokespecial 29, 3) := by decide +kernel
theorem dX3_init_43 : decode cX3_init 43 = .ok (.putfield 30, 3) := by decide +kernel
theorem dX3_init_46 : decode cX3_init 46 = .ok (.aload_n 0, 1) := by decide +kernel
theorem dX3_init_47 : decode cX3_init 47 = .ok (.new 27, 3) := by decide +kernel
theorem dX3_init_50 : decode cX3_init 50 = .ok (.dup, 1) := by decide +kernel
theorem dX3_init_51 : decode cX3_init 51 = .ok (.invokespecial 29, 3) := by decide +kernel
theorem dX3_init_54 : decode cX3_init 54 = .ok (.putfield 34, 3) := by decide +kernel
theorem dX3_init_57 : decode cX3_init 57 = .ok (.aload_n 0, 1) := by decide +kernel
theorem dX3_init_58 : decode cX3_init 58 = .ok (.new 27, 3) := by decide +kernel
theorem dX3_init_61 : decode cX3_init 61 = .ok (.dup, 1) := by decide +kernel
theorem dX3_init_62 : decode cX3_init 62 = .ok (.invokespecial 29, 3) := by decide +kernel
theorem dX3_init_65 : decode cX3_init 65 = .ok (.putfield 37, 3) := by decide +kernel
theorem dX3_init_68 : decode cX3_init 68 = .ok (.aload_n 0, 1) := by decide +kernel
theorem dX3_init_69 : decode cX3_init 69 = .ok (.iconst 1, 1) := by decide +kernel
theorem dX3_init_70 : decode cX3_init 70 = .ok (.putfield 40, 3) := by decide +kernel
theorem dX3_init_73 : decode cX3_init 73 = .ok (.aload_n 0, 1) := by decide +kernel
theorem dX3_init_74 : decode cX3_init 74 = .ok (.iconst 1, 1) := by decide +kernel
theorem dX3_init_75 : decode cX3_init 75 = .ok (.putfield 44, 3) := by decide +kernel
theorem dX3_init_78 : decode cX3_init 78 = .ok (.return_, 1) := by decide +kernel
set_option maxRecDepth 20000 in
theorem ggX3_size_X2_forget : GoodIn wsX3_size wsX2_forget := goodIn_r _ [9, 10, 22, 23, 24, 25, 26] (by decide +kernel) (by decide +kernel)
set_option maxRecDepth 20000 in
theorem gX3_size_X2_forget : GoodIn wsX3_size (wsV RX3 48 RX2 yX2_forget wsX2_forget) := goodIn_app (goodIn_of _ (by decide +kernel)) ggX3_size_X2_forget
theorem dX3_size_0 : decode cX3_size 0 = .ok (.iload_n 1, 1) := by decide +kernel
theorem dX3_size_1 : decode cX3_size 1 = .ok (.iconst 1, 1) := by decide +kernel
theorem dX3_size_2 : decode cX3_size 2 = .ok (.if_icmp .lt 10, 3) := by decide +kernel
theorem dX3_size_5 : decode cX3_size 5 = .ok (.iload_n 1, 1) := by decide +kernel
theorem dX3_size_6 : decode cX3_size 6 = .ok (.sipush 200, 3) := by decide +kernel
theorem dX3_size_9 : decode cX3_size 9 = .ok (.if_icmp .le 5, 3) := by decide +kernel
theorem dX3_size_12 : decode cX3_size 12 = .ok (.iconst 0, 1) := by decide +kernel
theorem dX3_size_13 : decode cX3_size 13 = .ok (.ireturn, 1) := by decide +kernel
theorem dX3_size_14 : decode cX3_size 14 = .ok (.aload_n 0, 1) := by decide +kernel
theorem dX3_size_15 : decode cX3_size 15 = .ok (.iload_n 1, 1) := by decide +kernel
theorem dX3_size_16 : decode cX3_size 16 = .ok (.putfield 40, 3) := by decide +kernel
theorem dX3_size_19 : decode cX3_size 19 = .ok (.iconst 0, 1) := by decide +kernel
theorem dX3_size_20 : decode cX3_size 20 = .ok (.istore_n 2, 1) := by decide +kernel
theorem dX3_size_21 : decode cX3_size 21 = .ok (.iload_n 2, 1) := by decide +kernel
theorem dX3_size_22 : decode cX3_size 22 = .ok (.sipush 200, 3) := by decide +kernel
theorem dX3_size_25 : decode cX3_size 25 = .ok (.if_icmp .ge 16, 3) := by decide +kernel
theorem dX3_size_28 : decode cX3_size 28 = .ok (.aload_n 0, 1) := by decide +kernel
theorem dX3_size_29 : decode cX3_size 29 = .ok (.getfield 9, 3) := by decide +kernel
theorem dX3_size_32 : decode cX3_size 32 = .ok (.iload_n 2, 1) := by decide +kernel
theorem dX3_size_33 : decode cX3_size 33 = .ok (.iconst 0, 1) := by decide +kernel
theorem dX3_size_34 : decode cX3_size 34 = .ok (.bastore, 1) := by decide +kernel
theorem dX3_size_35 : decode cX3_size 35 = .ok (.iinc 2 1, 3) := by decide +kernel
theorem dX3_size_38 : decode cX3_size 38 = .ok (.goto (-17), 3) := by decide +kernel
theorem dX3_size_41 : decode cX3_size 41 = .ok (.aload_n 0, 1) := by decide +kernel
theorem dX3_size_42 : decode cX3_size 42 = .ok (.getfield 16, 3) := by decide +kernel
theorem dX3_size_45 : decode cX3_size 45 = .ok (.invokevirtual 48, 3) := by decide +kernel
theorem dX3_size_48 : decode cX3_size 48 = .ok (.aload_n 0, 1) := by decide +kernel
theorem dX3_size_49 : decode cX3_size 49 = .ok (.iconst 1, 1) := by decide +kernel
theorem dX3_size_50 : decode cX3_size 50 = .ok (.putfield 44, 3) := by decide +kernel
theorem dX3_size_53 : decode cX3_size 53 = .ok (.iconst 1, 1) := by decide +kernel
theorem dX3_size_54 : decode cX3_size 54 = .ok (.ireturn, 1) := by decide +kernel
set_option maxRecDepth 20000 in
theorem ggX3_heat_X3_isBlock : GoodIn wsX3_heat wsX3_isBlock := goodIn_r _ [7, 8, 9, 10, 11, 12, 13, 14, 15, 16, 17, 18, 19] (by decide +kernel) (by decide +kernel)
set_option maxRecDepth 20000 in
theorem gX3_heat_X3_isBlock : GoodIn wsX3_heat (wsV RX3 51 RX3 yX3_isBlock wsX3_isBlock) := goodIn_app (goodIn_of _ (by decide +kernel)) ggX3_heat_X3_isBlock
theorem dX3_heat_0 : decode cX3_heat 0 = .ok (.aload_n 0, 1) := by decide +kernel
theorem dX3_heat_1 : decode cX3_heat 1 = .ok (.iload_n 1, 1) := by decide +kernel
theorem dX3_heat_2 : decode cX3_heat 2 = .ok (.invokevirtual 51, 3) := by decide +kernel
theorem dX3_heat_5 : decode cX3_heat 5 = .ok (.ifCond .ne 5, 3) := by decide +kernel
theorem dX3_heat_8 : decode cX3_heat 8 = .ok (.iconst 0, 1) := by decide +kernel
theorem dX3_heat_9 : decode cX3_heat 9 = .ok (.ireturn, 1) := by decide +kernel
theorem dX3_heat_10 : decode cX3_heat 10 = .ok (.aload_n 0, 1) := by decide +kernel
theorem dX3_heat_11 : decode cX3_heat 11 = .ok (.getfield 9, 3) := by decide +kernel
theorem dX3_heat_14 : decode cX3_heat 14 = .ok (.iload_n 1, 1) := by decide +kernel
theorem dX3_heat_15 : decode cX3_heat 15 = .ok (.iload_n 2, 1) := by decide +kernel
theorem dX3_heat_16 : decode cX3_heat 16 = .ok (.bastore, 1) := by decide +kernel
theorem dX3_heat_17 : decode cX3_heat 17 = .ok (.aload_n 0, 1) := by decide +kernel
theorem dX3_heat_18 : decode cX3_heat 18 = .ok (.iconst 1, 1) := by decide +kernel
theorem dX3_heat_19 : decode cX3_heat 19 = .ok (.putfield 44, 3) := by decide +kernel
theorem dX3_heat_22 : decode cX3_heat 22 = .ok (.iconst 1, 1) := by decide +kernel
theorem dX3_heat_23 : decode cX3_heat 23 = .ok (.ireturn, 1) := by decide +kernel
set_option maxRecDepth 20000 in
theorem ggX3_way_X3_isBlock : GoodIn wsX3_way wsX3_isBlock := goodIn_r _ [10, 11, 48, 49, 50, 51, 52, 53, 54, 55, 56, 57, 58] (by decide +kernel) (by decide +kernel)
set_option maxRecDepth 20000 in
theorem gX3_way_X3_isBlock : GoodIn wsX3_way (wsV RX3 51 RX3 yX3_isBlock wsX3_isBlock) := goodIn_app (goodIn_of _ (by decide +kernel)) ggX3_way_X3_isBlock
set_option maxRecDepth 20000 in
theorem ggX3_way_X2_tell : GoodIn wsX3_way wsX2_tell := goodIn_r _ [16, 17, 18, 19, 20, 21, 22, 23, 24, 25, 26, 27, 15, 28, 29, 30, 31, 32, 33, 34, 35, 36, 37, 38, 39, 40, 41, 42, 43, 44, 45, 46, 47, 59, 60, 61, 62, 63] (by decide +kernel) (by decide +kernel)
set_option maxRecDepth 20000 in
theorem gX3_way_X2_tell : GoodIn wsX3_way (wsV RX3 60 RX2 yX2_tell wsX2_tell) := goodIn_app (goodIn_of _ (by decide +kernel)) ggX3_way_X2_tell
theorem dX3_way_0 : decode cX3_way 0 = .ok (.aload_n 0, 1) := by decide +kernel
theorem dX3_way_1 : decode cX3_way 1 = .ok (.iload_n 1, 1) := by decide +kernel
theorem dX3_way_2 : decode cX3_way 2 = .ok (.invokevirtual 51, 3) := by decide +kernel
theorem dX3_way_5 : decode cX3_way 5 = .ok (.ifCond .eq 11, 3) := by decide +kernel
theorem dX3_way_8 : decode cX3_way 8 = .ok (.aload_n 0, 1) := by decide +kernel
theorem dX3_way_9 : decode cX3_way 9 = .ok (.iload_n 2, 1) := by decide +kernel
theorem dX3_way_10 : decode cX3_way 10 = .ok (.invokevirtual 51, 3) := by decide +kernel
theorem dX3_way_13 : decode cX3_way 13 = .ok (.ifCond .ne 7, 3) := by decide +kernel
theorem dX3_way_16 : decode cX3_way 16 = .ok (.ldc2_w 55, 3) := by decide +kernel
theorem dX3_way_19 : decode cX3_way 19 = .ok (.lreturn, 1) := by decide +kernel
theorem dX3_way_20 : decode cX3_way 20 = .ok (.iload_n 3, 1) := by decide +kernel
theorem dX3_way_21 : decode cX3_way 21 = .ok (.ifCond .lt 9, 3) := by decide +kernel
theorem dX3_way_24 : decode cX3_way 24 = .ok (.iload_n 3, 1) := by decide +kernel
theorem dX3_way_25 : decode cX3_way 25 = .ok (.ldc 57, 2) := by decide +kernel
theorem dX3_way_27 : decode cX3_way 27 = .ok (.if_icmp .le 7, 3) := by decide +kernel
theorem dX3_way_30 : decode cX3_way 30 = .ok (.ldc2_w 58, 3) := by decide +kernel
theorem dX3_way_33 : decode cX3_way 33 = .ok (.lreturn, 1) := by decide +kernel
theorem dX3_way_34 : decode cX3_way 34 = .ok (.aload_n 0, 1) := by decide +kernel
theorem dX3_way_35 : decode cX3_way 35 = .ok (.iconst 1, 1) := by decide +kernel
theorem dX3_way_36 : decode cX3_way 36 = .ok (.putfield 44, 3) := by decide +kernel
theorem dX3_way_39 : decode cX3_way 39 = .ok (.aload_n 0, 1) := by decide +kernel
theorem dX3_way_40 : decode cX3_way 40 = .ok (.getfield 16, 3) := by decide +kernel
theorem dX3_way_43 : decode cX3_way 43 = .ok (.iload_n 1, 1) := by decide +kernel
theorem dX3_way_44 : decode cX3_way 44 = .ok (.iload_n 2, 1) := by decide +kernel
theorem dX3_way_45 : decode cX3_way 45 = .ok (.iload_n 3, 1) := by decide +kernel
theorem dX3_way_46 : decode cX3_way 46 = .ok (.iload 4, 2) := by decide +kernel
theorem dX3_way_48 : decode cX3_way 48 = .ok (.invokevirtual 60, 3) := by decide +kernel
theorem dX3_way_51 : decode cX3_way 51 = .ok (.lreturn, 1) := by decide +kernel
set_option maxRecDepth 20000 in
theorem ggX3_count_X2_told : GoodIn wsX3_count wsX2_told := goodIn_r _ [6, 7, 8, 9, 10, 5, 11, 12, 13, 14, 26, 27, 28, 29, 30] (by decide +kernel) (by decide +kernel)
set_option maxRecDepth 20000 in
theorem gX3_count_X2_told : GoodIn wsX3_count (wsV RX3 64 RX2 yX2_told wsX2_told) := goodIn_app (goodIn_of _ (by decide +kernel)) ggX3_count_X2_told
theorem dX3_count_0 : decode cX3_count 0 = .ok (.aload_n 0, 1) := by decide +kernel
theorem dX3_count_1 : decode cX3_count 1 = .ok (.getfield 16, 3) := by decide +kernel
theorem dX3_count_4 : decode cX3_count 4 = .ok (.iload_n 1, 1) := by decide +kernel
theorem dX3_count_5 : decode cX3_count 5 = .ok (.iload_n 2, 1) := by decide +kernel
theorem dX3_count_6 : decode cX3_count 6 = .ok (.invokevirtual 64, 3) := by decide +kernel
theorem dX3_count_9 : decode cX3_count 9 = .ok (.lreturn, 1) := by decide +kernel
set_option maxRecDepth 20000 in
theorem ggX3_length_X3_refresh : GoodIn wsX3_length wsX3_refresh := goodIn_r _ [6, 7, 8, 1, 9, 10, 11, 12, 13, 14, 15, 16, 17, 5, 18, 19, 20, 21, 22, 23, 24, 25, 26, 27, 28, 29, 30, 31, 32, 33, 34, 35, 36, 37, 38, 39, 40, 41, 42, 43, 44, 45, 46, 47, 48, 49, 50, 51, 52, 53, 54, 55, 56, 57, 58, 59, 60, 61, 62, 63, 64, 65, 66, 67, 68, 69, 70, 71, 72, 73, 74, 75, 76, 77, 78, 79, 80, 81, 82, 83, 84, 85, 86, 87, 88, 89, 90, 91, 92, 93, 94, 95, 96, 97, 98, 99, 100, 101, 102, 103, 104, 105, 106, 107, 108, 109, 110, 111, 112, 113, 114, 115, 116, 117, 118, 119, 120, 121, 122, 123, 124, 125, 126, 127, 128, 129, 130, 131, 132, 133] (by decide +kernel) (by decide +kernel)
set_option maxRecDepth 20000 in
theorem gX3_length_X3_refresh : GoodIn wsX3_length (wsV RX3 68 RX3 yX3_refresh wsX3_refresh) := goodIn_app (goodIn_of _ (by decide +kernel)) ggX3_length_X3_refresh
theorem dX3_length_0 : decode cX3_length 0 = .ok (.aload_n 0, 1) := by decide +kernel
theorem dX3_length_1 : decode cX3_length 1 = .ok (.invokevirtual 68, 3) := by decide +kernel
theorem dX3_length_4 : decode cX3_length 4 = .ok (.aload_n 0, 1) := by decide +kernel
theorem dX3_length_5 : decode cX3_length 5 = .ok (.getfield 34, 3) := by decide +kernel
theorem dX3_length_8 : decode cX3_length 8 = .ok (.getfield 71, 3) := by decide +kernel
theorem dX3_length_11 : decode cX3_length 11 = .ok (.ireturn, 1) := by decide +kernel
set_option maxRecDepth 20000 in
theorem ggX3_row_X3_refresh : GoodIn wsX3_row wsX3_refresh := goodIn_r _ [7, 8, 9, 2, 10, 1, 11, 12, 13, 14, 15, 16, 17, 6, 18, 19, 20, 21, 22, 23, 24, 25, 26, 27, 28, 29, 30, 31, 32, 33, 34, 35, 36, 37, 38, 39, 40, 41, 42, 43, 44, 45, 46, 47, 48, 49, 50, 51, 52, 53, 54, 55, 56, 57, 58, 59, 60, 61, 62, 63, 64, 65, 66, 67, 68, 69, 70, 71, 72, 73, 74, 75, 76, 77, 78, 79, 80, 81, 82, 83, 84, 85, 86, 87, 88, 89, 90, 91, 92, 93, 94, 95, 96, 97, 98, 99, 100, 101, 102, 103, 104, 105, 106, 107, 108, 109, 110, 111, 117, 118, 119, 120, 121, 122, 123, 124, 125, 126, 127, 128, 129, 130, 131, 132, 133, 134, 135, 136, 137, 138] (by decide +kernel) (by decide +kernel)
set_option maxRecDepth 20000 in
theorem gX3_row_X3_refresh : GoodIn wsX3_row (wsV RX3 68 RX3 yX3_refresh wsX3_refresh) := goodIn_app (goodIn_of _ (by decide +kernel)) ggX3_row_X3_refresh
set_option maxRecDepth 20000 in
theorem ggX3_row_X3_chainsAreBetter : GoodIn wsX3_row wsX3_chainsAreBetter := goodIn_r _ [115, 14, 13, 117, 118, 119, 120, 121, 122, 123, 124, 125, 126, 127] (by decide +kernel) (by decide +kernel)
set_option maxRecDepth 20000 in
theorem gX3_row_X3_chainsAreBetter : GoodIn wsX3_row (wsV RX3 74 RX3 yX3_chainsAreBetter wsX3_chainsAreBetter) := goodIn_app (goodIn_of _ (by decide +kernel)) ggX3_row_X3_chainsAreBetter
set_option maxRecDepth 20000 in
theorem ggX3_row_X1_blockAt : GoodIn wsX3_row wsX1_blockAt := goodIn_r _ [83, 26, 36, 128, 129, 130] (by decide +kernel) (by decide +kernel)
set_option maxRecDepth 20000 in
theorem gX3_row_X1_blockAt : GoodIn wsX3_row (wsV RX3 78 RX1 yX1_blockAt wsX1_blockAt) := goodIn_app (goodIn_of _ (by decide +kernel)) ggX3_row_X1_blockAt
theorem dX3_row_0 : decode cX3_row 0 = .ok (.aload_n 0, 1) := by decide +kernel
theorem dX3_row_1 : decode cX3_row 1 = .ok (.invokevirtual 68, 3) := by decide +kernel
theorem dX3_row_4 : decode cX3_row 4 = .ok (.aload_n 0, 1) := by decide +kernel
theorem dX3_row_5 : decode cX3_row 5 = .ok (.invokevirtual 74, 3) := by decide +kernel
theorem dX3_row_8 : decode cX3_row 8 = .ok (.ifCond .eq 14, 3) := by decide +kernel
theorem dX3_row_11 : decode cX3_row 11 = .ok (.aload_n 0, 1) := by decide +kernel
theorem dX3_row_12 : decode cX3_row 12 = .ok (.getfield 37, 3) := by decide +kernel
theorem dX3_row_15 : decode cX3_row 15 = .ok (.iload_n 1, 1) := by decide +kernel
theorem dX3_row_16 : decode cX3_row 16 = .ok (.invokevirtual 78, 3) := by decide +kernel
theorem dX3_row_19 : decode cX3_row 19 = .ok (.goto 11, 3) := by decide +kernel
theorem dX3_row_22 : decode cX3_row 22 = .ok (.aload_n 0, 1) := by decide +kernel
theorem dX3_row_23 : decode cX3_row 23 = .ok (.getfield 34, 3) := by decide +kernel
theorem dX3_row_26 : decode cX3_row 26 = .ok (.iload_n 1, 1) := by decide +kernel
theorem dX3_row_27 : decode cX3_row 27 = .ok (.invokevirtual 78, 3) := by decide +kernel
theorem dX3_row_30 : decode cX3_row 30 = .ok (.ireturn, 1) := by decide +kernel
set_option maxRecDepth 20000 in
theorem ggX3_weight_X3_refresh : GoodIn wsX3_weight wsX3_refresh := goodIn_r _ [9, 10, 11, 12, 13, 14, 15, 3, 2, 1, 16, 17, 18, 8, 19, 20, 21, 22, 23, 24, 25, 26, 27, 28, 29, 30, 31, 32, 33, 34, 35, 36, 37, 38, 39, 40, 41, 42, 43, 44, 45, 46, 47, 48, 49, 50, 51, 52, 53, 54, 55, 56, 57, 58, 59, 60, 61, 62, 63, 64, 65, 66, 67, 68, 69, 70, 71, 72, 73, 74, 75, 76, 77, 78, 79, 80, 81, 82, 83, 84, 85, 86, 87, 88, 89, 90, 91, 92, 93, 94, 95, 96, 97, 98, 99, 100, 101, 102, 103, 104, 105, 106, 107, 108, 109, 110, 111, 112, 117, 118, 119, 120, 121, 122, 123, 124, 125, 126, 127, 128, 129, 130, 131, 132, 133, 134, 135, 136, 137, 138] (by decide +kernel) (by decide +kernel)
set_option maxRecDepth 20000 in
theorem gX3_weight_X3_refresh : GoodIn wsX3_weight (wsV RX3 68 RX3 yX3_refresh wsX3_refresh) := goodIn_app (goodIn_of _ (by decide +kernel)) ggX3_weight_X3_refresh
set_option maxRecDepth 20000 in
theorem ggX3_weight_X3_chainsAreBetter : GoodIn wsX3_weight wsX3_chainsAreBetter := goodIn_r _ [116, 1, 2, 117, 118, 119, 120, 121, 122, 123, 124, 125, 126, 127] (by decide +kernel) (by decide +kernel)
set_option maxRecDepth 20000 in
theorem gX3_weight_X3_chainsAreBetter : GoodIn wsX3_weight (wsV RX3 74 RX3 yX3_chainsAreBetter wsX3_chainsAreBetter) := goodIn_app (goodIn_of _ (by decide +kernel)) ggX3_weight_X3_chainsAreBetter
theorem dX3_weight_0 : decode cX3_weight 0 = .ok (.aload_n 0, 1) := by decide +kernel
theorem dX3_weight_1 : decode cX3_weight 1 = .ok (.invokevirtual 68, 3) := by decide +kernel
theorem dX3_weight_4 : decode cX3_weight 4 = .ok (.iload_n 1, 1) := by decide +kernel
theorem dX3_weight_5 : decode cX3_weight 5 = .ok (.tableswitch 65 0 3 #[31, 50, 55, 60], 31) := by decide +kernel
theorem dX3_weight_36 : decode cX3_weight 36 = .ok (.aload_n 0, 1) := by decide +kernel
theorem dX3_weight_37 : decode cX3_weight 37 = .ok (.invokevirtual 74, 3) := by decide +kernel
theorem dX3_weight_40 : decode cX3_weight 40 = .ok (.ifCond .eq 10, 3) := by decide +kernel
theorem dX3_weight_43 : decode cX3_weight 43 = .ok (.aload_n 0, 1) := by decide +kernel
theorem dX3_weight_44 : decode cX3_weight 44 = .ok (.getfield 82, 3) := by decide +kernel
theorem dX3_weight_47 : decode cX3_weight 47 = .ok (.goto 7, 3) := by decide +kernel
theorem dX3_weight_50 : decode cX3_weight 50 = .ok (.aload_n 0, 1) := by decide +kernel
theorem dX3_weight_51 : decode cX3_weight 51 = .ok (.getfield 86, 3) := by decide +kernel
theorem dX3_weight_54 : decode cX3_weight 54 = .ok (.lreturn, 1) := by decide +kernel
theorem dX3_weight_55 : decode cX3_weight 55 = .ok (.aload_n 0, 1) := by decide +kernel
theorem dX3_weight_56 : decode cX3_weight 56 = .ok (.getfield 86, 3) := by decide +kernel
theorem dX3_weight_59 : decode cX3_weight 59 = .ok (.lreturn, 1) := by decide +kernel
theorem dX3_weight_60 : decode cX3_weight 60 = .ok (.aload_n 0, 1) := by decide +kernel
theorem dX3_weight_61 : decode cX3_weight 61 = .ok (.getfield 89, 3) := by decide +kernel
theorem dX3_weight_64 : decode cX3_weight 64 = .ok (.lreturn, 1) := by decide +kernel
theorem dX3_weight_65 : decode cX3_weight 65 = .ok (.aload_n 0, 1) := by decide +kernel
theorem dX3_weight_66 : decode cX3_weight 66 = .ok (.getfield 82, 3) := by decide +kernel
theorem dX3_weight_69 : decode cX3_weight 69 = .ok (.lreturn, 1) := by decide +kernel
theorem dX3_weight_70 : decode cX3_weight 70 = .ok (.ldc2_w 55, 3) := by decide +kernel
theorem dX3_weight_73 : decode cX3_weight 73 = .ok (.lreturn, 1) := by decide +kernel
set_option maxRecDepth 20000 in
theorem ggX3_chain_X3_refresh : GoodIn wsX3_chain wsX3_refresh := goodIn_r _ [6, 7, 1, 8, 9, 10, 11, 12, 13, 14, 15, 16, 17, 5, 18, 19, 20, 21, 22, 23, 24, 25, 26, 27, 28, 29, 30, 31, 32, 33, 34, 35, 36, 37, 38, 39, 40, 41, 42, 43, 44, 45, 46, 47, 48, 49, 50, 51, 52, 53, 54, 55, 56, 57, 58, 59, 60, 61, 62, 63, 64, 65, 66, 67, 68, 69, 70, 71, 72, 73, 74, 75, 76, 77, 78, 79, 80, 81, 82, 83, 84, 85, 86, 87, 88, 89, 90, 91, 92, 93, 94, 95, 96, 97, 98, 99, 100, 101, 102, 103, 104, 105, 106, 107, 108, 109, 110, 111, 117, 118, 119, 120, 121, 122, 123, 124, 125, 126, 127, 128, 129, 130, 131, 132, 133, 134, 135, 136, 137, 138] (by decide +kernel) (by decide +kernel)
set_option maxRecDepth 20000 in
theorem gX3_chain_X3_refresh : GoodIn wsX3_chain (wsV RX3 68 RX3 yX3_refresh wsX3_refresh) := goodIn_app (goodIn_of _ (by decide +kernel)) ggX3_chain_X3_refresh
set_option maxRecDepth 20000 in
theorem ggX3_chain_X3_isBlock : GoodIn wsX3_chain wsX3_isBlock := goodIn_r _ [115, 19, 117, 118, 119, 120, 121, 122, 123, 124, 125, 126, 127] (by decide +kernel) (by decide +kernel)
set_option maxRecDepth 20000 in
theorem gX3_chain_X3_isBlock : GoodIn wsX3_chain (wsV RX3 51 RX3 yX3_isBlock wsX3_isBlock) := goodIn_app (goodIn_of _ (by decide +kernel)) ggX3_chain_X3_isBlock
set_option maxRecDepth 20000 in
theorem ggX3_chain_X0_firstOf : GoodIn wsX3_chain wsX0_firstOf := goodIn_r _ [62, 45, 37, 5, 38, 131, 132, 133] (by decide +kernel) (by decide +kernel)
set_option maxRecDepth 20000 in
theorem gX3_chain_X0_firstOf : GoodIn wsX3_chain (wsV RX3 92 RX0 yX0_firstOf wsX0_firstOf) := goodIn_app (goodIn_of _ (by decide +kernel)) ggX3_chain_X0_firstOf
theorem dX3_chain_0 : decode cX3_chain 0 = .ok (.aload_n 0, 1) := by decide +kernel
theorem dX3_chain_1 : decode cX3_chain 1 = .ok (.invokevirtual 68, 3) := by decide +kernel
theorem dX3_chain_4 : decode cX3_chain 4 = .ok (.aload_n 0, 1) := by decide +kernel
theorem dX3_chain_5 : decode cX3_chain 5 = .ok (.iload_n 1, 1) := by decide +kernel
theorem dX3_chain_6 : decode cX3_chain 6 = .ok (.invokevirtual 51, 3) := by decide +kernel
theorem dX3_chain_9 : decode cX3_chain 9 = .ok (.ifCond .eq 14, 3) := by decide +kernel
theorem dX3_chain_12 : decode cX3_chain 12 = .ok (.aload_n 0, 1) := by decide +kernel
theorem dX3_chain_13 : decode cX3_chain 13 = .ok (.getfield 23, 3) := by decide +kernel
theorem dX3_chain_16 : decode cX3_chain 16 = .ok (.iload_n 1, 1) := by decide +kernel
theorem dX3_chain_17 : decode cX3_chain 17 = .ok (.invokevirtual 92, 3) := by decide +kernel
theorem dX3_chain_20 : decode cX3_chain 20 = .ok (.goto 4, 3) := by decide +kernel
theorem dX3_chain_23 : decode cX3_chain 23 = .ok (.iconst (-1), 1) := by decide +kernel
theorem dX3_chain_24 : decode cX3_chain 24 = .ok (.ireturn, 1) := by decide +kernel
theorem dX3_isBlock_0 : decode cX3_isBlock 0 = .ok (.iload_n 1, 1) := by decide +kernel
theorem dX3_isBlock_1 : decode cX3_isBlock 1 = .ok (.ifCond .lt 15, 3) := by decide +kernel
theorem dX3_isBlock_4 : decode cX3_isBlock 4 = .ok (.iload_n 1, 1) := by decide +kernel
theorem dX3_isBlock_5 : decode cX3_isBlock 5 = .ok (.aload_n 0, 1) := by decide +kernel
theorem dX3_isBlock_6 : decode cX3_isBlock 6 = .ok (.getfield 40, 3) := by decide +kernel
theorem dX3_isBlock_9 : decode cX3_isBlock 9 = .ok (.if_icmp .ge 7, 3) := by decide +kernel
theorem dX3_isBlock_12 : decode cX3_isBlock 12 = .ok (.iconst 1, 1) := by decide +kernel
theorem dX3_isBlock_13 : decode cX3_isBlock 13 = .ok (.goto 4, 3) := by decide +kernel
theorem dX3_isBlock_16 : decode cX3_isBlock 16 = .ok (.iconst 0, 1) := by decide +kernel
theorem dX3_isBlock_17 : decode cX3_isBlock 17 = .ok (.ireturn, 1) := by decide +kernel
theorem dX3_fitsRows_0 : decode cX3_fitsRows 0 = .ok (.iload_n 0, 1) := by decide +kernel
theorem dX3_fitsRows_1 : decode cX3_fitsRows 1 = .ok (.ifCond .lt 14, 3) := by decide +kernel
theorem dX3_fitsRows_4 : decode cX3_fitsRows 4 = .ok (.iload_n 0, 1) := by decide +kernel
theorem dX3_fitsRows_5 : decode cX3_fitsRows 5 = .ok (.sipush 200, 3) := by decide +kernel
theorem dX3_fitsRows_8 : decode cX3_fitsRows 8 = .ok (.if_icmp .ge 7, 3) := by decide +kernel
theorem dX3_fitsRows_11 : decode cX3_fitsRows 11 = .ok (.iconst 1, 1) := by decide +kernel
theorem dX3_fitsRows_12 : decode cX3_fitsRows 12 = .ok (.goto 4, 3) := by decide +kernel
theorem dX3_fitsRows_15 : decode cX3_fitsRows 15 = .ok (.iconst 0, 1) := by decide +kernel
theorem dX3_fitsRows_16 : decode cX3_fitsRows 16 = .ok (.ireturn, 1) := by decide +kernel
theorem dX3_chainsAreBetter_0 : decode cX3_chainsAreBetter 0 = .ok (.aload_n 0, 1) := by decide +kernel
theorem dX3_chainsAreBetter_1 : decode cX3_chainsAreBetter 1 = .ok (.getfield 82, 3) := by decide +kernel
theorem dX3_chainsAreBetter_4 : decode cX3_chainsAreBetter 4 = .ok (.aload_n 0, 1) := by decide +kernel
theorem dX3_chainsAreBetter_5 : decode cX3_chainsAreBetter 5 = .ok (.getfield 86, 3) := by decide +kernel
theorem dX3_chainsAreBetter_8 : decode cX3_chainsAreBetter 8 = .ok (.lcmp, 1) := by decide +kernel
theorem dX3_chainsAreBetter_9 : decode cX3_chainsAreBetter 9 = .ok (.ifCond .le 7, 3) := by decide +kernel
theorem dX3_chainsAreBetter_12 : decode cX3_chainsAreBetter 12 = .ok (.iconst 1, 1) := by decide +kernel
theorem dX3_chainsAreBetter_13 : decode cX3_chainsAreBetter 13 = .ok (.goto 4, 3) := by decide +kernel
theorem dX3_chainsAreBetter_16 : decode cX3_chainsAreBetter 16 = .ok (.iconst 0, 1) := by decide +kernel
theorem dX3_chainsAreBetter_17 : decode cX3_chainsAreBetter 17 = .ok (.ireturn, 1) := by decide +kernel
set_option maxRecDepth 20000 in
theorem ggX3_refresh_X3_lineUpByNumber : GoodIn wsX3_refresh wsX3_lineUpByNumber := goodIn_r _ [14, 6, 3, 15, 16, 17, 18, 19, 20, 21, 22, 23, 24, 25, 26, 27, 28, 29, 30, 31, 32, 33, 13, 34, 108, 109, 110, 111, 112, 113, 114, 115, 116, 117, 118, 119, 120, 121] (by decide +kernel) (by decide +kernel)
set_option maxRecDepth 20000 in
theorem gX3_refresh_X3_lineUpByNumber : GoodIn wsX3_refresh (wsV RX3 95 RX3 yX3_lineUpByNumber wsX3_lineUpByNumber) := goodIn_app (goodIn_of _ (by decide +kernel)) ggX3_refresh_X3_lineUpByNumber
set_option maxRecDepth 20000 in
theorem ggX3_refresh_X0_start : GoodIn wsX3_refresh wsX0_start := goodIn_r _ [39, 40, 41, 42, 25, 26, 27, 43, 44, 45, 20, 46, 23, 33, 13, 34, 122, 123, 124, 119, 120, 121] (by decide +kernel) (by decide +kernel)
set_option maxRecDepth 20000 in
theorem gX3_refresh_X0_start : GoodIn wsX3_refresh (wsV RX3 98 RX0 yX0_start wsX0_start) := goodIn_app (goodIn_of _ (by decide +kernel)) ggX3_refresh_X0_start
set_option maxRecDepth 20000 in
theorem ggX3_refresh_X0_joinAlong : GoodIn wsX3_refresh wsX0_joinAlong := goodIn_r _ [50, 51, 52, 53, 38, 54, 40, 55, 56, 57, 58, 41, 33, 13, 34, 59, 60, 61, 62, 125, 126, 127, 128, 129, 122, 123, 124] (by decide +kernel) (by decide +kernel)
set_option maxRecDepth 20000 in
theorem gX3_refresh_X0_joinAlong : GoodIn wsX3_refresh (wsV RX3 102 RX0 yX0_joinAlong wsX0_joinAlong) := goodIn_app (goodIn_of _ (by decide +kernel)) ggX3_refresh_X0_joinAlong
set_option maxRecDepth 20000 in
theorem ggX3_refresh_X0_lineUp : GoodIn wsX3_refresh wsX0_lineUp := goodIn_r _ [66, 67, 68, 18, 19, 20, 21, 22, 23, 24, 25, 26, 27, 69, 70, 71, 72, 73, 74, 38, 75, 76, 77, 78, 79, 32, 43, 44, 45, 46, 33, 13, 34, 55, 56, 57, 58, 41, 80, 81, 82, 83, 84, 85, 86, 87, 40, 88, 29, 30, 31, 89, 90, 91, 92, 122, 123, 124, 119, 120, 121, 125, 126, 127, 128, 129] (by decide +kernel) (by decide +kernel)
set_option maxRecDepth 20000 in
theorem gX3_refresh_X0_lineUp : GoodIn wsX3_refresh (wsV RX3 106 RX0 yX0_lineUp wsX0_lineUp) := goodIn_app (goodIn_of _ (by decide +kernel)) ggX3_refresh_X0_lineUp
set_option maxRecDepth 20000 in
theorem ggX3_refresh_X2_weigh : GoodIn wsX3_refresh wsX2_weigh := goodIn_r _ [97, 98, 99, 100, 101, 102, 103, 104, 105, 20, 106, 23, 107, 44, 45, 46, 33, 13, 34, 125, 126, 127, 128, 129, 119, 120, 121] (by decide +kernel) (by decide +kernel)
set_option maxRecDepth 20000 in
theorem gX3_refresh_X2_weigh : GoodIn wsX3_refresh (wsV RX3 110 RX2 yX2_weigh wsX2_weigh) := goodIn_app (goodIn_of _ (by decide +kernel)) ggX3_refresh_X2_weigh
theorem dX3_refresh_0 : decode cX3_refresh 0 = .ok (.aload_n 0, 1) := by decide +kernel
theorem dX3_refresh_1 : decode cX3_refresh 1 = .ok (.getfield 44, 3) := by decide +kernel
theorem dX3_refresh_4 : decode cX3_refresh 4 = .ok (.ifCond .ne 4, 3) := by decide +kernel
theorem dX3_refresh_7 : decode cX3_refresh 7 = .ok (.return_, 1) := by decide +kernel
theorem dX3_refresh_8 : decode cX3_refresh 8 = .ok (.aload_n 0, 1) := by decide +kernel
theorem dX3_refresh_9 : decode cX3_refresh 9 = .ok (.invokevirtual 95, 3) := by decide +kernel
theorem dX3_refresh_12 : decode cX3_refresh 12 = .ok (.aload_n 0, 1) := by decide +kernel
theorem dX3_refresh_13 : decode cX3_refresh 13 = .ok (.getfield 23, 3) := by decide +kernel
theorem dX3_refresh_16 : decode cX3_refresh 16 = .ok (.aload_n 0, 1) := by decide +kernel
theorem dX3_refresh_17 : decode cX3_refresh 17 = .ok (.getfield 34, 3) := by decide +kernel
theorem dX3_refresh_20 : decode cX3_refresh 20 = .ok (.invokevirtual 98, 3) := by decide +kernel
theorem dX3_refresh_23 : decode cX3_refresh 23 = .ok (.aload_n 0, 1) := by decide +kernel
theorem dX3_refresh_24 : decode cX3_refresh 24 = .ok (.getfield 23, 3) := by decide +kernel
theorem dX3_refresh_27 : decode cX3_refresh 27 = .ok (.aload_n 0, 1) := by decide +kernel
theorem dX3_refresh_28 : decode cX3_refresh 28 = .ok (.getfield 16, 3) := by decide +kernel
theorem dX3_refresh_31 : decode cX3_refresh 31 = .ok (.invokevirtual 102, 3) := by decide +kernel
theorem dX3_refresh_34 : decode cX3_refresh 34 = .ok (.aload_n 0, 1) := by decide +kernel
theorem dX3_refresh_35 : decode cX3_refresh 35 = .ok (.getfield 23, 3) := by decide +kernel
theorem dX3_refresh_38 : decode cX3_refresh 38 = .ok (.aload_n 0, 1) := by decide +kernel
theorem dX3_refresh_39 : decode cX3_refresh 39 = .ok (.getfield 34, 3) := by decide +kernel
theorem dX3_refresh_42 : decode cX3_refresh 42 = .ok (.aload_n 0, 1) := by decide +kernel
theorem dX3_refresh_43 : decode cX3_refresh 43 = .ok (.getfield 16, 3) := by decide +kernel
theorem dX3_refresh_46 : decode cX3_refresh 46 = .ok (.aload_n 0, 1) := by decide +kernel
theorem dX3_refresh_47 : decode cX3_refresh 47 = .ok (.getfield 37, 3) := by decide +kernel
theorem dX3_refresh_50 : decode cX3_refresh 50 = .ok (.invokevirtual 106, 3) := by decide +kernel
theorem dX3_refresh_53 : decode cX3_refresh 53 = .ok (.aload_n 0, 1) := by decide +kernel
theorem dX3_refresh_54 : decode cX3_refresh 54 = .ok (.aload_n 0, 1) := by decide +kernel
theorem dX3_refresh_55 : decode cX3_refresh 55 = .ok (.getfield 16, 3) := by decide +kernel
theorem dX3_refresh_58 : decode cX3_refresh 58 = .ok (.aload_n 0, 1) := by decide +kernel
theorem dX3_refresh_59 : decode cX3_refresh 59 = .ok (.getfield 30, 3) := by decide +kernel
theorem dX3_refresh_62 : decode cX3_refresh 62 = .ok (.invokevirtual 110, 3) := by decide +kernel
theorem dX3_refresh_65 : decode cX3_refresh 65 = .ok (.putfield 89, 3) := by decide +kernel
theorem dX3_refresh_68 : decode cX3_refresh 68 = .ok (.aload_n 0, 1) := by decide +kernel
theorem dX3_refresh_69 : decode cX3_refresh 69 = .ok (.aload_n 0, 1) := by decide +kernel
theorem dX3_refresh_70 : decode cX3_refresh 70 = .ok (.getfield 16, 3) := by decide +kernel
theorem dX3_refresh_73 : decode cX3_refresh 73 = .ok (.aload_n 0, 1) := by decide +kernel
theorem dX3_refresh_74 : decode cX3_refresh 74 = .ok (.getfield 34, 3) := by decide +kernel
theorem dX3_refresh_77 : decode cX3_refresh 77 = .ok (.invokevirtual 110, 3) := by decide +kernel
theorem dX3_refresh_80 : decode cX3_refresh 80 = .ok (.putfield 86, 3) := by decide +kernel
theorem dX3_refresh_83 : decode cX3_refresh 83 = .ok (.aload_n 0, 1) := by decide +kernel
theorem dX3_refresh_84 : decode cX3_refresh 84 = .ok (.aload_n 0, 1) := by decide +kernel
theorem dX3_refresh_85 : decode cX3_refresh 85 = .ok (.getfield 16, 3) := by decide +kernel
theorem dX3_refresh_88 : decode cX3_refresh 88 = .ok (.aload_n 0, 1) := by decide +kernel
theorem dX3_refresh_89 : decode cX3_refresh 89 = .ok (.getfield 37, 3) := by decide +kernel
theorem dX3_refresh_92 : decode cX3_refresh 92 = .ok (.invokevirtual 110, 3) := by decide +kernel
theorem dX3_refresh_95 : decode cX3_refresh 95 = .ok (.putfield 82, 3) := by decide +kernel
theorem dX3_refresh_98 : decode cX3_refresh 98 = .ok (.aload_n 0, 1) := by decide +kernel
theorem dX3_refresh_99 : decode cX3_refresh 99 = .ok (.iconst 0, 1) := by decide +kernel
theorem dX3_refresh_100 : decode cX3_refresh 100 = .ok (.putfield 44, 3) := by decide +kernel
theorem dX3_refresh_103 : decode cX3_refresh 103 = .ok (.return_, 1) := by decide +kernel
set_option maxRecDepth 20000 in
theorem ggX3_lineUpByNumber_X1_empty : GoodIn wsX3_lineUpByNumber wsX1_empty := goodIn_r _ [9, 10, 11, 12, 13, 14, 15, 35, 36, 37] (by decide +kernel) (by decide +kernel)
set_option maxRecDepth 20000 in
theorem gX3_lineUpByNumber_X1_empty : GoodIn wsX3_lineUpByNumber (wsV RX3 114 RX1 yX1_empty wsX1_empty) := goodIn_app (goodIn_of _ (by decide +kernel)) ggX3_lineUpByNumber_X1_empty
set_option maxRecDepth 20000 in
theorem ggX3_lineUpByNumber_X1_append : GoodIn wsX3_lineUpByNumber wsX1_append := goodIn_r _ [19, 10, 20, 11, 21, 22, 23, 35, 36, 37] (by decide +kernel) (by decide +kernel)
set_option maxRecDepth 20000 in
theorem gX3_lineUpByNumber_X1_append : GoodIn wsX3_lineUpByNumber (wsV RX3 117 RX1 yX1_append wsX1_append) := goodIn_app (goodIn_of _ (by decide +kernel)) ggX3_lineUpByNumber_X1_append
theorem dX3_lineUpByNumber_0 : decode cX3_lineUpByNumber 0 = .ok (.aload_n 0, 1) := by decide +kernel
theorem dX3_lineUpByNumber_1 : decode cX3_lineUpByNumber 1 = .ok (.getfield 30, 3) := by decide +kernel
theorem dX3_lineUpByNumber_4 : decode cX3_lineUpByNumber 4 = .ok (.invokevirtual 114, 3) := by decide +kernel
theorem dX3_lineUpByNumber_7 : decode cX3_lineUpByNumber 7 = .ok (.aload_n 0, 1) := by decide +kernel
theorem dX3_lineUpByNumber_8 : decode cX3_lineUpByNumber 8 = .ok (.getfield 34, 3) := by decide +kernel
theorem dX3_lineUpByNumber_11 : decode cX3_lineUpByNumber 11 = .ok (.invokevirtual 114, 3) := by decide +kernel
theorem dX3_lineUpByNumber_14 : decode cX3_lineUpByNumber 14 = .ok (.iconst 0, 1) := by decide +kernel
theorem dX3_lineUpByNumber_15 : decode cX3_lineUpByNumber 15 = .ok (.istore_n 1, 1) := by decide +kernel
theorem dX3_lineUpByNumber_16 : decode cX3_lineUpByNumber 16 = .ok (.iload_n 1, 1) := by decide +kernel
theorem dX3_lineUpByNumber_17 : decode cX3_lineUpByNumber 17 = .ok (.aload_n 0, 1) := by decide +kernel
theorem dX3_lineUpByNumber_18 : decode cX3_lineUpByNumber 18 = .ok (.getfield 40, 3) := by decide +kernel
theorem dX3_lineUpByNumber_21 : decode cX3_lineUpByNumber 21 = .ok (.if_icmp .ge 34, 3) := by decide +kernel
theorem dX3_lineUpByNumber_24 : decode cX3_lineUpByNumber 24 = .ok (.aload_n 0, 1) := by decide +kernel
theorem dX3_lineUpByNumber_25 : decode cX3_lineUpByNumber 25 = .ok (.getfield 30, 3) := by decide +kernel
theorem dX3_lineUpByNumber_28 : decode cX3_lineUpByNumber 28 = .ok (.iload_n 1, 1) := by decide +kernel
theorem dX3_lineUpByNumber_29 : decode cX3_lineUpByNumber 29 = .ok (.invokevirtual 117, 3) := by decide +kernel
theorem dX3_lineUpByNumber_32 : decode cX3_lineUpByNumber 32 = .ok (.aload_n 0, 1) := by decide +kernel
theorem dX3_lineUpByNumber_33 : decode cX3_lineUpByNumber 33 = .ok (.getfield 9, 3) := by decide +kernel
theorem dX3_lineUpByNumber_36 : decode cX3_lineUpByNumber 36 = .ok (.iload_n 1, 1) := by decide +kernel
theorem dX3_lineUpByNumber_37 : decode cX3_lineUpByNumber 37 = .ok (.baload, 1) := by decide +kernel
theorem dX3_lineUpByNumber_38 : decode cX3_lineUpByNumber 38 = .ok (.ifCond .eq 11, 3) := by decide +kernel
theorem dX3_lineUpByNumber_41 : decode cX3_lineUpByNumber 41 = .ok (.aload_n 0, 1) := by decide +kernel
theorem dX3_lineUpByNumber_42 : decode cX3_lineUpByNumber 42 = .ok (.getfield 34, 3) := by decide +kernel
theorem dX3_lineUpByNumber_45 : decode cX3_lineUpByNumber 45 = .ok (.iload_n 1, 1) := by decide +kernel
theorem dX3_lineUpByNumber_46 : decode cX3_lineUpByNumber 46 = .ok (.invokevirtual 117, 3) := by decide +kernel
theorem dX3_lineUpByNumber_49 : decode cX3_lineUpByNumber 49 = .ok (.iinc 1 1, 3) := by decide +kernel
theorem dX3_lineUpByNumber_52 : decode cX3_lineUpByNumber 52 = .ok (.goto (-36), 3) := by decide +kernel
theorem dX3_lineUpByNumber_55 : decode cX3_lineUpByNumber 55 = .ok (.return_, 1) := by decide +kernel
theorem dX4_init_0 : decode cX4_init 0 = .ok (.aload_n 0, 1) := by decide +kernel
theorem dX4_init_1 : decode cX4_init 1 = .ok (.invokespecial 1, 3) := by decide +kernel
theorem dX4_init_4 : decode cX4_init 4 = .ok (.aload_n 0, 1) := by decide +kernel
theorem dX4_init_5 : decode cX4_init 5 = .ok (.iconst 1, 1) := by decide +kernel
theorem dX4_init_6 : decode cX4_init 6 = .ok (.putfield 7, 3) := by decide +kernel
theorem dX4_init_9 : decode cX4_init 9 = .ok (.aload_n 0, 1) := by decide +kernel
theorem dX4_init_10 : decode cX4_init 10 = .ok (.sipush 200, 3) := by decide +kernel
theorem dX4_init_13 : decode cX4_init 13 = .ok (.newarray .boolean, 2) := by decide +kernel
theorem dX4_init_15 : decode cX4_init 15 = .ok (.putfield 13, 3) := by decide +kernel
theorem dX4_init_18 : decode cX4_init 18 = .ok (.aload_n 0, 1) := by decide +kernel
theorem dX4_init_19 : decode cX4_init 19 = .ok (.sipush 1000, 3) := by decide +kernel
theorem dX4_init_22 : decode cX4_init 22 = .ok (.newarray .int, 2) := by decide +kernel
theorem dX4_init_24 : decode cX4_init 24 = .ok (.putfield 17, 3) := by decide +kernel
theorem dX4_init_27 : decode cX4_init 27 = .ok (.aload_n 0, 1) := by decide +kernel
theorem dX4_init_28 : decode cX4_init 28 = .ok (.sipush 1000, 3) := by decide +kernel
theorem dX4_init_31 : decode cX4_init 31 = .ok (.newarray .int, 2) := by decide +kernel
theorem dX4_init_33 : decode cX4_init 33 = .ok (.putfield 21, 3) := by decide +kernel
theorem dX4_init_36 : decode cX4_init 36 = .ok (.aload_n 0, 1) := by decide +kernel
theorem dX4_init_37 : decode cX4_init 37 = .ok (.sipush 1000, 3) := by decide +kernel
theorem dX4_init_40 : decode cX4_init 40 = .ok (.newarray .long, 2) := by decide +kernel
theorem dX4_init_42 : decode cX4_init 42 = .ok (.putfield 24, 3) := by decide +kernel
theorem dX4_init_45 : decode cX4_init 45 = .ok (.aload_n 0, 1) := by decide +kernel
theorem dX4_init_46 : decode cX4_init 46 = .ok (.sipush 1000, 3) := by decide +kernel
theorem dX4_init_49 : decode cX4_init 49 = .ok (.newarray .boolean, 2) := by decide +kernel
theorem dX4_init_51 : decode cX4_init 51 = .ok (.putfield 28, 3) := by decide +kernel
theorem dX4_init_54 : decode cX4_init 54 = .ok (.aload_n 0, 1) := by decide +kernel
theorem dX4_init_55 : decode cX4_init 55 = .ok (.ldc 31, 2) := by decide +kernel
theorem dX4_init_57 : decode cX4_init 57 = .ok (.newarray .int, 2) := by decide +kernel
theorem dX4_init_59 : decode cX4_init 59 = .ok (.putfield 32, 3) := by decide +kernel
theorem dX4_init_62 : decode cX4_init 62 = .ok (.aload_n 0, 1) := by decide +kernel
theorem dX4_init_63 : decode cX4_init 63 = .ok (.sipush 200, 3) := by decide +kernel
theorem dX4_init_66 : decode cX4_init 66 = .ok (.newarray .int, 2) := by decide +kernel
theorem dX4_init_68 : decode cX4_init 68 = .ok (.putfield 35, 3) := by decide +kernel
theorem dX4_init_71 : decode cX4_init 71 = .ok (.aload_n 0, 1) := by decide +kernel
theorem dX4_init_72 : decode cX4_init 72 = .ok (.sipush 200, 3) := by decide +kernel
theorem dX4_init_75 : decode cX4_init 75 = .ok (.newarray .int, 2) := by decide +kernel
theorem dX4_init_77 : decode cX4_init 77 = .ok (.putfield 38, 3) := by decide +kernel
theorem dX4_init_80 : decode cX4_init 80 = .ok (.aload_n 0, 1) := by decide +kernel
theorem dX4_init_81 : decode cX4_init 81 = .ok (.sipush 200, 3) := by decide +kernel
theorem dX4_init_84 : decode cX4_init 84 = .ok (.newarray .int, 2) := by decide +kernel
theorem dX4_init_86 : decode cX4_init 86 = .ok (.putfield 41, 3) := by decide +kernel
theorem dX4_init_89 : decode cX4_init 89 = .ok (.aload_n 0, 1) := by decide +kernel
theorem dX4_init_90 : decode cX4_init 90 = .ok (.sipush 200, 3) := by decide +kernel
theorem dX4_init_93 : decode cX4_init 93 = .ok (.newarray .int, 2) := by decide +kernel
theorem dX4_init_95 : decode cX4_init 95 = .ok (.putfield 44, 3) := by decide +kernel
theorem dX4_init_98 : decode cX4_init 98 = .ok (.aload_n 0, 1) := by decide +kernel
theorem dX4_init_99 : decode cX4_init 99 = .ok (.sipush 1000, 3) := by decide +kernel
theorem dX4_init_102 : decode cX4_init 102 = .ok (.newarray .boolean, 2) := by decide +kernel
theorem dX4_init_104 : decode cX4_init 104 = .ok (.putfield 47, 3) := by decide +kernel
theorem dX4_init_107 : decode cX4_init 107 = .ok (.aload_n 0, 1) := by decide +kernel
theorem dX4_init_108 : decode cX4_init 108 = .ok (.sipush 200, 3) := by decide +kernel
theorem dX4_init_111 : decode cX4_init 111 = .ok (.newarray .boolean, 2) := by decide +kernel
theorem dX4_init_113 : decode cX4_init 113 = .ok (.putfield 50, 3) := by decide +kernel
theorem dX4_init_116 : decode cX4_init 116 = .ok (.aload_n 0, 1) := by decide +kernel
theorem dX4_init_117 : decode cX4_init 117 = .ok (.sipush 200, 3) := by decide +kernel
theorem dX4_init_120 : decode cX4_init 120 = .ok (.newarray .int, 2) := by decide +kernel
theorem dX4_init_122 : decode cX4_init 122 = .ok (.putfield 53, 3) := by decide +kernel
theorem dX4_init_125 : decode cX4_init 125 = .ok (.return_, 1) := by decide +kernel
theorem dX4_isBlock_0 : decode cX4_isBlock 0 = .ok (.iload_n 1, 1) := by decide +kernel
theorem dX4_isBlock_1 : decode cX4_isBlock 1 = .ok (.ifCond .lt 15, 3) := by decide +kernel
theorem dX4_isBlock_4 : decode cX4_isBlock 4 = .ok (.iload_n 1, 1) := by decide +kernel
theorem dX4_isBlock_5 : decode cX4_isBlock 5 = .ok (.aload_n 0, 1) := by decide +kernel
theorem dX4_isBlock_6 : decode cX4_isBlock 6 = .ok (.getfield 7, 3) := by decide +kernel
theorem dX4_isBlock_9 : decode cX4_isBlock 9 = .ok (.if_icmp .ge 7, 3) := by decide +kernel
theorem dX4_isBlock_12 : decode cX4_isBlock 12 = .ok (.iconst 1, 1) := by decide +kernel
theorem dX4_isBlock_13 : decode cX4_isBlock 13 = .ok (.goto 4, 3) := by decide +kernel
theorem dX4_isBlock_16 : decode cX4_isBlock 16 = .ok (.iconst 0, 1) := by decide +kernel
theorem dX4_isBlock_17 : decode cX4_isBlock 17 = .ok (.ireturn, 1) := by decide +kernel
theorem dX4_size_0 : decode cX4_size 0 = .ok (.iload_n 1, 1) := by decide +kernel
theorem dX4_size_1 : decode cX4_size 1 = .ok (.iconst 1, 1) := by decide +kernel
theorem dX4_size_2 : decode cX4_size 2 = .ok (.if_icmp .lt 10, 3) := by decide +kernel
theorem dX4_size_5 : decode cX4_size 5 = .ok (.iload_n 1, 1) := by decide +kernel
theorem dX4_size_6 : decode cX4_size 6 = .ok (.sipush 200, 3) := by decide +kernel
theorem dX4_size_9 : decode cX4_size 9 = .ok (.if_icmp .le 5, 3) := by decide +kernel
theorem dX4_size_12 : decode cX4_size 12 = .ok (.iconst 0, 1) := by decide +kernel
theorem dX4_size_13 : decode cX4_size 13 = .ok (.ireturn, 1) := by decide +kernel
theorem dX4_size_14 : decode cX4_size 14 = .ok (.aload_n 0, 1) := by decide +kernel
theorem dX4_size_15 : decode cX4_size 15 = .ok (.iload_n 1, 1) := by decide +kernel
theorem dX4_size_16 : decode cX4_size 16 = .ok (.putfield 7, 3) := by decide +kernel
theorem dX4_size_19 : decode cX4_size 19 = .ok (.aload_n 0, 1) := by decide +kernel
theorem dX4_size_20 : decode cX4_size 20 = .ok (.iconst 0, 1) := by decide +kernel
theorem dX4_size_21 : decode cX4_size 21 = .ok (.putfield 56, 3) := by decide +kernel
theorem dX4_size_24 : decode cX4_size 24 = .ok (.iconst 0, 1) := by decide +kernel
theorem dX4_size_25 : decode cX4_size 25 = .ok (.istore_n 2, 1) := by decide +kernel
theorem dX4_size_26 : decode cX4_size 26 = .ok (.iload_n 2, 1) := by decide +kernel
theorem dX4_size_27 : decode cX4_size 27 = .ok (.sipush 200, 3) := by decide +kernel
theorem dX4_size_30 : decode cX4_size 30 = .ok (.if_icmp .ge 16, 3) := by decide +kernel
theorem dX4_size_33 : decode cX4_size 33 = .ok (.aload_n 0, 1) := by decide +kernel
theorem dX4_size_34 : decode cX4_size 34 = .ok (.getfield 13, 3) := by decide +kernel
theorem dX4_size_37 : decode cX4_size 37 = .ok (.iload_n 2, 1) := by decide +kernel
theorem dX4_size_38 : decode cX4_size 38 = .ok (.iconst 0, 1) := by decide +kernel
theorem dX4_size_39 : decode cX4_size 39 = .ok (.bastore, 1) := by decide +kernel
theorem dX4_size_40 : decode cX4_size 40 = .ok (.iinc 2 1, 3) := by decide +kernel
theorem dX4_size_43 : decode cX4_size 43 = .ok (.goto (-17), 3) := by decide +kernel
theorem dX4_size_46 : decode cX4_size 46 = .ok (.aload_n 0, 1) := by decide +kernel
theorem dX4_size_47 : decode cX4_size 47 = .ok (.iconst 0, 1) := by decide +kernel
theorem dX4_size_48 : decode cX4_size 48 = .ok (.putfield 59, 3) := by decide +kernel
theorem dX4_size_51 : decode cX4_size 51 = .ok (.iconst 1, 1) := by decide +kernel
theorem dX4_size_52 : decode cX4_size 52 = .ok (.ireturn, 1) := by decide +kernel
set_option maxRecDepth 20000 in
theorem ggX4_heat_X4_isBlock : GoodIn wsX4_heat wsX4_isBlock := goodIn_r _ [7, 8, 9, 10, 11, 12, 13, 14, 15, 16, 17, 18, 19, 20, 21, 22, 23, 24, 25, 26] (by decide +kernel) (by decide +kernel)
set_option maxRecDepth 20000 in
theorem gX4_heat_X4_isBlock : GoodIn wsX4_heat (wsV RX4 63 RX4 yX4_isBlock wsX4_isBlock) := goodIn_app (goodIn_of _ (by decide +kernel)) ggX4_heat_X4_isBlock
theorem dX4_heat_0 : decode cX4_heat 0 = .ok (.aload_n 0, 1) := by decide +kernel
theorem dX4_heat_1 : decode cX4_heat 1 = .ok (.iload_n 1, 1) := by decide +kernel
theorem dX4_heat_2 : decode cX4_heat 2 = .ok (.invokevirtual 63, 3) := by decide +kernel
theorem dX4_heat_5 : decode cX4_heat 5 = .ok (.ifCond .ne 5, 3) := by decide +kernel
theorem dX4_heat_8 : decode cX4_heat 8 = .ok (.iconst 0, 1) := by decide +kernel
theorem dX4_heat_9 : decode cX4_heat 9 = .ok (.ireturn, 1) := by decide +kernel
theorem dX4_heat_10 : decode cX4_heat 10 = .ok (.aload_n 0, 1) := by decide +kernel
theorem dX4_heat_11 : decode cX4_heat 11 = .ok (.getfield 13, 3) := by decide +kernel
theorem dX4_heat_14 : decode cX4_heat 14 = .ok (.iload_n 1, 1) := by decide +kernel
theorem dX4_heat_15 : decode cX4_heat 15 = .ok (.iload_n 2, 1) := by decide +kernel
theorem dX4_heat_16 : decode cX4_heat 16 = .ok (.bastore, 1) := by decide +kernel
theorem dX4_heat_17 : decode cX4_heat 17 = .ok (.aload_n 0, 1) := by decide +kernel
theorem dX4_heat_18 : decode cX4_heat 18 = .ok (.iconst 0, 1) := by decide +kernel
theorem dX4_heat_19 : decode cX4_heat 19 = .ok (.putfield 59, 3) := by decide +kernel
theorem dX4_heat_22 : decode cX4_heat 22 = .ok (.iconst 1, 1) := by decide +kernel
theorem dX4_heat_23 : decode cX4_heat 23 = .ok (.ireturn, 1) := by decide +kernel
theorem dX4_find_0 : decode cX4_find 0 = .ok (.iconst 0, 1) := by decide +kernel
theorem dX4_find_1 : decode cX4_find 1 = .ok (.istore_n 3, 1) := by decide +kernel
theorem dX4_find_2 : decode cX4_find 2 = .ok (.iload_n 3, 1) := by decide +kernel
theorem dX4_find_3 : decode cX4_find 3 = .ok (.aload_n 0, 1) := by decide +kernel
theorem dX4_find_4 : decode cX4_find 4 = .ok (.getfield 56, 3) := by decide +kernel
theorem dX4_find_7 : decode cX4_find 7 = .ok (.if_icmp .ge 31, 3) := by decide +kernel
theorem dX4_find_10 : decode cX4_find 10 = .ok (.aload_n 0, 1) := by decide +kernel
theorem dX4_find_11 : decode cX4_find 11 = .ok (.getfield 17, 3) := by decide +kernel
theorem dX4_find_14 : decode cX4_find 14 = .ok (.iload_n 3, 1) := by decide +kernel
theorem dX4_find_15 : decode cX4_find 15 = .ok (.iaload, 1) := by decide +kernel
theorem dX4_find_16 : decode cX4_find 16 = .ok (.iload_n 1, 1) := by decide +kernel
theorem dX4_find_17 : decode cX4_find 17 = .ok (.if_icmp .ne 15, 3) := by decide +kernel
theorem dX4_find_20 : decode cX4_find 20 = .ok (.aload_n 0, 1) := by decide +kernel
theorem dX4_find_21 : decode cX4_find 21 = .ok (.getfield 21, 3) := by decide +kernel
theorem dX4_find_24 : decode cX4_find 24 = .ok (.iload_n 3, 1) := by decide +kernel
theorem dX4_find_25 : decode cX4_find 25 = .ok (.iaload, 1) := by decide +kernel
theorem dX4_find_26 : decode cX4_find 26 = .ok (.iload_n 2, 1) := by decide +kernel
theorem dX4_find_27 : decode cX4_find 27 = .ok (.if_icmp .ne 5, 3) := by decide +kernel
theorem dX4_find_30 : decode cX4_find 30 = .ok (.iload_n 3, 1) := by decide +kernel
theorem dX4_find_31 : decode cX4_find 31 = .ok (.ireturn, 1) := by decide +kernel
theorem dX4_find_32 : decode cX4_find 32 = .ok (.iinc 3 1, 3) := by decide +kernel
theorem dX4_find_35 : decode cX4_find 35 = .ok (.goto (-33), 3) := by decide +kernel
theorem dX4_find_38 : decode cX4_find 38 = .ok (.iconst (-1), 1) := by decide +kernel
theorem dX4_find_39 : decode cX4_find 39 = .ok (.ireturn, 1) := by decide +kernel
set_option maxRecDepth 20000 in
theorem ggX4_way_X4_isBlock : GoodIn wsX4_way wsX4_isBlock := goodIn_r _ [20, 21, 26, 27, 28, 29, 30, 31, 32, 33, 34, 35, 36, 37, 38, 39, 40, 41, 42, 43] (by decide +kernel) (by decide +kernel)
set_option maxRecDepth 20000 in
theorem gX4_way_X4_isBlock : GoodIn wsX4_way (wsV RX4 63 RX4 yX4_isBlock wsX4_isBlock) := goodIn_app (goodIn_of _ (by decide +kernel)) ggX4_way_X4_isBlock
set_option maxRecDepth 20000 in
theorem ggX4_way_X4_find : GoodIn wsX4_way wsX4_find := goodIn_r _ [25, 4, 6, 7, 26, 27, 28, 29, 30, 31, 32, 33, 34, 35, 36, 37, 38, 39, 40, 41, 42, 43] (by decide +kernel) (by decide +kernel)
set_option maxRecDepth 20000 in
theorem gX4_way_X4_find : GoodIn wsX4_way (wsV RX4 72 RX4 yX4_find wsX4_find) := goodIn_app (goodIn_of _ (by decide +kernel)) ggX4_way_X4_find

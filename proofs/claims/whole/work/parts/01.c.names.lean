theorem dX0_init_0 : decode cX0_init 0 = .ok (.aload_n 0, 1) := by decide +kernel
theorem dX0_init_1 : decode cX0_init 1 = .ok (.invokespecial 3, 3) := by decide +kernel
theorem dX0_init_4 : decode cX0_init 4 = .ok (.aload_n 0, 1) := by decide +kernel
theorem dX0_init_5 : decode cX0_init 5 = .ok (.sipush 200, 3) := by decide +kernel
theorem dX0_init_8 : decode cX0_init 8 = .ok (.newarray .int, 2) := by decide +kernel
theorem dX0_init_10 : decode cX0_init 10 = .ok (.putfield 9, 3) := by decide +kernel
theorem dX0_init_13 : decode cX0_init 13 = .ok (.aload_n 0, 1) := by decide +kernel
theorem dX0_init_14 : decode cX0_init 14 = .ok (.sipush 200, 3) := by decide +kernel
theorem dX0_init_17 : decode cX0_init 17 = .ok (.newarray .int, 2) := by decide +kernel
theorem dX0_init_19 : decode cX0_init 19 = .ok (.putfield 15, 3) := by decide +kernel
theorem dX0_init_22 : decode cX0_init 22 = .ok (.aload_n 0, 1) := by decide +kernel
theorem dX0_init_23 : decode cX0_init 23 = .ok (.sipush 200, 3) := by decide +kernel
theorem dX0_init_26 : decode cX0_init 26 = .ok (.newarray .long, 2) := by decide +kernel
theorem dX0_init_28 : decode cX0_init 28 = .ok (.putfield 18, 3) := by decide +kernel
theorem dX0_init_31 : decode cX0_init 31 = .ok (.return_, 1) := by decide +kernel
set_option maxRecDepth 20000 in
theorem ggX0_start_J7_fill_53178 : GoodIn wsX0_start wsJ7_fill_53178 := goodIn_r _ [6] (by decide +kernel) (by decide +kernel)
set_option maxRecDepth 20000 in
theorem gX0_start_J7_fill_53178 : GoodIn wsX0_start (va_wsS RX0 22 yJ7_fill_53178 wsJ7_fill_53178) := goodIn_app (goodIn_of _ (by decide +kernel)) ggX0_start_J7_fill_53178
set_option maxRecDepth 20000 in
theorem ggX0_start_X1_holds : GoodIn wsX0_start wsX1_holds := goodIn_r _ [11, 12, 13, 14, 15, 19, 20, 21] (by decide +kernel) (by decide +kernel)
set_option maxRecDepth 20000 in
theorem gX0_start_X1_holds : GoodIn wsX0_start (wsV RX0 28 RX1 yX1_holds wsX1_holds) := goodIn_app (goodIn_of _ (by decide +kernel)) ggX0_start_X1_holds
theorem dX0_start_0 : decode cX0_start 0 = .ok (.aload_n 0, 1) := by decide +kernel
theorem dX0_start_1 : decode cX0_start 1 = .ok (.getfield 15, 3) := by decide +kernel
theorem dX0_start_4 : decode cX0_start 4 = .ok (.iconst (-1), 1) := by decide +kernel
theorem dX0_start_5 : decode cX0_start 5 = .ok (.invokestatic 22, 3) := by decide +kernel
theorem dX0_start_8 : decode cX0_start 8 = .ok (.iconst 0, 1) := by decide +kernel
theorem dX0_start_9 : decode cX0_start 9 = .ok (.istore_n 2, 1) := by decide +kernel
theorem dX0_start_10 : decode cX0_start 10 = .ok (.iload_n 2, 1) := by decide +kernel
theorem dX0_start_11 : decode cX0_start 11 = .ok (.sipush 200, 3) := by decide +kernel
theorem dX0_start_14 : decode cX0_start 14 = .ok (.if_icmp .ge 28, 3) := by decide +kernel
theorem dX0_start_17 : decode cX0_start 17 = .ok (.aload_n 0, 1) := by decide +kernel
theorem dX0_start_18 : decode cX0_start 18 = .ok (.getfield 9, 3) := by decide +kernel
theorem dX0_start_21 : decode cX0_start 21 = .ok (.iload_n 2, 1) := by decide +kernel
theorem dX0_start_22 : decode cX0_start 22 = .ok (.aload_n 1, 1) := by decide +kernel
theorem dX0_start_23 : decode cX0_start 23 = .ok (.iload_n 2, 1) := by decide +kernel
theorem dX0_start_24 : decode cX0_start 24 = .ok (.invokevirtual 28, 3) := by decide +kernel
theorem dX0_start_27 : decode cX0_start 27 = .ok (.ifCond .eq 7, 3) := by decide +kernel
theorem dX0_start_30 : decode cX0_start 30 = .ok (.iload_n 2, 1) := by decide +kernel
theorem dX0_start_31 : decode cX0_start 31 = .ok (.goto 4, 3) := by decide +kernel
theorem dX0_start_34 : decode cX0_start 34 = .ok (.iconst (-1), 1) := by decide +kernel
theorem dX0_start_35 : decode cX0_start 35 = .ok (.iastore, 1) := by decide +kernel
theorem dX0_start_36 : decode cX0_start 36 = .ok (.iinc 2 1, 3) := by decide +kernel
theorem dX0_start_39 : decode cX0_start 39 = .ok (.goto (-29), 3) := by decide +kernel
theorem dX0_start_42 : decode cX0_start 42 = .ok (.return_, 1) := by decide +kernel
set_option maxRecDepth 20000 in
theorem ggX0_firstOf_X3_fitsRows : GoodIn wsX0_firstOf wsX3_fitsRows := goodIn_r _ [4] (by decide +kernel) (by decide +kernel)
set_option maxRecDepth 20000 in
theorem gX0_firstOf_X3_fitsRows_n34 : GoodIn wsX0_firstOf (wsX3_fitsRows) := ggX0_firstOf_X3_fitsRows
theorem dX0_firstOf_0 : decode cX0_firstOf 0 = .ok (.iload_n 1, 1) := by decide +kernel
theorem dX0_firstOf_1 : decode cX0_firstOf 1 = .ok (.invokestatic 34, 3) := by decide +kernel
theorem dX0_firstOf_4 : decode cX0_firstOf 4 = .ok (.ifCond .eq 12, 3) := by decide +kernel
theorem dX0_firstOf_7 : decode cX0_firstOf 7 = .ok (.aload_n 0, 1) := by decide +kernel
theorem dX0_firstOf_8 : decode cX0_firstOf 8 = .ok (.getfield 9, 3) := by decide +kernel
theorem dX0_firstOf_11 : decode cX0_firstOf 11 = .ok (.iload_n 1, 1) := by decide +kernel
theorem dX0_firstOf_12 : decode cX0_firstOf 12 = .ok (.iaload, 1) := by decide +kernel
theorem dX0_firstOf_13 : decode cX0_firstOf 13 = .ok (.goto 4, 3) := by decide +kernel
theorem dX0_firstOf_16 : decode cX0_firstOf 16 = .ok (.iconst (-1), 1) := by decide +kernel
theorem dX0_firstOf_17 : decode cX0_firstOf 17 = .ok (.ireturn, 1) := by decide +kernel
set_option maxRecDepth 20000 in
theorem ggX0_joinAlong_X0_mayJoin : GoodIn wsX0_joinAlong wsX0_mayJoin := goodIn_r _ [5, 6, 7, 8, 9, 4, 10, 11, 12, 13, 14, 24, 25, 26] (by decide +kernel) (by decide +kernel)
set_option maxRecDepth 20000 in
theorem gX0_joinAlong_X0_mayJoin : GoodIn wsX0_joinAlong (wsV RX0 56 RX0 yX0_mayJoin wsX0_mayJoin) := goodIn_app (goodIn_of _ (by decide +kernel)) ggX0_joinAlong_X0_mayJoin
set_option maxRecDepth 20000 in
theorem ggX0_joinAlong_X0_join : GoodIn wsX0_joinAlong wsX0_join := goodIn_r _ [18, 6, 11, 7, 8, 9, 4, 10, 12, 13, 14, 24, 25, 26] (by decide +kernel) (by decide +kernel)
set_option maxRecDepth 20000 in
theorem gX0_joinAlong_X0_join : GoodIn wsX0_joinAlong (wsV RX0 60 RX0 yX0_join wsX0_join) := goodIn_app (goodIn_of _ (by decide +kernel)) ggX0_joinAlong_X0_join
theorem dX0_joinAlong_0 : decode cX0_joinAlong 0 = .ok (.iconst 0, 1) := by decide +kernel
theorem dX0_joinAlong_1 : decode cX0_joinAlong 1 = .ok (.istore_n 2, 1) := by decide +kernel
theorem dX0_joinAlong_2 : decode cX0_joinAlong 2 = .ok (.iload_n 2, 1) := by decide +kernel
theorem dX0_joinAlong_3 : decode cX0_joinAlong 3 = .ok (.aload_n 1, 1) := by decide +kernel
theorem dX0_joinAlong_4 : decode cX0_joinAlong 4 = .ok (.getfield 37, 3) := by decide +kernel
theorem dX0_joinAlong_7 : decode cX0_joinAlong 7 = .ok (.if_icmp .ge 61, 3) := by decide +kernel
theorem dX0_joinAlong_10 : decode cX0_joinAlong 10 = .ok (.aload_n 1, 1) := by decide +kernel
theorem dX0_joinAlong_11 : decode cX0_joinAlong 11 = .ok (.getfield 43, 3) := by decide +kernel
theorem dX0_joinAlong_14 : decode cX0_joinAlong 14 = .ok (.iload_n 2, 1) := by decide +kernel
theorem dX0_joinAlong_15 : decode cX0_joinAlong 15 = .ok (.iaload, 1) := by decide +kernel
theorem dX0_joinAlong_16 : decode cX0_joinAlong 16 = .ok (.istore_n 3, 1) := by decide +kernel
theorem dX0_joinAlong_17 : decode cX0_joinAlong 17 = .ok (.aload_n 1, 1) := by decide +kernel
theorem dX0_joinAlong_18 : decode cX0_joinAlong 18 = .ok (.getfield 46, 3) := by decide +kernel
theorem dX0_joinAlong_21 : decode cX0_joinAlong 21 = .ok (.iload_n 2, 1) := by decide +kernel
theorem dX0_joinAlong_22 : decode cX0_joinAlong 22 = .ok (.iaload, 1) := by decide +kernel
theorem dX0_joinAlong_23 : decode cX0_joinAlong 23 = .ok (.istore 4, 2) := by decide +kernel
theorem dX0_joinAlong_25 : decode cX0_joinAlong 25 = .ok (.aload_n 1, 1) := by decide +kernel
theorem dX0_joinAlong_26 : decode cX0_joinAlong 26 = .ok (.getfield 49, 3) := by decide +kernel
theorem dX0_joinAlong_29 : decode cX0_joinAlong 29 = .ok (.iload_n 2, 1) := by decide +kernel
theorem dX0_joinAlong_30 : decode cX0_joinAlong 30 = .ok (.baload, 1) := by decide +kernel
theorem dX0_joinAlong_31 : decode cX0_joinAlong 31 = .ok (.ifCond .eq 31, 3) := by decide +kernel
theorem dX0_joinAlong_34 : decode cX0_joinAlong 34 = .ok (.aload_n 1, 1) := by decide +kernel
theorem dX0_joinAlong_35 : decode cX0_joinAlong 35 = .ok (.getfield 53, 3) := by decide +kernel
theorem dX0_joinAlong_38 : decode cX0_joinAlong 38 = .ok (.iload_n 2, 1) := by decide +kernel
theorem dX0_joinAlong_39 : decode cX0_joinAlong 39 = .ok (.laload, 1) := by decide +kernel
theorem dX0_joinAlong_40 : decode cX0_joinAlong 40 = .ok (.lconst 0, 1) := by decide +kernel
theorem dX0_joinAlong_41 : decode cX0_joinAlong 41 = .ok (.lcmp, 1) := by decide +kernel
theorem dX0_joinAlong_42 : decode cX0_joinAlong 42 = .ok (.ifCond .le 20, 3) := by decide +kernel
theorem dX0_joinAlong_45 : decode cX0_joinAlong 45 = .ok (.aload_n 0, 1) := by decide +kernel
theorem dX0_joinAlong_46 : decode cX0_joinAlong 46 = .ok (.iload_n 3, 1) := by decide +kernel
theorem dX0_joinAlong_47 : decode cX0_joinAlong 47 = .ok (.iload 4, 2) := by decide +kernel
theorem dX0_joinAlong_49 : decode cX0_joinAlong 49 = .ok (.invokevirtual 56, 3) := by decide +kernel
theorem dX0_joinAlong_52 : decode cX0_joinAlong 52 = .ok (.ifCond .eq 10, 3) := by decide +kernel
theorem dX0_joinAlong_55 : decode cX0_joinAlong 55 = .ok (.aload_n 0, 1) := by decide +kernel
theorem dX0_joinAlong_56 : decode cX0_joinAlong 56 = .ok (.iload_n 3, 1) := by decide +kernel
theorem dX0_joinAlong_57 : decode cX0_joinAlong 57 = .ok (.iload 4, 2) := by decide +kernel
theorem dX0_joinAlong_59 : decode cX0_joinAlong 59 = .ok (.invokevirtual 60, 3) := by decide +kernel
theorem dX0_joinAlong_62 : decode cX0_joinAlong 62 = .ok (.iinc 2 1, 3) := by decide +kernel
theorem dX0_joinAlong_65 : decode cX0_joinAlong 65 = .ok (.goto (-63), 3) := by decide +kernel
theorem dX0_joinAlong_68 : decode cX0_joinAlong 68 = .ok (.return_, 1) := by decide +kernel
set_option maxRecDepth 20000 in
theorem ggX0_lineUp_X1_empty : GoodIn wsX0_lineUp wsX1_empty := goodIn_r _ [6, 7, 8, 9, 10, 11, 12, 58, 59, 60] (by decide +kernel) (by decide +kernel)
set_option maxRecDepth 20000 in
theorem gX0_lineUp_X1_empty : GoodIn wsX0_lineUp (wsV RX0 64 RX1 yX1_empty wsX1_empty) := goodIn_app (goodIn_of _ (by decide +kernel)) ggX0_lineUp_X1_empty
set_option maxRecDepth 20000 in
theorem ggX0_lineUp_J7_fill_d0a16 : GoodIn wsX0_lineUp wsJ7_fill_d0a16 := goodIn_r _ [15] (by decide +kernel) (by decide +kernel)
set_option maxRecDepth 20000 in
theorem gX0_lineUp_J7_fill_d0a16 : GoodIn wsX0_lineUp (va_wsS RX0 67 yJ7_fill_d0a16 wsJ7_fill_d0a16) := goodIn_app (goodIn_of _ (by decide +kernel)) ggX0_lineUp_J7_fill_d0a16
set_option maxRecDepth 20000 in
theorem ggX0_lineUp_X0_mostPulled : GoodIn wsX0_lineUp wsX0_mostPulled := goodIn_r _ [20, 21, 22, 23, 5, 24, 7, 25, 26, 27, 28, 29, 8, 30, 31, 32, 33, 34, 35, 19, 36, 37, 38, 39, 40, 41, 1, 58, 59, 60, 55, 56, 57] (by decide +kernel) (by decide +kernel)
set_option maxRecDepth 20000 in
theorem gX0_lineUp_X0_mostPulled : GoodIn wsX0_lineUp (wsV RX0 73 RX0 yX0_mostPulled wsX0_mostPulled) := goodIn_app (goodIn_of _ (by decide +kernel)) ggX0_lineUp_X0_mostPulled
set_option maxRecDepth 20000 in
theorem ggX0_lineUp_X0_appendChain : GoodIn wsX0_lineUp wsX0_appendChain := goodIn_r _ [45, 46, 30, 31, 32, 47, 48, 49, 5, 50, 7, 25, 8, 55, 56, 57, 58, 59, 60] (by decide +kernel) (by decide +kernel)
set_option maxRecDepth 20000 in
theorem gX0_lineUp_X0_appendChain : GoodIn wsX0_lineUp (wsV RX0 77 RX0 yX0_appendChain wsX0_appendChain) := goodIn_app (goodIn_of _ (by decide +kernel)) ggX0_lineUp_X0_appendChain
set_option maxRecDepth 20000 in
theorem ggX0_lineUp_X0_pullTowards : GoodIn wsX0_lineUp wsX0_pullTowards := goodIn_r _ [54, 1, 33, 34, 35, 19, 36, 37, 30, 31, 32, 61, 62, 63, 64, 65, 55, 56, 57] (by decide +kernel) (by decide +kernel)
set_option maxRecDepth 20000 in
theorem gX0_lineUp_X0_pullTowards : GoodIn wsX0_lineUp (wsV RX0 81 RX0 yX0_pullTowards wsX0_pullTowards) := goodIn_app (goodIn_of _ (by decide +kernel)) ggX0_lineUp_X0_pullTowards
theorem dX0_lineUp_0 : decode cX0_lineUp 0 = .ok (.aload_n 3, 1) := by decide +kernel
theorem dX0_lineUp_1 : decode cX0_lineUp 1 = .ok (.invokevirtual 64, 3) := by decide +kernel
theorem dX0_lineUp_4 : decode cX0_lineUp 4 = .ok (.aload_n 0, 1) := by decide +kernel
theorem dX0_lineUp_5 : decode cX0_lineUp 5 = .ok (.getfield 18, 3) := by decide +kernel
theorem dX0_lineUp_8 : decode cX0_lineUp 8 = .ok (.lconst 0, 1) := by decide +kernel
theorem dX0_lineUp_9 : decode cX0_lineUp 9 = .ok (.invokestatic 67, 3) := by decide +kernel
theorem dX0_lineUp_12 : decode cX0_lineUp 12 = .ok (.iconst 0, 1) := by decide +kernel
theorem dX0_lineUp_13 : decode cX0_lineUp 13 = .ok (.istore 4, 2) := by decide +kernel
theorem dX0_lineUp_15 : decode cX0_lineUp 15 = .ok (.iload 4, 2) := by decide +kernel
theorem dX0_lineUp_17 : decode cX0_lineUp 17 = .ok (.sipush 200, 3) := by decide +kernel
theorem dX0_lineUp_20 : decode cX0_lineUp 20 = .ok (.if_icmp .ge 49, 3) := by decide +kernel
theorem dX0_lineUp_23 : decode cX0_lineUp 23 = .ok (.aload_n 3, 1) := by decide +kernel
theorem dX0_lineUp_24 : decode cX0_lineUp 24 = .ok (.getfield 70, 3) := by decide +kernel
theorem dX0_lineUp_27 : decode cX0_lineUp 27 = .ok (.aload_n 1, 1) := by decide +kernel
theorem dX0_lineUp_28 : decode cX0_lineUp 28 = .ok (.getfield 70, 3) := by decide +kernel
theorem dX0_lineUp_31 : decode cX0_lineUp 31 = .ok (.if_icmp .ge 38, 3) := by decide +kernel
theorem dX0_lineUp_34 : decode cX0_lineUp 34 = .ok (.aload_n 0, 1) := by decide +kernel
theorem dX0_lineUp_35 : decode cX0_lineUp 35 = .ok (.aload_n 1, 1) := by decide +kernel
theorem dX0_lineUp_36 : decode cX0_lineUp 36 = .ok (.aload_n 3, 1) := by decide +kernel
theorem dX0_lineUp_37 : decode cX0_lineUp 37 = .ok (.invokevirtual 73, 3) := by decide +kernel
theorem dX0_lineUp_40 : decode cX0_lineUp 40 = .ok (.istore 5, 2) := by decide +kernel
theorem dX0_lineUp_42 : decode cX0_lineUp 42 = .ok (.iload 5, 2) := by decide +kernel
theorem dX0_lineUp_44 : decode cX0_lineUp 44 = .ok (.iconst (-1), 1) := by decide +kernel
theorem dX0_lineUp_45 : decode cX0_lineUp 45 = .ok (.if_icmp .ne 4, 3) := by decide +kernel
theorem dX0_lineUp_48 : decode cX0_lineUp 48 = .ok (.return_, 1) := by decide +kernel
theorem dX0_lineUp_49 : decode cX0_lineUp 49 = .ok (.aload_n 0, 1) := by decide +kernel
theorem dX0_lineUp_50 : decode cX0_lineUp 50 = .ok (.iload 5, 2) := by decide +kernel
theorem dX0_lineUp_52 : decode cX0_lineUp 52 = .ok (.aload_n 3, 1) := by decide +kernel
theorem dX0_lineUp_53 : decode cX0_lineUp 53 = .ok (.invokevirtual 77, 3) := by decide +kernel
theorem dX0_lineUp_56 : decode cX0_lineUp 56 = .ok (.aload_n 0, 1) := by decide +kernel
theorem dX0_lineUp_57 : decode cX0_lineUp 57 = .ok (.iload 5, 2) := by decide +kernel
theorem dX0_lineUp_59 : decode cX0_lineUp 59 = .ok (.aload_n 2, 1) := by decide +kernel
theorem dX0_lineUp_60 : decode cX0_lineUp 60 = .ok (.invokevirtual 81, 3) := by decide +kernel
theorem dX0_lineUp_63 : decode cX0_lineUp 63 = .ok (.iinc 4 1, 3) := by decide +kernel
theorem dX0_lineUp_66 : decode cX0_lineUp 66 = .ok (.goto (-51), 3) := by decide +kernel
theorem dX0_lineUp_69 : decode cX0_lineUp 69 = .ok (.return_, 1) := by decide +kernel
set_option maxRecDepth 20000 in
theorem ggX0_mayJoin_X0_firstOf : GoodIn wsX0_mayJoin wsX0_firstOf := goodIn_r _ [6, 7, 8, 9, 10, 11, 12, 13] (by decide +kernel) (by decide +kernel)
set_option maxRecDepth 20000 in
theorem gX0_mayJoin_X0_firstOf : GoodIn wsX0_mayJoin (wsV RX0 85 RX0 yX0_firstOf wsX0_firstOf) := goodIn_app (goodIn_of _ (by decide +kernel)) ggX0_mayJoin_X0_firstOf
theorem dX0_mayJoin_0 : decode cX0_mayJoin 0 = .ok (.aload_n 0, 1) := by decide +kernel
theorem dX0_mayJoin_1 : decode cX0_mayJoin 1 = .ok (.iload_n 1, 1) := by decide +kernel
theorem dX0_mayJoin_2 : decode cX0_mayJoin 2 = .ok (.invokevirtual 85, 3) := by decide +kernel
theorem dX0_mayJoin_5 : decode cX0_mayJoin 5 = .ok (.iconst (-1), 1) := by decide +kernel
theorem dX0_mayJoin_6 : decode cX0_mayJoin 6 = .ok (.if_icmp .eq 17, 3) := by decide +kernel
theorem dX0_mayJoin_9 : decode cX0_mayJoin 9 = .ok (.aload_n 0, 1) := by decide +kernel
theorem dX0_mayJoin_10 : decode cX0_mayJoin 10 = .ok (.getfield 15, 3) := by decide +kernel
theorem dX0_mayJoin_13 : decode cX0_mayJoin 13 = .ok (.iload_n 1, 1) := by decide +kernel
theorem dX0_mayJoin_14 : decode cX0_mayJoin 14 = .ok (.iaload, 1) := by decide +kernel
theorem dX0_mayJoin_15 : decode cX0_mayJoin 15 = .ok (.iconst (-1), 1) := by decide +kernel
theorem dX0_mayJoin_16 : decode cX0_mayJoin 16 = .ok (.if_icmp .ne 7, 3) := by decide +kernel
theorem dX0_mayJoin_19 : decode cX0_mayJoin 19 = .ok (.iconst 1, 1) := by decide +kernel
theorem dX0_mayJoin_20 : decode cX0_mayJoin 20 = .ok (.goto 4, 3) := by decide +kernel
theorem dX0_mayJoin_23 : decode cX0_mayJoin 23 = .ok (.iconst 0, 1) := by decide +kernel
theorem dX0_mayJoin_24 : decode cX0_mayJoin 24 = .ok (.istore_n 3, 1) := by decide +kernel
theorem dX0_mayJoin_25 : decode cX0_mayJoin 25 = .ok (.aload_n 0, 1) := by decide +kernel
theorem dX0_mayJoin_26 : decode cX0_mayJoin 26 = .ok (.iload_n 2, 1) := by decide +kernel
theorem dX0_mayJoin_27 : decode cX0_mayJoin 27 = .ok (.invokevirtual 85, 3) := by decide +kernel
theorem dX0_mayJoin_30 : decode cX0_mayJoin 30 = .ok (.iload_n 2, 1) := by decide +kernel
theorem dX0_mayJoin_31 : decode cX0_mayJoin 31 = .ok (.if_icmp .ne 7, 3) := by decide +kernel
theorem dX0_mayJoin_34 : decode cX0_mayJoin 34 = .ok (.iconst 1, 1) := by decide +kernel
theorem dX0_mayJoin_35 : decode cX0_mayJoin 35 = .ok (.goto 4, 3) := by decide +kernel
theorem dX0_mayJoin_38 : decode cX0_mayJoin 38 = .ok (.iconst 0, 1) := by decide +kernel
theorem dX0_mayJoin_39 : decode cX0_mayJoin 39 = .ok (.istore 4, 2) := by decide +kernel
theorem dX0_mayJoin_41 : decode cX0_mayJoin 41 = .ok (.iload_n 3, 1) := by decide +kernel
theorem dX0_mayJoin_42 : decode cX0_mayJoin 42 = .ok (.ifCond .eq 25, 3) := by decide +kernel
theorem dX0_mayJoin_45 : decode cX0_mayJoin 45 = .ok (.iload 4, 2) := by decide +kernel
theorem dX0_mayJoin_47 : decode cX0_mayJoin 47 = .ok (.ifCond .eq 20, 3) := by decide +kernel
theorem dX0_mayJoin_50 : decode cX0_mayJoin 50 = .ok (.aload_n 0, 1) := by decide +kernel
theorem dX0_mayJoin_51 : decode cX0_mayJoin 51 = .ok (.iload_n 1, 1) := by decide +kernel
theorem dX0_mayJoin_52 : decode cX0_mayJoin 52 = .ok (.invokevirtual 85, 3) := by decide +kernel
theorem dX0_mayJoin_55 : decode cX0_mayJoin 55 = .ok (.iload_n 2, 1) := by decide +kernel
theorem dX0_mayJoin_56 : decode cX0_mayJoin 56 = .ok (.if_icmp .eq 11, 3) := by decide +kernel
theorem dX0_mayJoin_59 : decode cX0_mayJoin 59 = .ok (.iload_n 2, 1) := by decide +kernel
theorem dX0_mayJoin_60 : decode cX0_mayJoin 60 = .ok (.ifCond .eq 7, 3) := by decide +kernel
theorem dX0_mayJoin_63 : decode cX0_mayJoin 63 = .ok (.iconst 1, 1) := by decide +kernel
theorem dX0_mayJoin_64 : decode cX0_mayJoin 64 = .ok (.goto 4, 3) := by decide +kernel
theorem dX0_mayJoin_67 : decode cX0_mayJoin 67 = .ok (.iconst 0, 1) := by decide +kernel
theorem dX0_mayJoin_68 : decode cX0_mayJoin 68 = .ok (.ireturn, 1) := by decide +kernel
set_option maxRecDepth 20000 in
theorem ggX0_join_X0_firstOf : GoodIn wsX0_join wsX0_firstOf := goodIn_r _ [7, 2, 8, 9, 10, 11, 12, 13] (by decide +kernel) (by decide +kernel)
set_option maxRecDepth 20000 in
theorem gX0_join_X0_firstOf : GoodIn wsX0_join (wsV RX0 85 RX0 yX0_firstOf wsX0_firstOf) := goodIn_app (goodIn_of _ (by decide +kernel)) ggX0_join_X0_firstOf
set_option maxRecDepth 20000 in
theorem ggX0_join_X3_fitsRows : GoodIn wsX0_join wsX3_fitsRows := goodIn_r _ [10] (by decide +kernel) (by decide +kernel)
set_option maxRecDepth 20000 in
theorem gX0_join_X3_fitsRows_n34 : GoodIn wsX0_join (wsX3_fitsRows) := ggX0_join_X3_fitsRows
theorem dX0_join_0 : decode cX0_join 0 = .ok (.aload_n 0, 1) := by decide +kernel
theorem dX0_join_1 : decode cX0_join 1 = .ok (.iload_n 1, 1) := by decide +kernel
theorem dX0_join_2 : decode cX0_join 2 = .ok (.invokevirtual 85, 3) := by decide +kernel
theorem dX0_join_5 : decode cX0_join 5 = .ok (.istore_n 3, 1) := by decide +kernel
theorem dX0_join_6 : decode cX0_join 6 = .ok (.aload_n 0, 1) := by decide +kernel
theorem dX0_join_7 : decode cX0_join 7 = .ok (.getfield 15, 3) := by decide +kernel
theorem dX0_join_10 : decode cX0_join 10 = .ok (.iload_n 1, 1) := by decide +kernel
theorem dX0_join_11 : decode cX0_join 11 = .ok (.iload_n 2, 1) := by decide +kernel
theorem dX0_join_12 : decode cX0_join 12 = .ok (.iastore, 1) := by decide +kernel
theorem dX0_join_13 : decode cX0_join 13 = .ok (.iload_n 2, 1) := by decide +kernel
theorem dX0_join_14 : decode cX0_join 14 = .ok (.istore 4, 2) := by decide +kernel
theorem dX0_join_16 : decode cX0_join 16 = .ok (.iconst 0, 1) := by decide +kernel
theorem dX0_join_17 : decode cX0_join 17 = .ok (.istore 5, 2) := by decide +kernel
theorem dX0_join_19 : decode cX0_join 19 = .ok (.iload 5, 2) := by decide +kernel
theorem dX0_join_21 : decode cX0_join 21 = .ok (.sipush 200, 3) := by decide +kernel
theorem dX0_join_24 : decode cX0_join 24 = .ok (.if_icmp .ge 34, 3) := by decide +kernel
theorem dX0_join_27 : decode cX0_join 27 = .ok (.iload 4, 2) := by decide +kernel
theorem dX0_join_29 : decode cX0_join 29 = .ok (.invokestatic 34, 3) := by decide +kernel
theorem dX0_join_32 : decode cX0_join 32 = .ok (.ifCond .eq 26, 3) := by decide +kernel
theorem dX0_join_35 : decode cX0_join 35 = .ok (.aload_n 0, 1) := by decide +kernel
theorem dX0_join_36 : decode cX0_join 36 = .ok (.getfield 9, 3) := by decide +kernel
theorem dX0_join_39 : decode cX0_join 39 = .ok (.iload 4, 2) := by decide +kernel
theorem dX0_join_41 : decode cX0_join 41 = .ok (.iload_n 3, 1) := by decide +kernel
theorem dX0_join_42 : decode cX0_join 42 = .ok (.iastore, 1) := by decide +kernel
theorem dX0_join_43 : decode cX0_join 43 = .ok (.aload_n 0, 1) := by decide +kernel
theorem dX0_join_44 : decode cX0_join 44 = .ok (.getfield 15, 3) := by decide +kernel
theorem dX0_join_47 : decode cX0_join 47 = .ok (.iload 4, 2) := by decide +kernel
theorem dX0_join_49 : decode cX0_join 49 = .ok (.iaload, 1) := by decide +kernel
theorem dX0_join_50 : decode cX0_join 50 = .ok (.istore 4, 2) := by decide +kernel
theorem dX0_join_52 : decode cX0_join 52 = .ok (.iinc 5 1, 3) := by decide +kernel
theorem dX0_join_55 : decode cX0_join 55 = .ok (.goto (-36), 3) := by decide +kernel
theorem dX0_join_58 : decode cX0_join 58 = .ok (.return_, 1) := by decide +kernel
set_option maxRecDepth 20000 in
theorem ggX0_mostPulled_X1_blockAt : GoodIn wsX0_mostPulled wsX1_blockAt := goodIn_r _ [5, 6, 7, 27, 28, 29] (by decide +kernel) (by decide +kernel)
set_option maxRecDepth 20000 in
theorem gX0_mostPulled_X1_blockAt : GoodIn wsX0_mostPulled (wsV RX0 89 RX1 yX1_blockAt wsX1_blockAt) := goodIn_app (goodIn_of _ (by decide +kernel)) ggX0_mostPulled_X1_blockAt
set_option maxRecDepth 20000 in
theorem ggX0_mostPulled_X1_holds : GoodIn wsX0_mostPulled wsX1_holds := goodIn_r _ [11, 12, 13, 14, 15, 27, 28, 29] (by decide +kernel) (by decide +kernel)
set_option maxRecDepth 20000 in
theorem gX0_mostPulled_X1_holds : GoodIn wsX0_mostPulled (wsV RX0 28 RX1 yX1_holds wsX1_holds) := goodIn_app (goodIn_of _ (by decide +kernel)) ggX0_mostPulled_X1_holds
set_option maxRecDepth 20000 in
theorem ggX0_mostPulled_X0_firstOf : GoodIn wsX0_mostPulled wsX0_firstOf := goodIn_r _ [20, 21, 13, 14, 15, 30, 31, 32] (by decide +kernel) (by decide +kernel)
set_option maxRecDepth 20000 in
theorem gX0_mostPulled_X0_firstOf : GoodIn wsX0_mostPulled (wsV RX0 85 RX0 yX0_firstOf wsX0_firstOf) := goodIn_app (goodIn_of _ (by decide +kernel)) ggX0_mostPulled_X0_firstOf
set_option maxRecDepth 20000 in
theorem ggX0_mostPulled_X0_pullOf : GoodIn wsX0_mostPulled wsX0_pullOf := goodIn_r _ [25, 26, 13, 14, 15, 30, 31, 32] (by decide +kernel) (by decide +kernel)
set_option maxRecDepth 20000 in
theorem gX0_mostPulled_X0_pullOf : GoodIn wsX0_mostPulled (wsV RX0 92 RX0 yX0_pullOf wsX0_pullOf) := goodIn_app (goodIn_of _ (by decide +kernel)) ggX0_mostPulled_X0_pullOf
theorem dX0_mostPulled_0 : decode cX0_mostPulled 0 = .ok (.iconst (-1), 1) := by decide +kernel
theorem dX0_mostPulled_1 : decode cX0_mostPulled 1 = .ok (.istore_n 3, 1) := by decide +kernel
theorem dX0_mostPulled_2 : decode cX0_mostPulled 2 = .ok (.iconst 0, 1) := by decide +kernel
theorem dX0_mostPulled_3 : decode cX0_mostPulled 3 = .ok (.istore 4, 2) := by decide +kernel
theorem dX0_mostPulled_5 : decode cX0_mostPulled 5 = .ok (.iload 4, 2) := by decide +kernel
theorem dX0_mostPulled_7 : decode cX0_mostPulled 7 = .ok (.aload_n 1, 1) := by decide +kernel
theorem dX0_mostPulled_8 : decode cX0_mostPulled 8 = .ok (.getfield 70, 3) := by decide +kernel
theorem dX0_mostPulled_11 : decode cX0_mostPulled 11 = .ok (.if_icmp .ge 57, 3) := by decide +kernel
theorem dX0_mostPulled_14 : decode cX0_mostPulled 14 = .ok (.aload_n 1, 1) := by decide +kernel
theorem dX0_mostPulled_15 : decode cX0_mostPulled 15 = .ok (.iload 4, 2) := by decide +kernel
theorem dX0_mostPulled_17 : decode cX0_mostPulled 17 = .ok (.invokevirtual 89, 3) := by decide +kernel
theorem dX0_mostPulled_20 : decode cX0_mostPulled 20 = .ok (.istore 5, 2) := by decide +kernel
theorem dX0_mostPulled_22 : decode cX0_mostPulled 22 = .ok (.aload_n 2, 1) := by decide +kernel
theorem dX0_mostPulled_23 : decode cX0_mostPulled 23 = .ok (.iload 5, 2) := by decide +kernel
theorem dX0_mostPulled_25 : decode cX0_mostPulled 25 = .ok (.invokevirtual 28, 3) := by decide +kernel
theorem dX0_mostPulled_28 : decode cX0_mostPulled 28 = .ok (.ifCond .ne 34, 3) := by decide +kernel
theorem dX0_mostPulled_31 : decode cX0_mostPulled 31 = .ok (.iload_n 3, 1) := by decide +kernel
theorem dX0_mostPulled_32 : decode cX0_mostPulled 32 = .ok (.iconst (-1), 1) := by decide +kernel
theorem dX0_mostPulled_33 : decode cX0_mostPulled 33 = .ok (.if_icmp .eq 22, 3) := by decide +kernel
theorem dX0_mostPulled_36 : decode cX0_mostPulled 36 = .ok (.aload_n 0, 1) := by decide +kernel
theorem dX0_mostPulled_37 : decode cX0_mostPulled 37 = .ok (.aload_n 0, 1) := by decide +kernel
theorem dX0_mostPulled_38 : decode cX0_mostPulled 38 = .ok (.iload 5, 2) := by decide +kernel
theorem dX0_mostPulled_40 : decode cX0_mostPulled 40 = .ok (.invokevirtual 85, 3) := by decide +kernel
theorem dX0_mostPulled_43 : decode cX0_mostPulled 43 = .ok (.invokevirtual 92, 3) := by decide +kernel
theorem dX0_mostPulled_46 : decode cX0_mostPulled 46 = .ok (.aload_n 0, 1) := by decide +kernel
theorem dX0_mostPulled_47 : decode cX0_mostPulled 47 = .ok (.iload_n 3, 1) := by decide +kernel
theorem dX0_mostPulled_48 : decode cX0_mostPulled 48 = .ok (.invokevirtual 92, 3) := by decide +kernel
theorem dX0_mostPulled_51 : decode cX0_mostPulled 51 = .ok (.lcmp, 1) := by decide +kernel
theorem dX0_mostPulled_52 : decode cX0_mostPulled 52 = .ok (.ifCond .le 10, 3) := by decide +kernel
theorem dX0_mostPulled_55 : decode cX0_mostPulled 55 = .ok (.aload_n 0, 1) := by decide +kernel
theorem dX0_mostPulled_56 : decode cX0_mostPulled 56 = .ok (.iload 5, 2) := by decide +kernel
theorem dX0_mostPulled_58 : decode cX0_mostPulled 58 = .ok (.invokevirtual 85, 3) := by decide +kernel
theorem dX0_mostPulled_61 : decode cX0_mostPulled 61 = .ok (.istore_n 3, 1) := by decide +kernel
theorem dX0_mostPulled_62 : decode cX0_mostPulled 62 = .ok (.iinc 4 1, 3) := by decide +kernel
theorem dX0_mostPulled_65 : decode cX0_mostPulled 65 = .ok (.goto (-60), 3) := by decide +kernel
theorem dX0_mostPulled_68 : decode cX0_mostPulled 68 = .ok (.iload_n 3, 1) := by decide +kernel
theorem dX0_mostPulled_69 : decode cX0_mostPulled 69 = .ok (.ireturn, 1) := by decide +kernel
set_option maxRecDepth 20000 in
theorem ggX0_pullOf_X3_fitsRows : GoodIn wsX0_pullOf wsX3_fitsRows := goodIn_r _ [4] (by decide +kernel) (by decide +kernel)
set_option maxRecDepth 20000 in
theorem gX0_pullOf_X3_fitsRows_n34 : GoodIn wsX0_pullOf (wsX3_fitsRows) := ggX0_pullOf_X3_fitsRows
theorem dX0_pullOf_0 : decode cX0_pullOf 0 = .ok (.iload_n 1, 1) := by decide +kernel
theorem dX0_pullOf_1 : decode cX0_pullOf 1 = .ok (.invokestatic 34, 3) := by decide +kernel
theorem dX0_pullOf_4 : decode cX0_pullOf 4 = .ok (.ifCond .eq 12, 3) := by decide +kernel
theorem dX0_pullOf_7 : decode cX0_pullOf 7 = .ok (.aload_n 0, 1) := by decide +kernel
theorem dX0_pullOf_8 : decode cX0_pullOf 8 = .ok (.getfield 18, 3) := by decide +kernel
theorem dX0_pullOf_11 : decode cX0_pullOf 11 = .ok (.iload_n 1, 1) := by decide +kernel
theorem dX0_pullOf_12 : decode cX0_pullOf 12 = .ok (.laload, 1) := by decide +kernel
theorem dX0_pullOf_13 : decode cX0_pullOf 13 = .ok (.goto 4, 3) := by decide +kernel
theorem dX0_pullOf_16 : decode cX0_pullOf 16 = .ok (.lconst 0, 1) := by decide +kernel
theorem dX0_pullOf_17 : decode cX0_pullOf 17 = .ok (.lreturn, 1) := by decide +kernel
set_option maxRecDepth 20000 in
theorem ggX0_appendChain_X3_fitsRows : GoodIn wsX0_appendChain wsX3_fitsRows := goodIn_r _ [4] (by decide +kernel) (by decide +kernel)
set_option maxRecDepth 20000 in
theorem gX0_appendChain_X3_fitsRows_n34 : GoodIn wsX0_appendChain (wsX3_fitsRows) := ggX0_appendChain_X3_fitsRows
set_option maxRecDepth 20000 in
theorem ggX0_appendChain_X1_append : GoodIn wsX0_appendChain wsX1_append := goodIn_r _ [9, 10, 11, 12, 2, 3, 4, 16, 17, 18] (by decide +kernel) (by decide +kernel)
set_option maxRecDepth 20000 in
theorem gX0_appendChain_X1_append : GoodIn wsX0_appendChain (wsV RX0 96 RX1 yX1_append wsX1_append) := goodIn_app (goodIn_of _ (by decide +kernel)) ggX0_appendChain_X1_append
theorem dX0_appendChain_0 : decode cX0_appendChain 0 = .ok (.iload_n 1, 1) := by decide +kernel
theorem dX0_appendChain_1 : decode cX0_appendChain 1 = .ok (.istore_n 3, 1) := by decide +kernel
theorem dX0_appendChain_2 : decode cX0_appendChain 2 = .ok (.iconst 0, 1) := by decide +kernel
theorem dX0_appendChain_3 : decode cX0_appendChain 3 = .ok (.istore 4, 2) := by decide +kernel
theorem dX0_appendChain_5 : decode cX0_appendChain 5 = .ok (.iload 4, 2) := by decide +kernel
theorem dX0_appendChain_7 : decode cX0_appendChain 7 = .ok (.sipush 200, 3) := by decide +kernel
theorem dX0_appendChain_10 : decode cX0_appendChain 10 = .ok (.if_icmp .ge 28, 3) := by decide +kernel
theorem dX0_appendChain_13 : decode cX0_appendChain 13 = .ok (.iload_n 3, 1) := by decide +kernel
theorem dX0_appendChain_14 : decode cX0_appendChain 14 = .ok (.invokestatic 34, 3) := by decide +kernel
theorem dX0_appendChain_17 : decode cX0_appendChain 17 = .ok (.ifCond .eq 21, 3) := by decide +kernel
theorem dX0_appendChain_20 : decode cX0_appendChain 20 = .ok (.aload_n 2, 1) := by decide +kernel
theorem dX0_appendChain_21 : decode cX0_appendChain 21 = .ok (.iload_n 3, 1) := by decide +kernel
theorem dX0_appendChain_22 : decode cX0_appendChain 22 = .ok (.invokevirtual 96, 3) := by decide +kernel
theorem dX0_appendChain_25 : decode cX0_appendChain 25 = .ok (.aload_n 0, 1) := by decide +kernel
theorem dX0_appendChain_26 : decode cX0_appendChain 26 = .ok (.getfield 15, 3) := by decide +kernel
theorem dX0_appendChain_29 : decode cX0_appendChain 29 = .ok (.iload_n 3, 1) := by decide +kernel
theorem dX0_appendChain_30 : decode cX0_appendChain 30 = .ok (.iaload, 1) := by decide +kernel
theorem dX0_appendChain_31 : decode cX0_appendChain 31 = .ok (.istore_n 3, 1) := by decide +kernel
theorem dX0_appendChain_32 : decode cX0_appendChain 32 = .ok (.iinc 4 1, 3) := by decide +kernel
theorem dX0_appendChain_35 : decode cX0_appendChain 35 = .ok (.goto (-30), 3) := by decide +kernel
theorem dX0_appendChain_38 : decode cX0_appendChain 38 = .ok (.return_, 1) := by decide +kernel
set_option maxRecDepth 20000 in
theorem ggX0_pullTowards_X0_firstOf : GoodIn wsX0_pullTowards wsX0_firstOf := goodIn_r _ [6, 7, 8, 9, 10, 16, 17, 18] (by decide +kernel) (by decide +kernel)
set_option maxRecDepth 20000 in
theorem gX0_pullTowards_X0_firstOf : GoodIn wsX0_pullTowards (wsV RX0 85 RX0 yX0_firstOf wsX0_firstOf) := goodIn_app (goodIn_of _ (by decide +kernel)) ggX0_pullTowards_X0_firstOf
set_option maxRecDepth 20000 in
theorem ggX0_pullTowards_X3_fitsRows : GoodIn wsX0_pullTowards wsX3_fitsRows := goodIn_r _ [10] (by decide +kernel) (by decide +kernel)
set_option maxRecDepth 20000 in
theorem gX0_pullTowards_X3_fitsRows_n34 : GoodIn wsX0_pullTowards (wsX3_fitsRows) := ggX0_pullTowards_X3_fitsRows
theorem dX0_pullTowards_0 : decode cX0_pullTowards 0 = .ok (.iconst 0, 1) := by decide +kernel
theorem dX0_pullTowards_1 : decode cX0_pullTowards 1 = .ok (.istore_n 3, 1) := by decide +kernel
theorem dX0_pullTowards_2 : decode cX0_pullTowards 2 = .ok (.iload_n 3, 1) := by decide +kernel
theorem dX0_pullTowards_3 : decode cX0_pullTowards 3 = .ok (.aload_n 2, 1) := by decide +kernel
theorem dX0_pullTowards_4 : decode cX0_pullTowards 4 = .ok (.getfield 37, 3) := by decide +kernel
theorem dX0_pullTowards_7 : decode cX0_pullTowards 7 = .ok (.if_icmp .ge 93, 3) := by decide +kernel
theorem dX0_pullTowards_10 : decode cX0_pullTowards 10 = .ok (.aload_n 0, 1) := by decide +kernel
theorem dX0_pullTowards_11 : decode cX0_pullTowards 11 = .ok (.aload_n 2, 1) := by decide +kernel
theorem dX0_pullTowards_12 : decode cX0_pullTowards 12 = .ok (.getfield 43, 3) := by decide +kernel
theorem dX0_pullTowards_15 : decode cX0_pullTowards 15 = .ok (.iload_n 3, 1) := by decide +kernel
theorem dX0_pullTowards_16 : decode cX0_pullTowards 16 = .ok (.iaload, 1) := by decide +kernel
theorem dX0_pullTowards_17 : decode cX0_pullTowards 17 = .ok (.invokevirtual 85, 3) := by decide +kernel
theorem dX0_pullTowards_20 : decode cX0_pullTowards 20 = .ok (.istore 4, 2) := by decide +kernel
theorem dX0_pullTowards_22 : decode cX0_pullTowards 22 = .ok (.aload_n 0, 1) := by decide +kernel
theorem dX0_pullTowards_23 : decode cX0_pullTowards 23 = .ok (.aload_n 2, 1) := by decide +kernel
theorem dX0_pullTowards_24 : decode cX0_pullTowards 24 = .ok (.getfield 46, 3) := by decide +kernel
theorem dX0_pullTowards_27 : decode cX0_pullTowards 27 = .ok (.iload_n 3, 1) := by decide +kernel
theorem dX0_pullTowards_28 : decode cX0_pullTowards 28 = .ok (.iaload, 1) := by decide +kernel
theorem dX0_pullTowards_29 : decode cX0_pullTowards 29 = .ok (.invokevirtual 85, 3) := by decide +kernel
theorem dX0_pullTowards_32 : decode cX0_pullTowards 32 = .ok (.istore 5, 2) := by decide +kernel
theorem dX0_pullTowards_34 : decode cX0_pullTowards 34 = .ok (.iload 4, 2) := by decide +kernel
theorem dX0_pullTowards_36 : decode cX0_pullTowards 36 = .ok (.iload_n 1, 1) := by decide +kernel
theorem dX0_pullTowards_37 : decode cX0_pullTowards 37 = .ok (.if_icmp .ne 27, 3) := by decide +kernel
theorem dX0_pullTowards_40 : decode cX0_pullTowards 40 = .ok (.iload 5, 2) := by decide +kernel
theorem dX0_pullTowards_42 : decode cX0_pullTowards 42 = .ok (.invokestatic 34, 3) := by decide +kernel
theorem dX0_pullTowards_45 : decode cX0_pullTowards 45 = .ok (.ifCond .eq 19, 3) := by decide +kernel
theorem dX0_pullTowards_48 : decode cX0_pullTowards 48 = .ok (.aload_n 0, 1) := by decide +kernel
theorem dX0_pullTowards_49 : decode cX0_pullTowards 49 = .ok (.getfield 18, 3) := by decide +kernel
theorem dX0_pullTowards_52 : decode cX0_pullTowards 52 = .ok (.iload 5, 2) := by decide +kernel
theorem dX0_pullTowards_54 : decode cX0_pullTowards 54 = .ok (.dup2, 1) := by decide +kernel
theorem dX0_pullTowards_55 : decode cX0_pullTowards 55 = .ok (.laload, 1) := by decide +kernel
theorem dX0_pullTowards_56 : decode cX0_pullTowards 56 = .ok (.aload_n 2, 1) := by decide +kernel
theorem dX0_pullTowards_57 : decode cX0_pullTowards 57 = .ok (.getfield 53, 3) := by decide +kernel
theorem dX0_pullTowards_60 : decode cX0_pullTowards 60 = .ok (.iload_n 3, 1) := by decide +kernel
theorem dX0_pullTowards_61 : decode cX0_pullTowards 61 = .ok (.laload, 1) := by decide +kernel
theorem dX0_pullTowards_62 : decode cX0_pullTowards 62 = .ok (.ladd, 1) := by decide +kernel
theorem dX0_pullTowards_63 : decode cX0_pullTowards 63 = .ok (.lastore, 1) := by decide +kernel
theorem dX0_pullTowards_64 : decode cX0_pullTowards 64 = .ok (.iload 5, 2) := by decide +kernel
theorem dX0_pullTowards_66 : decode cX0_pullTowards 66 = .ok (.iload_n 1, 1) := by decide +kernel
theorem dX0_pullTowards_67 : decode cX0_pullTowards 67 = .ok (.if_icmp .ne 27, 3) := by decide +kernel
theorem dX0_pullTowards_70 : decode cX0_pullTowards 70 = .ok (.iload 4, 2) := by decide +kernel
theorem dX0_pullTowards_72 : decode cX0_pullTowards 72 = .ok (.invokestatic 34, 3) := by decide +kernel
theorem dX0_pullTowards_75 : decode cX0_pullTowards 75 = .ok (.ifCond .eq 19, 3) := by decide +kernel
theorem dX0_pullTowards_78 : decode cX0_pullTowards 78 = .ok (.aload_n 0, 1) := by decide +kernel
theorem dX0_pullTowards_79 : decode cX0_pullTowards 79 = .ok (.getfield 18, 3) := by decide +kernel
theorem dX0_pullTowards_82 : decode cX0_pullTowards 82 = .ok (.iload 4, 2) := by decide +kernel
theorem dX0_pullTowards_84 : decode cX0_pullTowards 84 = .ok (.dup2, 1) := by decide +kernel
theorem dX0_pullTowards_85 : decode cX0_pullTowards 85 = .ok (.laload, 1) := by decide +kernel
theorem dX0_pullTowards_86 : decode cX0_pullTowards 86 = .ok (.aload_n 2, 1) := by decide +kernel
theorem dX0_pullTowards_87 : decode cX0_pullTowards 87 = .ok (.getfield 53, 3) := by decide +kernel
theorem dX0_pullTowards_90 : decode cX0_pullTowards 90 = .ok (.iload_n 3, 1) := by decide +kernel
theorem dX0_pullTowards_91 : decode cX0_pullTowards 91 = .ok (.laload, 1) := by decide +kernel
theorem dX0_pullTowards_92 : decode cX0_pullTowards 92 = .ok (.ladd, 1) := by decide +kernel
theorem dX0_pullTowards_93 : decode cX0_pullTowards 93 = .ok (.lastore, 1) := by decide +kernel
theorem dX0_pullTowards_94 : decode cX0_pullTowards 94 = .ok (.iinc 3 1, 3) := by decide +kernel
theorem dX0_pullTowards_97 : decode cX0_pullTowards 97 = .ok (.goto (-95), 3) := by decide +kernel
theorem dX0_pullTowards_100 : decode cX0_pullTowards 100 = .ok (.return_, 1) := by decide +kernel
theorem dX1_init_0 : decode cX1_init 0 = .ok (.aload_n 0, 1) := by decide +kernel
theorem dX1_init_1 : decode cX1_init 1 = .ok (.invokespecial 3, 3) := by decide +kernel
theorem dX1_init_4 : decode cX1_init 4 = .ok (.aload_n 0, 1) := by decide +kernel
theorem dX1_init_5 : decode cX1_init 5 = .ok (.sipush 200, 3) := by decide +kernel
theorem dX1_init_8 : decode cX1_init 8 = .ok (.newarray .int, 2) := by decide +kernel
theorem dX1_init_10 : decode cX1_init 10 = .ok (.putfield 9, 3) := by decide +kernel
theorem dX1_init_13 : decode cX1_init 13 = .ok (.aload_n 0, 1) := by decide +kernel
theorem dX1_init_14 : decode cX1_init 14 = .ok (.sipush 200, 3) := by decide +kernel
theorem dX1_init_17 : decode cX1_init 17 = .ok (.newarray .int, 2) := by decide +kernel
theorem dX1_init_19 : decode cX1_init 19 = .ok (.putfield 15, 3) := by decide +kernel
theorem dX1_init_22 : decode cX1_init 22 = .ok (.return_, 1) := by decide +kernel
set_option maxRecDepth 20000 in
theorem ggX1_empty_J7_fill_53178 : GoodIn wsX1_empty wsJ7_fill_53178 := goodIn_r _ [6] (by decide +kernel) (by decide +kernel)
set_option maxRecDepth 20000 in
theorem gX1_empty_J7_fill_53178 : GoodIn wsX1_empty (va_wsS RX1 22 yJ7_fill_53178 wsJ7_fill_53178) := goodIn_app (goodIn_of _ (by decide +kernel)) ggX1_empty_J7_fill_53178
theorem dX1_empty_0 : decode cX1_empty 0 = .ok (.aload_n 0, 1) := by decide +kernel
theorem dX1_empty_1 : decode cX1_empty 1 = .ok (.iconst 0, 1) := by decide +kernel
theorem dX1_empty_2 : decode cX1_empty 2 = .ok (.putfield 18, 3) := by decide +kernel
theorem dX1_empty_5 : decode cX1_empty 5 = .ok (.aload_n 0, 1) := by decide +kernel
theorem dX1_empty_6 : decode cX1_empty 6 = .ok (.getfield 15, 3) := by decide +kernel
theorem dX1_empty_9 : decode cX1_empty 9 = .ok (.iconst (-1), 1) := by decide +kernel
theorem dX1_empty_10 : decode cX1_empty 10 = .ok (.invokestatic 22, 3) := by decide +kernel
theorem dX1_empty_13 : decode cX1_empty 13 = .ok (.return_, 1) := by decide +kernel
set_option maxRecDepth 20000 in
theorem ggX1_append_X3_fitsRows : GoodIn wsX1_append wsX3_fitsRows := goodIn_r _ [6] (by decide +kernel) (by decide +kernel)
set_option maxRecDepth 20000 in
theorem gX1_append_X3_fitsRows_n28 : GoodIn wsX1_append (wsX3_fitsRows) := ggX1_append_X3_fitsRows
theorem dX1_append_0 : decode cX1_append 0 = .ok (.aload_n 0, 1) := by decide +kernel
theorem dX1_append_1 : decode cX1_append 1 = .ok (.getfield 18, 3) := by decide +kernel
theorem dX1_append_4 : decode cX1_append 4 = .ok (.sipush 200, 3) := by decide +kernel
theorem dX1_append_7 : decode cX1_append 7 = .ok (.if_icmp .ge 10, 3) := by decide +kernel
theorem dX1_append_10 : decode cX1_append 10 = .ok (.iload_n 1, 1) := by decide +kernel
theorem dX1_append_11 : decode cX1_append 11 = .ok (.invokestatic 28, 3) := by decide +kernel
theorem dX1_append_14 : decode cX1_append 14 = .ok (.ifCond .ne 4, 3) := by decide +kernel
theorem dX1_append_17 : decode cX1_append 17 = .ok (.return_, 1) := by decide +kernel
theorem dX1_append_18 : decode cX1_append 18 = .ok (.aload_n 0, 1) := by decide +kernel
theorem dX1_append_19 : decode cX1_append 19 = .ok (.getfield 9, 3) := by decide +kernel
theorem dX1_append_22 : decode cX1_append 22 = .ok (.aload_n 0, 1) := by decide +kernel
theorem dX1_append_23 : decode cX1_append 23 = .ok (.getfield 18, 3) := by decide +kernel
theorem dX1_append_26 : decode cX1_append 26 = .ok (.iload_n 1, 1) := by decide +kernel
theorem dX1_append_27 : decode cX1_append 27 = .ok (.iastore, 1) := by decide +kernel
theorem dX1_append_28 : decode cX1_append 28 = .ok (.aload_n 0, 1) := by decide +kernel
theorem dX1_append_29 : decode cX1_append 29 = .ok (.getfield 15, 3) := by decide +kernel
theorem dX1_append_32 : decode cX1_append 32 = .ok (.iload_n 1, 1) := by decide +kernel
theorem dX1_append_33 : decode cX1_append 33 = .ok (.aload_n 0, 1) := by decide +kernel
theorem dX1_append_34 : decode cX1_append 34 = .ok (.getfield 18, 3) := by decide +kernel
theorem dX1_append_37 : decode cX1_append 37 = .ok (.iastore, 1) := by decide +kernel
theorem dX1_append_38 : decode cX1_append 38 = .ok (.aload_n 0, 1) := by decide +kernel
theorem dX1_append_39 : decode cX1_append 39 = .ok (.dup, 1) := by decide +kernel
theorem dX1_append_40 : decode cX1_append 40 = .ok (.getfield 18, 3) := by decide +kernel
theorem dX1_append_43 : decode cX1_append 43 = .ok (.iconst 1, 1) := by decide +kernel
theorem dX1_append_44 : decode cX1_append 44 = .ok (.iadd, 1) := by decide +kernel
theorem dX1_append_45 : decode cX1_append 45 = .ok (.putfield 18, 3) := by decide +kernel
theorem dX1_append_48 : decode cX1_append 48 = .ok (.return_, 1) := by decide +kernel
theorem dX1_blockAt_0 : decode cX1_blockAt 0 = .ok (.iload_n 1, 1) := by decide +kernel
theorem dX1_blockAt_1 : decode cX1_blockAt 1 = .ok (.ifCond .lt 20, 3) := by decide +kernel
theorem dX1_blockAt_4 : decode cX1_blockAt 4 = .ok (.iload_n 1, 1) := by decide +kernel
theorem dX1_blockAt_5 : decode cX1_blockAt 5 = .ok (.aload_n 0, 1) := by decide +kernel
theorem dX1_blockAt_6 : decode cX1_blockAt 6 = .ok (.getfield 18, 3) := by decide +kernel
theorem dX1_blockAt_9 : decode cX1_blockAt 9 = .ok (.if_icmp .ge 12, 3) := by decide +kernel
theorem dX1_blockAt_12 : decode cX1_blockAt 12 = .ok (.aload_n 0, 1) := by decide +kernel
theorem dX1_blockAt_13 : decode cX1_blockAt 13 = .ok (.getfield 9, 3) := by decide +kernel
theorem dX1_blockAt_16 : decode cX1_blockAt 16 = .ok (.iload_n 1, 1) := by decide +kernel
theorem dX1_blockAt_17 : decode cX1_blockAt 17 = .ok (.iaload, 1) := by decide +kernel
theorem dX1_blockAt_18 : decode cX1_blockAt 18 = .ok (.goto 4, 3) := by decide +kernel
theorem dX1_blockAt_21 : decode cX1_blockAt 21 = .ok (.iconst (-1), 1) := by decide +kernel
theorem dX1_blockAt_22 : decode cX1_blockAt 22 = .ok (.ireturn, 1) := by decide +kernel
set_option maxRecDepth 20000 in
theorem ggX1_holds_X3_fitsRows : GoodIn wsX1_holds wsX3_fitsRows := goodIn_r _ [4] (by decide +kernel) (by decide +kernel)
set_option maxRecDepth 20000 in
theorem gX1_holds_X3_fitsRows_n28 : GoodIn wsX1_holds (wsX3_fitsRows) := ggX1_holds_X3_fitsRows
theorem dX1_holds_0 : decode cX1_holds 0 = .ok (.iload_n 1, 1) := by decide +kernel
theorem dX1_holds_1 : decode cX1_holds 1 = .ok (.invokestatic 28, 3) := by decide +kernel
theorem dX1_holds_4 : decode cX1_holds 4 = .ok (.ifCond .eq 17, 3) := by decide +kernel
theorem dX1_holds_7 : decode cX1_holds 7 = .ok (.aload_n 0, 1) := by decide +kernel
theorem dX1_holds_8 : decode cX1_holds 8 = .ok (.getfield 15, 3) := by decide +kernel
theorem dX1_holds_11 : decode cX1_holds 11 = .ok (.iload_n 1, 1) := by decide +kernel
theorem dX1_holds_12 : decode cX1_holds 12 = .ok (.iaload, 1) := by decide +kernel
theorem dX1_holds_13 : decode cX1_holds 13 = .ok (.iconst (-1), 1) := by decide +kernel
theorem dX1_holds_14 : decode cX1_holds 14 = .ok (.if_icmp .eq 7, 3) := by decide +kernel
theorem dX1_holds_17 : decode cX1_holds 17 = .ok (.iconst 1, 1) := by decide +kernel
theorem dX1_holds_18 : decode cX1_holds 18 = .ok (.goto 4, 3) := by decide +kernel
theorem dX1_holds_21 : decode cX1_holds 21 = .ok (.iconst 0, 1) := by decide +kernel
theorem dX1_holds_22 : decode cX1_holds 22 = .ok (.ireturn, 1) := by decide +kernel
set_option maxRecDepth 20000 in
theorem ggX1_goesOn_X1_holds : GoodIn wsX1_goesOn wsX1_holds := goodIn_r _ [6, 1, 7, 8, 9, 10, 11, 12] (by decide +kernel) (by decide +kernel)
set_option maxRecDepth 20000 in
theorem gX1_goesOn_X1_holds : GoodIn wsX1_goesOn (wsV RX1 32 RX1 yX1_holds wsX1_holds) := goodIn_app (goodIn_of _ (by decide +kernel)) ggX1_goesOn_X1_holds
theorem dX1_goesOn_0 : decode cX1_goesOn 0 = .ok (.aload_n 0, 1) := by decide +kernel
theorem dX1_goesOn_1 : decode cX1_goesOn 1 = .ok (.iload_n 1, 1) := by decide +kernel
theorem dX1_goesOn_2 : decode cX1_goesOn 2 = .ok (.invokevirtual 32, 3) := by decide +kernel
theorem dX1_goesOn_5 : decode cX1_goesOn 5 = .ok (.ifCond .eq 32, 3) := by decide +kernel
theorem dX1_goesOn_8 : decode cX1_goesOn 8 = .ok (.aload_n 0, 1) := by decide +kernel
theorem dX1_goesOn_9 : decode cX1_goesOn 9 = .ok (.iload_n 2, 1) := by decide +kernel
theorem dX1_goesOn_10 : decode cX1_goesOn 10 = .ok (.invokevirtual 32, 3) := by decide +kernel
theorem dX1_goesOn_13 : decode cX1_goesOn 13 = .ok (.ifCond .eq 24, 3) := by decide +kernel
theorem dX1_goesOn_16 : decode cX1_goesOn 16 = .ok (.aload_n 0, 1) := by decide +kernel
theorem dX1_goesOn_17 : decode cX1_goesOn 17 = .ok (.getfield 15, 3) := by decide +kernel
theorem dX1_goesOn_20 : decode cX1_goesOn 20 = .ok (.iload_n 2, 1) := by decide +kernel
theorem dX1_goesOn_21 : decode cX1_goesOn 21 = .ok (.iaload, 1) := by decide +kernel
theorem dX1_goesOn_22 : decode cX1_goesOn 22 = .ok (.aload_n 0, 1) := by decide +kernel
theorem dX1_goesOn_23 : decode cX1_goesOn 23 = .ok (.getfield 15, 3) := by decide +kernel
theorem dX1_goesOn_26 : decode cX1_goesOn 26 = .ok (.iload_n 1, 1) := by decide +kernel
theorem dX1_goesOn_27 : decode cX1_goesOn 27 = .ok (.iaload, 1) := by decide +kernel
theorem dX1_goesOn_28 : decode cX1_goesOn 28 = .ok (.iconst 1, 1) := by decide +kernel
theorem dX1_goesOn_29 : decode cX1_goesOn 29 = .ok (.iadd, 1) := by decide +kernel
theorem dX1_goesOn_30 : decode cX1_goesOn 30 = .ok (.if_icmp .ne 7, 3) := by decide +kernel
theorem dX1_goesOn_33 : decode cX1_goesOn 33 = .ok (.iconst 1, 1) := by decide +kernel
theorem dX1_goesOn_34 : decode cX1_goesOn 34 = .ok (.goto 4, 3) := by decide +kernel
theorem dX1_goesOn_37 : decode cX1_goesOn 37 = .ok (.iconst 0, 1) := by decide +kernel
theorem dX1_goesOn_38 : decode cX1_goesOn 38 = .ok (.ireturn, 1) := by decide +kernel
theorem dX2_init_0 : decode cX2_init 0 = .ok (.aload_n 0, 1) := by decide +kernel
theorem dX2_init_1 : decode cX2_init 1 = .ok (.invokespecial 3, 3) := by decide +kernel
theorem dX2_init_4 : decode cX2_init 4 = .ok (.aload_n 0, 1) := by decide +kernel
theorem dX2_init_5 : decode cX2_init 5 = .ok (.sipush 1000, 3) := by decide +kernel
theorem dX2_init_8 : decode cX2_init 8 = .ok (.newarray .int, 2) := by decide +kernel
theorem dX2_init_10 : decode cX2_init 10 = .ok (.putfield 9, 3) := by decide +kernel
theorem dX2_init_13 : decode cX2_init 13 = .ok (.aload_n 0, 1) := by decide +kernel
theorem dX2_init_14 : decode cX2_init 14 = .ok (.sipush 1000, 3) := by decide +kernel
theorem dX2_init_17 : decode cX2_init 17 = .ok (.newarray .int, 2) := by decide +kernel
theorem dX2_init_19 : decode cX2_init 19 = .ok (.putfield 15, 3) := by decide +kernel
theorem dX2_init_22 : decode cX2_init 22 = .ok (.aload_n 0, 1) := by decide +kernel
theorem dX2_init_23 : decode cX2_init 23 = .ok (.sipush 1000, 3) := by decide +kernel
theorem dX2_init_26 : decode cX2_init 26 = .ok (.newarray .long, 2) := by decide +kernel
theorem dX2_init_28 : decode cX2_init 28 = .ok (.putfield 18, 3) := by decide +kernel
theorem dX2_init_31 : decode cX2_init 31 = .ok (.aload_n 0, 1) := by decide +kernel
theorem dX2_init_32 : decode cX2_init 32 = .ok (.sipush 1000, 3) := by decide +kernel
theorem dX2_init_35 : decode cX2_init 35 = .ok (.newarray .boolean, 2) := by decide +kernel
theorem dX2_init_37 : decode cX2_init 37 = .ok (.putfield 22, 3) := by decide +kernel
theorem dX2_init_40 : decode cX2_init 40 = .ok (.return_, 1) := by decide +kernel
theorem dX2_forget_0 : decode cX2_forget 0 = .ok (.aload_n 0, 1) := by decide +kernel
theorem dX2_forget_1 : decode cX2_forget 1 = .ok (.iconst 0, 1) := by decide +kernel
theorem dX2_forget_2 : decode cX2_forget 2 = .ok (.putfield 26, 3) := by decide +kernel
theorem dX2_forget_5 : decode cX2_forget 5 = .ok (.return_, 1) := by decide +kernel
set_option maxRecDepth 20000 in
theorem ggX2_told_X2_find : GoodIn wsX2_told wsX2_find := goodIn_r _ [6, 7, 8, 9, 10, 11, 12, 13, 14] (by decide +kernel) (by decide +kernel)
set_option maxRecDepth 20000 in
theorem gX2_told_X2_find : GoodIn wsX2_told (wsV RX2 30 RX2 yX2_find wsX2_find) := goodIn_app (goodIn_of _ (by decide +kernel)) ggX2_told_X2_find
theorem dX2_told_0 : decode cX2_told 0 = .ok (.aload_n 0, 1) := by decide +kernel
theorem dX2_told_1 : decode cX2_told 1 = .ok (.iload_n 1, 1) := by decide +kernel
theorem dX2_told_2 : decode cX2_told 2 = .ok (.iload_n 2, 1) := by decide +kernel
theorem dX2_told_3 : decode cX2_told 3 = .ok (.invokevirtual 30, 3) := by decide +kernel
theorem dX2_told_6 : decode cX2_told 6 = .ok (.istore_n 3, 1) := by decide +kernel
theorem dX2_told_7 : decode cX2_told 7 = .ok (.iload_n 3, 1) := by decide +kernel
theorem dX2_told_8 : decode cX2_told 8 = .ok (.iconst (-1), 1) := by decide +kernel
theorem dX2_told_9 : decode cX2_told 9 = .ok (.if_icmp .ne 7, 3) := by decide +kernel
theorem dX2_told_12 : decode cX2_told 12 = .ok (.lconst 0, 1) := by decide +kernel
theorem dX2_told_13 : decode cX2_told 13 = .ok (.goto 9, 3) := by decide +kernel
theorem dX2_told_16 : decode cX2_told 16 = .ok (.aload_n 0, 1) := by decide +kernel
theorem dX2_told_17 : decode cX2_told 17 = .ok (.getfield 18, 3) := by decide +kernel
theorem dX2_told_20 : decode cX2_told 20 = .ok (.iload_n 3, 1) := by decide +kernel
theorem dX2_told_21 : decode cX2_told 21 = .ok (.laload, 1) := by decide +kernel
theorem dX2_told_22 : decode cX2_told 22 = .ok (.lreturn, 1) := by decide +kernel
set_option maxRecDepth 20000 in
theorem ggX2_tell_X2_find : GoodIn wsX2_tell wsX2_find := goodIn_r _ [13, 14, 15, 16, 33, 34, 35, 36, 37] (by decide +kernel) (by decide +kernel)
set_option maxRecDepth 20000 in
theorem gX2_tell_X2_find : GoodIn wsX2_tell (wsV RX2 30 RX2 yX2_find wsX2_find) := goodIn_app (goodIn_of _ (by decide +kernel)) ggX2_tell_X2_find
set_option maxRecDepth 20000 in
theorem ggX2_tell_X2_add : GoodIn wsX2_tell wsX2_add := goodIn_r _ [20, 14, 15, 16, 3, 33, 34, 35, 36, 37] (by decide +kernel) (by decide +kernel)
set_option maxRecDepth 20000 in
theorem gX2_tell_X2_add : GoodIn wsX2_tell (wsV RX2 34 RX2 yX2_add wsX2_add) := goodIn_app (goodIn_of _ (by decide +kernel)) ggX2_tell_X2_add
set_option maxRecDepth 20000 in
theorem ggX2_tell_X2_moveForward : GoodIn wsX2_tell wsX2_moveForward := goodIn_r _ [24, 25, 26, 27, 12, 28, 3, 15, 16, 29, 30, 31, 32, 8, 33, 34, 35, 36, 37] (by decide +kernel) (by decide +kernel)
set_option maxRecDepth 20000 in
theorem gX2_tell_X2_moveForward : GoodIn wsX2_tell (wsV RX2 47 RX2 yX2_moveForward wsX2_moveForward) := goodIn_app (goodIn_of _ (by decide +kernel)) ggX2_tell_X2_moveForward
theorem dX2_tell_0 : decode cX2_tell 0 = .ok (.aload_n 0, 1) := by decide +kernel
theorem dX2_tell_1 : decode cX2_tell 1 = .ok (.iload_n 1, 1) := by decide +kernel
theorem dX2_tell_2 : decode cX2_tell 2 = .ok (.iload_n 2, 1) := by decide +kernel
theorem dX2_tell_3 : decode cX2_tell 3 = .ok (.invokevirtual 30, 3) := by decide +kernel
theorem dX2_tell_6 : decode cX2_tell 6 = .ok (.istore 5, 2) := by decide +kernel
theorem dX2_tell_8 : decode cX2_tell 8 = .ok (.iload 5, 2) := by decide +kernel
theorem dX2_tell_10 : decode cX2_tell 10 = .ok (.iconst (-1), 1) := by decide +kernel
theorem dX2_tell_11 : decode cX2_tell 11 = .ok (.if_icmp .ne 11, 3) := by decide +kernel
theorem dX2_tell_14 : decode cX2_tell 14 = .ok (.aload_n 0, 1) := by decide +kernel
theorem dX2_tell_15 : decode cX2_tell 15 = .ok (.iload_n 1, 1) := by decide +kernel
theorem dX2_tell_16 : decode cX2_tell 16 = .ok (.iload_n 2, 1) := by decide +kernel
theorem dX2_tell_17 : decode cX2_tell 17 = .ok (.invokevirtual 34, 3) := by decide +kernel
theorem dX2_tell_20 : decode cX2_tell 20 = .ok (.istore 5, 2) := by decide +kernel
theorem dX2_tell_22 : decode cX2_tell 22 = .ok (.iload 5, 2) := by decide +kernel
theorem dX2_tell_24 : decode cX2_tell 24 = .ok (.iconst (-1), 1) := by decide +kernel
theorem dX2_tell_25 : decode cX2_tell 25 = .ok (.if_icmp .ne 7, 3) := by decide +kernel
theorem dX2_tell_28 : decode cX2_tell 28 = .ok (.ldc2_w 37, 3) := by decide +kernel
theorem dX2_tell_31 : decode cX2_tell 31 = .ok (.lreturn, 1) := by decide +kernel
theorem dX2_tell_32 : decode cX2_tell 32 = .ok (.ldc2_w 39, 3) := by decide +kernel
theorem dX2_tell_35 : decode cX2_tell 35 = .ok (.aload_n 0, 1) := by decide +kernel
theorem dX2_tell_36 : decode cX2_tell 36 = .ok (.getfield 18, 3) := by decide +kernel
theorem dX2_tell_39 : decode cX2_tell 39 = .ok (.iload 5, 2) := by decide +kernel
theorem dX2_tell_41 : decode cX2_tell 41 = .ok (.laload, 1) := by decide +kernel
theorem dX2_tell_42 : decode cX2_tell 42 = .ok (.iload_n 3, 1) := by decide +kernel
theorem dX2_tell_43 : decode cX2_tell 43 = .ok (.i2l, 1) := by decide +kernel
theorem dX2_tell_44 : decode cX2_tell 44 = .ok (.ladd, 1) := by decide +kernel
theorem dX2_tell_45 : decode cX2_tell 45 = .ok (.invokestatic 41, 3) := by decide +kernel
theorem dX2_tell_48 : decode cX2_tell 48 = .ok (.lstore 6, 2) := by decide +kernel
theorem dX2_tell_50 : decode cX2_tell 50 = .ok (.aload_n 0, 1) := by decide +kernel
theorem dX2_tell_51 : decode cX2_tell 51 = .ok (.getfield 18, 3) := by decide +kernel
theorem dX2_tell_54 : decode cX2_tell 54 = .ok (.iload 5, 2) := by decide +kernel
theorem dX2_tell_56 : decode cX2_tell 56 = .ok (.lload 6, 2) := by decide +kernel
theorem dX2_tell_58 : decode cX2_tell 58 = .ok (.lastore, 1) := by decide +kernel
theorem dX2_tell_59 : decode cX2_tell 59 = .ok (.aload_n 0, 1) := by decide +kernel
theorem dX2_tell_60 : decode cX2_tell 60 = .ok (.getfield 22, 3) := by decide +kernel
theorem dX2_tell_63 : decode cX2_tell 63 = .ok (.iload 5, 2) := by decide +kernel
theorem dX2_tell_65 : decode cX2_tell 65 = .ok (.iload 4, 2) := by decide +kernel
theorem dX2_tell_67 : decode cX2_tell 67 = .ok (.bastore, 1) := by decide +kernel
theorem dX2_tell_68 : decode cX2_tell 68 = .ok (.aload_n 0, 1) := by decide +kernel
theorem dX2_tell_69 : decode cX2_tell 69 = .ok (.iload 5, 2) := by decide +kernel
theorem dX2_tell_71 : decode cX2_tell 71 = .ok (.invokevirtual 47, 3) := by decide +kernel
theorem dX2_tell_74 : decode cX2_tell 74 = .ok (.lload 6, 2) := by decide +kernel
theorem dX2_tell_76 : decode cX2_tell 76 = .ok (.lreturn, 1) := by decide +kernel
set_option maxRecDepth 20000 in
theorem ggX2_weigh_X1_goesOn : GoodIn wsX2_weigh wsX1_goesOn := goodIn_r _ [10, 11, 12, 13, 14, 9, 15, 16, 17, 18, 24, 25, 26] (by decide +kernel) (by decide +kernel)
set_option maxRecDepth 20000 in
theorem gX2_weigh_X1_goesOn : GoodIn wsX2_weigh (wsV RX2 51 RX1 yX1_goesOn wsX1_goesOn) := goodIn_app (goodIn_of _ (by decide +kernel)) ggX2_weigh_X1_goesOn
theorem dX2_weigh_0 : decode cX2_weigh 0 = .ok (.lconst 0, 1) := by decide +kernel
theorem dX2_weigh_1 : decode cX2_weigh 1 = .ok (.lstore_n 2, 1) := by decide +kernel
theorem dX2_weigh_2 : decode cX2_weigh 2 = .ok (.iconst 0, 1) := by decide +kernel
theorem dX2_weigh_3 : decode cX2_weigh 3 = .ok (.istore 4, 2) := by decide +kernel
theorem dX2_weigh_5 : decode cX2_weigh 5 = .ok (.iload 4, 2) := by decide +kernel
theorem dX2_weigh_7 : decode cX2_weigh 7 = .ok (.aload_n 0, 1) := by decide +kernel
theorem dX2_weigh_8 : decode cX2_weigh 8 = .ok (.getfield 26, 3) := by decide +kernel
theorem dX2_weigh_11 : decode cX2_weigh 11 = .ok (.if_icmp .ge 50, 3) := by decide +kernel
theorem dX2_weigh_14 : decode cX2_weigh 14 = .ok (.aload_n 0, 1) := by decide +kernel
theorem dX2_weigh_15 : decode cX2_weigh 15 = .ok (.getfield 22, 3) := by decide +kernel
theorem dX2_weigh_18 : decode cX2_weigh 18 = .ok (.iload 4, 2) := by decide +kernel
theorem dX2_weigh_20 : decode cX2_weigh 20 = .ok (.baload, 1) := by decide +kernel
theorem dX2_weigh_21 : decode cX2_weigh 21 = .ok (.ifCond .eq 34, 3) := by decide +kernel
theorem dX2_weigh_24 : decode cX2_weigh 24 = .ok (.aload_n 1, 1) := by decide +kernel
theorem dX2_weigh_25 : decode cX2_weigh 25 = .ok (.aload_n 0, 1) := by decide +kernel
theorem dX2_weigh_26 : decode cX2_weigh 26 = .ok (.getfield 9, 3) := by decide +kernel
theorem dX2_weigh_29 : decode cX2_weigh 29 = .ok (.iload 4, 2) := by decide +kernel
theorem dX2_weigh_31 : decode cX2_weigh 31 = .ok (.iaload, 1) := by decide +kernel
theorem dX2_weigh_32 : decode cX2_weigh 32 = .ok (.aload_n 0, 1) := by decide +kernel
theorem dX2_weigh_33 : decode cX2_weigh 33 = .ok (.getfield 15, 3) := by decide +kernel
theorem dX2_weigh_36 : decode cX2_weigh 36 = .ok (.iload 4, 2) := by decide +kernel
theorem dX2_weigh_38 : decode cX2_weigh 38 = .ok (.iaload, 1) := by decide +kernel
theorem dX2_weigh_39 : decode cX2_weigh 39 = .ok (.invokevirtual 51, 3) := by decide +kernel
theorem dX2_weigh_42 : decode cX2_weigh 42 = .ok (.ifCond .eq 13, 3) := by decide +kernel
theorem dX2_weigh_45 : decode cX2_weigh 45 = .ok (.lload_n 2, 1) := by decide +kernel
theorem dX2_weigh_46 : decode cX2_weigh 46 = .ok (.aload_n 0, 1) := by decide +kernel
theorem dX2_weigh_47 : decode cX2_weigh 47 = .ok (.getfield 18, 3) := by decide +kernel
theorem dX2_weigh_50 : decode cX2_weigh 50 = .ok (.iload 4, 2) := by decide +kernel
theorem dX2_weigh_52 : decode cX2_weigh 52 = .ok (.laload, 1) := by decide +kernel
theorem dX2_weigh_53 : decode cX2_weigh 53 = .ok (.ladd, 1) := by decide +kernel
theorem dX2_weigh_54 : decode cX2_weigh 54 = .ok (.lstore_n 2, 1) := by decide +kernel
theorem dX2_weigh_55 : decode cX2_weigh 55 = .ok (.iinc 4 1, 3) := by decide +kernel
theorem dX2_weigh_58 : decode cX2_weigh 58 = .ok (.goto (-53), 3) := by decide +kernel
theorem dX2_weigh_61 : decode cX2_weigh 61 = .ok (.lload_n 2, 1) := by decide +kernel
theorem dX2_weigh_62 : decode cX2_weigh 62 = .ok (.lreturn, 1) := by decide +kernel
theorem dX2_find_0 : decode cX2_find 0 = .ok (.iconst 0, 1) := by decide +kernel
theorem dX2_find_1 : decode cX2_find 1 = .ok (.istore_n 3, 1) := by decide +kernel
theorem dX2_find_2 : decode cX2_find 2 = .ok (.iload_n 3, 1) := by decide +kernel
theorem dX2_find_3 : decode cX2_find 3 = .ok (.aload_n 0, 1) := by decide +kernel
theorem dX2_find_4 : decode cX2_find 4 = .ok (.getfield 26, 3) := by decide +kernel
theorem dX2_find_7 : decode cX2_find 7 = .ok (.if_icmp .ge 31, 3) := by decide +kernel
theorem dX2_find_10 : decode cX2_find 10 = .ok (.aload_n 0, 1) := by decide +kernel
theorem dX2_find_11 : decode cX2_find 11 = .ok (.getfield 9, 3) := by decide +kernel
theorem dX2_find_14 : decode cX2_find 14 = .ok (.iload_n 3, 1) := by decide +kernel
theorem dX2_find_15 : decode cX2_find 15 = .ok (.iaload, 1) := by decide +kernel
theorem dX2_find_16 : decode cX2_find 16 = .ok (.iload_n 1, 1) := by decide +kernel
theorem dX2_find_17 : decode cX2_find 17 = .ok (.if_icmp .ne 15, 3) := by decide +kernel
theorem dX2_find_20 : decode cX2_find 20 = .ok (.aload_n 0, 1) := by decide +kernel
theorem dX2_find_21 : decode cX2_find 21 = .ok (.getfield 15, 3) := by decide +kernel
theorem dX2_find_24 : decode cX2_find 24 = .ok (.iload_n 3, 1) := by decide +kernel
theorem dX2_find_25 : decode cX2_find 25 = .ok (.iaload, 1) := by decide +kernel
theorem dX2_find_26 : decode cX2_find 26 = .ok (.iload_n 2, 1) := by decide +kernel
theorem dX2_find_27 : decode cX2_find 27 = .ok (.if_icmp .ne 5, 3) := by decide +kernel
theorem dX2_find_30 : decode cX2_find 30 = .ok (.iload_n 3, 1) := by decide +kernel
theorem dX2_find_31 : decode cX2_find 31 = .ok (.ireturn, 1) := by decide +kernel
theorem dX2_find_32 : decode cX2_find 32 = .ok (.iinc 3 1, 3) := by decide +kernel
theorem dX2_find_35 : decode cX2_find 35 = .ok (.goto (-33), 3) := by decide +kernel
theorem dX2_find_38 : decode cX2_find 38 = .ok (.iconst (-1), 1) := by decide +kernel
theorem dX2_find_39 : decode cX2_find 39 = .ok (.ireturn, 1) := by decide +kernel
theorem dX2_add_0 : decode cX2_add 0 = .ok (.aload_n 0, 1) := by decide +kernel
theorem dX2_add_1 : decode cX2_add 1 = .ok (.getfield 26, 3) := by decide +kernel
theorem dX2_add_4 : decode cX2_add 4 = .ok (.sipush 1000, 3) := by decide +kernel
theorem dX2_add_7 : decode cX2_add 7 = .ok (.if_icmp .lt 5, 3) := by decide +kernel
theorem dX2_add_10 : decode cX2_add 10 = .ok (.iconst (-1), 1) := by decide +kernel
theorem dX2_add_11 : decode cX2_add 11 = .ok (.ireturn, 1) := by decide +kernel
theorem dX2_add_12 : decode cX2_add 12 = .ok (.aload_n 0, 1) := by decide +kernel
theorem dX2_add_13 : decode cX2_add 13 = .ok (.getfield 26, 3) := by decide +kernel
theorem dX2_add_16 : decode cX2_add 16 = .ok (.istore_n 3, 1) := by decide +kernel
theorem dX2_add_17 : decode cX2_add 17 = .ok (.aload_n 0, 1) := by decide +kernel
theorem dX2_add_18 : decode cX2_add 18 = .ok (.getfield 9, 3) := by decide +kernel
theorem dX2_add_21 : decode cX2_add 21 = .ok (.iload_n 3, 1) := by decide +kernel
theorem dX2_add_22 : decode cX2_add 22 = .ok (.iload_n 1, 1) := by decide +kernel
theorem dX2_add_23 : decode cX2_add 23 = .ok (.iastore, 1) := by decide +kernel
theorem dX2_add_24 : decode cX2_add 24 = .ok (.aload_n 0, 1) := by decide +kernel
theorem dX2_add_25 : decode cX2_add 25 = .ok (.getfield 15, 3) := by decide +kernel
theorem dX2_add_28 : decode cX2_add 28 = .ok (.iload_n 3, 1) := by decide +kernel
theorem dX2_add_29 : decode cX2_add 29 = .ok (.iload_n 2, 1) := by decide +kernel
theorem dX2_add_30 : decode cX2_add 30 = .ok (.iastore, 1) := by decide +kernel
theorem dX2_add_31 : decode cX2_add 31 = .ok (.aload_n 0, 1) := by decide +kernel
theorem dX2_add_32 : decode cX2_add 32 = .ok (.getfield 18, 3) := by decide +kernel

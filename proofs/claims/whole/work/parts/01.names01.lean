theorem dX0_init_0 : decode cX0_init 0 = .ok (.aload_n 0, 1) := by decide +kernel
theorem dX0_init_1 : decode cX0_init 1 = .ok (.invokespecial 3, 3) := by decide +kernel
theorem dX0_init_4 : decode cX0_init 4 = .ok (.aload_n 0, 1) := by decide +kernel
theorem dX0_init_5 : decode cX0_init 5 = .ok (.bipush 28, 2) := by decide +kernel
theorem dX0_init_7 : decode cX0_init 7 = .ok (.newarray .int, 2) := by decide +kernel
theorem dX0_init_9 : decode cX0_init 9 = .ok (.putfield 11, 3) := by decide +kernel
theorem dX0_init_12 : decode cX0_init 12 = .ok (.aload_n 0, 1) := by decide +kernel
theorem dX0_init_13 : decode cX0_init 13 = .ok (.sipush 501, 3) := by decide +kernel
theorem dX0_init_16 : decode cX0_init 16 = .ok (.newarray .int, 2) := by decide +kernel
theorem dX0_init_18 : decode cX0_init 18 = .ok (.putfield 15, 3) := by decide +kernel
theorem dX0_init_21 : decode cX0_init 21 = .ok (.return_, 1) := by decide +kernel
set_option maxRecDepth 20000 in
theorem ggX0_find_X0_costStreets : GoodIn wsX0_find wsX0_costStreets := goodIn_r _ [8, 9, 10, 11, 12, 13, 14, 15, 16, 17, 18, 19, 20, 21, 22, 23, 24, 25, 26, 27, 28, 29, 30, 31, 32, 33, 34, 35, 36, 7, 37, 38, 39, 40, 41, 1, 2, 70, 71, 72, 73, 74, 75, 76, 77, 78, 79, 80, 81, 82, 83, 84, 65, 66, 67, 68, 69] (by decide +kernel) (by decide +kernel)
set_option maxRecDepth 20000 in
theorem gX0_find_X0_costStreets : GoodIn wsX0_find (wsV RX0 25 RX0 yX0_costStreets wsX0_costStreets) := goodIn_app (goodIn_of _ (by decide +kernel)) ggX0_find_X0_costStreets
set_option maxRecDepth 20000 in
theorem ggX0_find_X0_costHands : GoodIn wsX0_find wsX0_costHands := goodIn_r _ [45, 46, 47, 3, 35, 36, 7, 37, 48, 49, 50, 16, 51, 52, 19, 20, 21, 22, 23, 53, 54, 55, 56, 57, 38, 39, 40, 41, 1, 2, 70, 71, 72, 73, 74, 75, 76, 77, 78, 79, 80, 81, 82, 83, 84, 65, 66, 67, 68, 69] (by decide +kernel) (by decide +kernel)
set_option maxRecDepth 20000 in
theorem gX0_find_X0_costHands : GoodIn wsX0_find (wsV RX0 29 RX0 yX0_costHands wsX0_costHands) := goodIn_app (goodIn_of _ (by decide +kernel)) ggX0_find_X0_costHands
set_option maxRecDepth 20000 in
theorem ggX0_find_X0_chooseFirst : GoodIn wsX0_find wsX0_chooseFirst := goodIn_r _ [61, 2, 62, 3, 1, 63, 64, 48, 49, 50, 16, 51, 52, 19, 20, 21, 22, 23, 53, 54, 55, 56, 57, 65, 66, 67, 68, 69, 70, 71, 72, 73, 74, 75, 76, 77, 78, 79, 80, 81, 82, 83, 84] (by decide +kernel) (by decide +kernel)
set_option maxRecDepth 20000 in
theorem gX0_find_X0_chooseFirst : GoodIn wsX0_find (wsV RX0 32 RX0 yX0_chooseFirst wsX0_chooseFirst) := goodIn_app (goodIn_of _ (by decide +kernel)) ggX0_find_X0_chooseFirst
theorem dX0_find_0 : decode cX0_find 0 = .ok (.iconst 0, 1) := by decide +kernel
theorem dX0_find_1 : decode cX0_find 1 = .ok (.istore 5, 2) := by decide +kernel
theorem dX0_find_3 : decode cX0_find 3 = .ok (.iload 5, 2) := by decide +kernel
theorem dX0_find_5 : decode cX0_find 5 = .ok (.bipush 28, 2) := by decide +kernel
theorem dX0_find_7 : decode cX0_find 7 = .ok (.if_icmp .ge 30, 3) := by decide +kernel
theorem dX0_find_10 : decode cX0_find 10 = .ok (.aload_n 0, 1) := by decide +kernel
theorem dX0_find_11 : decode cX0_find 11 = .ok (.getfield 11, 3) := by decide +kernel
theorem dX0_find_14 : decode cX0_find 14 = .ok (.iload 5, 2) := by decide +kernel
theorem dX0_find_16 : decode cX0_find 16 = .ok (.iload 5, 2) := by decide +kernel
theorem dX0_find_18 : decode cX0_find 18 = .ok (.iconst 4, 1) := by decide +kernel
theorem dX0_find_19 : decode cX0_find 19 = .ok (.idiv, 1) := by decide +kernel
theorem dX0_find_20 : decode cX0_find 20 = .ok (.iload_n 3, 1) := by decide +kernel
theorem dX0_find_21 : decode cX0_find 21 = .ok (.if_icmp .ne 7, 3) := by decide +kernel
theorem dX0_find_24 : decode cX0_find 24 = .ok (.iconst 0, 1) := by decide +kernel
theorem dX0_find_25 : decode cX0_find 25 = .ok (.goto 5, 3) := by decide +kernel
theorem dX0_find_28 : decode cX0_find 28 = .ok (.ldc 18, 2) := by decide +kernel
theorem dX0_find_30 : decode cX0_find 30 = .ok (.iastore, 1) := by decide +kernel
theorem dX0_find_31 : decode cX0_find 31 = .ok (.iinc 5 1, 3) := by decide +kernel
theorem dX0_find_34 : decode cX0_find 34 = .ok (.goto (-31), 3) := by decide +kernel
theorem dX0_find_37 : decode cX0_find 37 = .ok (.iconst 1, 1) := by decide +kernel
theorem dX0_find_38 : decode cX0_find 38 = .ok (.istore 5, 2) := by decide +kernel
theorem dX0_find_40 : decode cX0_find 40 = .ok (.iconst 0, 1) := by decide +kernel
theorem dX0_find_41 : decode cX0_find 41 = .ok (.istore 6, 2) := by decide +kernel
theorem dX0_find_43 : decode cX0_find 43 = .ok (.iload 5, 2) := by decide +kernel
theorem dX0_find_45 : decode cX0_find 45 = .ok (.ifCond .eq 67, 3) := by decide +kernel
theorem dX0_find_48 : decode cX0_find 48 = .ok (.iload 6, 2) := by decide +kernel
theorem dX0_find_50 : decode cX0_find 50 = .ok (.bipush 28, 2) := by decide +kernel
theorem dX0_find_52 : decode cX0_find 52 = .ok (.if_icmp .ge 60, 3) := by decide +kernel
theorem dX0_find_55 : decode cX0_find 55 = .ok (.iconst 0, 1) := by decide +kernel
theorem dX0_find_56 : decode cX0_find 56 = .ok (.istore 5, 2) := by decide +kernel
theorem dX0_find_58 : decode cX0_find 58 = .ok (.iconst 0, 1) := by decide +kernel
theorem dX0_find_59 : decode cX0_find 59 = .ok (.istore 7, 2) := by decide +kernel
theorem dX0_find_61 : decode cX0_find 61 = .ok (.iload 7, 2) := by decide +kernel
theorem dX0_find_63 : decode cX0_find 63 = .ok (.aload_n 1, 1) := by decide +kernel
theorem dX0_find_64 : decode cX0_find 64 = .ok (.getfield 19, 3) := by decide +kernel
theorem dX0_find_67 : decode cX0_find 67 = .ok (.if_icmp .ge 39, 3) := by decide +kernel
theorem dX0_find_70 : decode cX0_find 70 = .ok (.aload_n 0, 1) := by decide +kernel
theorem dX0_find_71 : decode cX0_find 71 = .ok (.aload_n 1, 1) := by decide +kernel
theorem dX0_find_72 : decode cX0_find 72 = .ok (.iload 7, 2) := by decide +kernel
theorem dX0_find_74 : decode cX0_find 74 = .ok (.iload 4, 2) := by decide +kernel
theorem dX0_find_76 : decode cX0_find 76 = .ok (.invokevirtual 25, 3) := by decide +kernel
theorem dX0_find_79 : decode cX0_find 79 = .ok (.ifCond .eq 6, 3) := by decide +kernel
theorem dX0_find_82 : decode cX0_find 82 = .ok (.iconst 1, 1) := by decide +kernel
theorem dX0_find_83 : decode cX0_find 83 = .ok (.istore 5, 2) := by decide +kernel
theorem dX0_find_85 : decode cX0_find 85 = .ok (.aload_n 0, 1) := by decide +kernel
theorem dX0_find_86 : decode cX0_find 86 = .ok (.aload_n 1, 1) := by decide +kernel
theorem dX0_find_87 : decode cX0_find 87 = .ok (.iload 7, 2) := by decide +kernel
theorem dX0_find_89 : decode cX0_find 89 = .ok (.iload 4, 2) := by decide +kernel
theorem dX0_find_91 : decode cX0_find 91 = .ok (.invokevirtual 29, 3) := by decide +kernel
theorem dX0_find_94 : decode cX0_find 94 = .ok (.ifCond .eq 6, 3) := by decide +kernel
theorem dX0_find_97 : decode cX0_find 97 = .ok (.iconst 1, 1) := by decide +kernel
theorem dX0_find_98 : decode cX0_find 98 = .ok (.istore 5, 2) := by decide +kernel
theorem dX0_find_100 : decode cX0_find 100 = .ok (.iinc 7 1, 3) := by decide +kernel
theorem dX0_find_103 : decode cX0_find 103 = .ok (.goto (-42), 3) := by decide +kernel
theorem dX0_find_106 : decode cX0_find 106 = .ok (.iinc 6 1, 3) := by decide +kernel
theorem dX0_find_109 : decode cX0_find 109 = .ok (.goto (-66), 3) := by decide +kernel
theorem dX0_find_112 : decode cX0_find 112 = .ok (.aload_n 0, 1) := by decide +kernel
theorem dX0_find_113 : decode cX0_find 113 = .ok (.aload_n 1, 1) := by decide +kernel
theorem dX0_find_114 : decode cX0_find 114 = .ok (.iload_n 2, 1) := by decide +kernel
theorem dX0_find_115 : decode cX0_find 115 = .ok (.iload 4, 2) := by decide +kernel
theorem dX0_find_117 : decode cX0_find 117 = .ok (.invokevirtual 32, 3) := by decide +kernel
theorem dX0_find_120 : decode cX0_find 120 = .ok (.return_, 1) := by decide +kernel
theorem dX0_costOf_0 : decode cX0_costOf 0 = .ok (.iload_n 2, 1) := by decide +kernel
theorem dX0_costOf_1 : decode cX0_costOf 1 = .ok (.ifCond .eq 13, 3) := by decide +kernel
theorem dX0_costOf_4 : decode cX0_costOf 4 = .ok (.iload_n 0, 1) := by decide +kernel
theorem dX0_costOf_5 : decode cX0_costOf 5 = .ok (.sipush 10000, 3) := by decide +kernel
theorem dX0_costOf_8 : decode cX0_costOf 8 = .ok (.imul, 1) := by decide +kernel
theorem dX0_costOf_9 : decode cX0_costOf 9 = .ok (.iload_n 1, 1) := by decide +kernel
theorem dX0_costOf_10 : decode cX0_costOf 10 = .ok (.iadd, 1) := by decide +kernel
theorem dX0_costOf_11 : decode cX0_costOf 11 = .ok (.goto 10, 3) := by decide +kernel
theorem dX0_costOf_14 : decode cX0_costOf 14 = .ok (.iload_n 1, 1) := by decide +kernel
theorem dX0_costOf_15 : decode cX0_costOf 15 = .ok (.sipush 10000, 3) := by decide +kernel
theorem dX0_costOf_18 : decode cX0_costOf 18 = .ok (.imul, 1) := by decide +kernel
theorem dX0_costOf_19 : decode cX0_costOf 19 = .ok (.iload_n 0, 1) := by decide +kernel
theorem dX0_costOf_20 : decode cX0_costOf 20 = .ok (.iadd, 1) := by decide +kernel
theorem dX0_costOf_21 : decode cX0_costOf 21 = .ok (.ireturn, 1) := by decide +kernel
set_option maxRecDepth 20000 in
theorem ggX0_costStreets_X4_knowsStreet : GoodIn wsX0_costStreets wsX4_knowsStreet := goodIn_r _ [9, 10, 11, 12, 13, 8, 14, 15, 16, 17, 18, 19, 20, 37, 38, 39, 40, 41, 42, 43, 44, 45, 46, 47, 48, 49, 50, 51] (by decide +kernel) (by decide +kernel)
set_option maxRecDepth 20000 in
theorem gX0_costStreets_X4_knowsStreet : GoodIn wsX0_costStreets (wsV RX0 39 RX4 yX4_knowsStreet wsX4_knowsStreet) := goodIn_app (goodIn_of _ (by decide +kernel)) ggX0_costStreets_X4_knowsStreet
set_option maxRecDepth 20000 in
theorem ggX0_costStreets_X4_ledMinutes : GoodIn wsX0_costStreets wsX4_ledMinutes := goodIn_r _ [24, 25, 26, 37, 38, 39, 40, 41, 42, 43, 44, 45, 46, 47, 48, 49, 50, 51] (by decide +kernel) (by decide +kernel)
set_option maxRecDepth 20000 in
theorem gX0_costStreets_X4_ledMinutes : GoodIn wsX0_costStreets (wsV RX0 43 RX4 yX4_ledMinutes wsX4_ledMinutes) := goodIn_app (goodIn_of _ (by decide +kernel)) ggX0_costStreets_X4_ledMinutes
set_option maxRecDepth 20000 in
theorem ggX0_costStreets_X0_costOf : GoodIn wsX0_costStreets wsX0_costOf := goodIn_r _ [30] (by decide +kernel) (by decide +kernel)
set_option maxRecDepth 20000 in
theorem gX0_costStreets_X0_costOf : GoodIn wsX0_costStreets (va_wsS RX0 50 yX0_costOf wsX0_costOf) := goodIn_app (goodIn_of _ (by decide +kernel)) ggX0_costStreets_X0_costOf
set_option maxRecDepth 20000 in
theorem ggX0_costStreets_X0_lower : GoodIn wsX0_costStreets wsX0_lower := goodIn_r _ [34, 35, 36, 52, 53, 54, 55, 56] (by decide +kernel) (by decide +kernel)
set_option maxRecDepth 20000 in
theorem gX0_costStreets_X0_lower : GoodIn wsX0_costStreets (wsV RX0 60 RX0 yX0_lower wsX0_lower) := goodIn_app (goodIn_of _ (by decide +kernel)) ggX0_costStreets_X0_lower
theorem dX0_costStreets_0 : decode cX0_costStreets 0 = .ok (.iconst 0, 1) := by decide +kernel
theorem dX0_costStreets_1 : decode cX0_costStreets 1 = .ok (.istore 4, 2) := by decide +kernel
theorem dX0_costStreets_3 : decode cX0_costStreets 3 = .ok (.iconst 0, 1) := by decide +kernel
theorem dX0_costStreets_4 : decode cX0_costStreets 4 = .ok (.istore 5, 2) := by decide +kernel
theorem dX0_costStreets_6 : decode cX0_costStreets 6 = .ok (.iload 5, 2) := by decide +kernel
theorem dX0_costStreets_8 : decode cX0_costStreets 8 = .ok (.aload_n 1, 1) := by decide +kernel
theorem dX0_costStreets_9 : decode cX0_costStreets 9 = .ok (.getfield 36, 3) := by decide +kernel
theorem dX0_costStreets_12 : decode cX0_costStreets 12 = .ok (.if_icmp .ge 106, 3) := by decide +kernel
theorem dX0_costStreets_15 : decode cX0_costStreets 15 = .ok (.aload_n 1, 1) := by decide +kernel
theorem dX0_costStreets_16 : decode cX0_costStreets 16 = .ok (.iload_n 2, 1) := by decide +kernel
theorem dX0_costStreets_17 : decode cX0_costStreets 17 = .ok (.iload 5, 2) := by decide +kernel
theorem dX0_costStreets_19 : decode cX0_costStreets 19 = .ok (.invokevirtual 39, 3) := by decide +kernel
theorem dX0_costStreets_22 : decode cX0_costStreets 22 = .ok (.ifCond .ne 6, 3) := by decide +kernel
theorem dX0_costStreets_25 : decode cX0_costStreets 25 = .ok (.goto 87, 3) := by decide +kernel
theorem dX0_costStreets_28 : decode cX0_costStreets 28 = .ok (.aload_n 1, 1) := by decide +kernel
theorem dX0_costStreets_29 : decode cX0_costStreets 29 = .ok (.iload_n 2, 1) := by decide +kernel
theorem dX0_costStreets_30 : decode cX0_costStreets 30 = .ok (.iload 5, 2) := by decide +kernel
theorem dX0_costStreets_32 : decode cX0_costStreets 32 = .ok (.invokevirtual 43, 3) := by decide +kernel
theorem dX0_costStreets_35 : decode cX0_costStreets 35 = .ok (.istore 6, 2) := by decide +kernel
theorem dX0_costStreets_37 : decode cX0_costStreets 37 = .ok (.iload 6, 2) := by decide +kernel
theorem dX0_costStreets_39 : decode cX0_costStreets 39 = .ok (.aload_n 1, 1) := by decide +kernel
theorem dX0_costStreets_40 : decode cX0_costStreets 40 = .ok (.getfield 47, 3) := by decide +kernel
theorem dX0_costStreets_43 : decode cX0_costStreets 43 = .ok (.iload_n 2, 1) := by decide +kernel
theorem dX0_costStreets_44 : decode cX0_costStreets 44 = .ok (.iaload, 1) := by decide +kernel
theorem dX0_costStreets_45 : decode cX0_costStreets 45 = .ok (.iload 6, 2) := by decide +kernel
theorem dX0_costStreets_47 : decode cX0_costStreets 47 = .ok (.imul, 1) := by decide +kernel
theorem dX0_costStreets_48 : decode cX0_costStreets 48 = .ok (.iload_n 3, 1) := by decide +kernel
theorem dX0_costStreets_49 : decode cX0_costStreets 49 = .ok (.invokestatic 50, 3) := by decide +kernel
theorem dX0_costStreets_52 : decode cX0_costStreets 52 = .ok (.istore 7, 2) := by decide +kernel
theorem dX0_costStreets_54 : decode cX0_costStreets 54 = .ok (.aload_n 1, 1) := by decide +kernel
theorem dX0_costStreets_55 : decode cX0_costStreets 55 = .ok (.getfield 54, 3) := by decide +kernel
theorem dX0_costStreets_58 : decode cX0_costStreets 58 = .ok (.iload 5, 2) := by decide +kernel
theorem dX0_costStreets_60 : decode cX0_costStreets 60 = .ok (.iaload, 1) := by decide +kernel
theorem dX0_costStreets_61 : decode cX0_costStreets 61 = .ok (.iconst 4, 1) := by decide +kernel
theorem dX0_costStreets_62 : decode cX0_costStreets 62 = .ok (.imul, 1) := by decide +kernel
theorem dX0_costStreets_63 : decode cX0_costStreets 63 = .ok (.iload_n 2, 1) := by decide +kernel
theorem dX0_costStreets_64 : decode cX0_costStreets 64 = .ok (.iadd, 1) := by decide +kernel
theorem dX0_costStreets_65 : decode cX0_costStreets 65 = .ok (.istore 8, 2) := by decide +kernel
theorem dX0_costStreets_67 : decode cX0_costStreets 67 = .ok (.aload_n 1, 1) := by decide +kernel
theorem dX0_costStreets_68 : decode cX0_costStreets 68 = .ok (.getfield 57, 3) := by decide +kernel
theorem dX0_costStreets_71 : decode cX0_costStreets 71 = .ok (.iload 5, 2) := by decide +kernel
theorem dX0_costStreets_73 : decode cX0_costStreets 73 = .ok (.iaload, 1) := by decide +kernel
theorem dX0_costStreets_74 : decode cX0_costStreets 74 = .ok (.iconst 4, 1) := by decide +kernel
theorem dX0_costStreets_75 : decode cX0_costStreets 75 = .ok (.imul, 1) := by decide +kernel
theorem dX0_costStreets_76 : decode cX0_costStreets 76 = .ok (.iload_n 2, 1) := by decide +kernel
theorem dX0_costStreets_77 : decode cX0_costStreets 77 = .ok (.iadd, 1) := by decide +kernel
theorem dX0_costStreets_78 : decode cX0_costStreets 78 = .ok (.istore 9, 2) := by decide +kernel
theorem dX0_costStreets_80 : decode cX0_costStreets 80 = .ok (.aload_n 0, 1) := by decide +kernel
theorem dX0_costStreets_81 : decode cX0_costStreets 81 = .ok (.iload 8, 2) := by decide +kernel
theorem dX0_costStreets_83 : decode cX0_costStreets 83 = .ok (.iload 9, 2) := by decide +kernel
theorem dX0_costStreets_85 : decode cX0_costStreets 85 = .ok (.iload 7, 2) := by decide +kernel
theorem dX0_costStreets_87 : decode cX0_costStreets 87 = .ok (.invokevirtual 60, 3) := by decide +kernel
theorem dX0_costStreets_90 : decode cX0_costStreets 90 = .ok (.ifCond .eq 6, 3) := by decide +kernel
theorem dX0_costStreets_93 : decode cX0_costStreets 93 = .ok (.iconst 1, 1) := by decide +kernel
theorem dX0_costStreets_94 : decode cX0_costStreets 94 = .ok (.istore 4, 2) := by decide +kernel
theorem dX0_costStreets_96 : decode cX0_costStreets 96 = .ok (.aload_n 0, 1) := by decide +kernel
theorem dX0_costStreets_97 : decode cX0_costStreets 97 = .ok (.iload 9, 2) := by decide +kernel
theorem dX0_costStreets_99 : decode cX0_costStreets 99 = .ok (.iload 8, 2) := by decide +kernel
theorem dX0_costStreets_101 : decode cX0_costStreets 101 = .ok (.iload 7, 2) := by decide +kernel
theorem dX0_costStreets_103 : decode cX0_costStreets 103 = .ok (.invokevirtual 60, 3) := by decide +kernel
theorem dX0_costStreets_106 : decode cX0_costStreets 106 = .ok (.ifCond .eq 6, 3) := by decide +kernel
theorem dX0_costStreets_109 : decode cX0_costStreets 109 = .ok (.iconst 1, 1) := by decide +kernel
theorem dX0_costStreets_110 : decode cX0_costStreets 110 = .ok (.istore 4, 2) := by decide +kernel
theorem dX0_costStreets_112 : decode cX0_costStreets 112 = .ok (.iinc 5 1, 3) := by decide +kernel
theorem dX0_costStreets_115 : decode cX0_costStreets 115 = .ok (.goto (-109), 3) := by decide +kernel
theorem dX0_costStreets_118 : decode cX0_costStreets 118 = .ok (.iload 4, 2) := by decide +kernel
theorem dX0_costStreets_120 : decode cX0_costStreets 120 = .ok (.ireturn, 1) := by decide +kernel
set_option maxRecDepth 20000 in
theorem ggX0_costHands_X0_costOf : GoodIn wsX0_costHands wsX0_costOf := goodIn_r _ [7] (by decide +kernel) (by decide +kernel)
set_option maxRecDepth 20000 in
theorem gX0_costHands_X0_costOf : GoodIn wsX0_costHands (va_wsS RX0 50 yX0_costOf wsX0_costOf) := goodIn_app (goodIn_of _ (by decide +kernel)) ggX0_costHands_X0_costOf
set_option maxRecDepth 20000 in
theorem ggX0_costHands_X4_isHis : GoodIn wsX0_costHands wsX4_isHis := goodIn_r _ [12, 13, 14, 15, 16, 11, 17, 18, 19, 20, 21, 22, 23, 30, 31, 32, 33, 34, 35, 36, 37, 38, 39, 40, 41, 42, 43, 44] (by decide +kernel) (by decide +kernel)
set_option maxRecDepth 20000 in
theorem gX0_costHands_X4_isHis : GoodIn wsX0_costHands (wsV RX0 70 RX4 yX4_isHis wsX4_isHis) := goodIn_app (goodIn_of _ (by decide +kernel)) ggX0_costHands_X4_isHis
set_option maxRecDepth 20000 in
theorem ggX0_costHands_X0_lower : GoodIn wsX0_costHands wsX0_lower := goodIn_r _ [27, 28, 29, 45, 46, 47, 48, 49] (by decide +kernel) (by decide +kernel)
set_option maxRecDepth 20000 in
theorem gX0_costHands_X0_lower : GoodIn wsX0_costHands (wsV RX0 60 RX0 yX0_lower wsX0_lower) := goodIn_app (goodIn_of _ (by decide +kernel)) ggX0_costHands_X0_lower
theorem dX0_costHands_0 : decode cX0_costHands 0 = .ok (.iconst 0, 1) := by decide +kernel
theorem dX0_costHands_1 : decode cX0_costHands 1 = .ok (.istore 4, 2) := by decide +kernel
theorem dX0_costHands_3 : decode cX0_costHands 3 = .ok (.aload_n 1, 1) := by decide +kernel
theorem dX0_costHands_4 : decode cX0_costHands 4 = .ok (.getfield 64, 3) := by decide +kernel
theorem dX0_costHands_7 : decode cX0_costHands 7 = .ok (.iconst 0, 1) := by decide +kernel
theorem dX0_costHands_8 : decode cX0_costHands 8 = .ok (.iload_n 3, 1) := by decide +kernel
theorem dX0_costHands_9 : decode cX0_costHands 9 = .ok (.invokestatic 50, 3) := by decide +kernel
theorem dX0_costHands_12 : decode cX0_costHands 12 = .ok (.istore 5, 2) := by decide +kernel
theorem dX0_costHands_14 : decode cX0_costHands 14 = .ok (.iconst 0, 1) := by decide +kernel
theorem dX0_costHands_15 : decode cX0_costHands 15 = .ok (.istore 6, 2) := by decide +kernel
theorem dX0_costHands_17 : decode cX0_costHands 17 = .ok (.iload 6, 2) := by decide +kernel
theorem dX0_costHands_19 : decode cX0_costHands 19 = .ok (.aload_n 1, 1) := by decide +kernel
theorem dX0_costHands_20 : decode cX0_costHands 20 = .ok (.getfield 67, 3) := by decide +kernel
theorem dX0_costHands_23 : decode cX0_costHands 23 = .ok (.if_icmp .ge 78, 3) := by decide +kernel
theorem dX0_costHands_26 : decode cX0_costHands 26 = .ok (.aload_n 1, 1) := by decide +kernel
theorem dX0_costHands_27 : decode cX0_costHands 27 = .ok (.iload_n 2, 1) := by decide +kernel
theorem dX0_costHands_28 : decode cX0_costHands 28 = .ok (.iload 6, 2) := by decide +kernel
theorem dX0_costHands_30 : decode cX0_costHands 30 = .ok (.invokevirtual 70, 3) := by decide +kernel
theorem dX0_costHands_33 : decode cX0_costHands 33 = .ok (.ifCond .ne 6, 3) := by decide +kernel
theorem dX0_costHands_36 : decode cX0_costHands 36 = .ok (.goto 59, 3) := by decide +kernel
theorem dX0_costHands_39 : decode cX0_costHands 39 = .ok (.iconst 0, 1) := by decide +kernel
theorem dX0_costHands_40 : decode cX0_costHands 40 = .ok (.istore 7, 2) := by decide +kernel
theorem dX0_costHands_42 : decode cX0_costHands 42 = .ok (.iload 7, 2) := by decide +kernel
theorem dX0_costHands_44 : decode cX0_costHands 44 = .ok (.aload_n 1, 1) := by decide +kernel
theorem dX0_costHands_45 : decode cX0_costHands 45 = .ok (.getfield 19, 3) := by decide +kernel
theorem dX0_costHands_48 : decode cX0_costHands 48 = .ok (.if_icmp .ge 47, 3) := by decide +kernel
theorem dX0_costHands_51 : decode cX0_costHands 51 = .ok (.iload 6, 2) := by decide +kernel
theorem dX0_costHands_53 : decode cX0_costHands 53 = .ok (.iconst 4, 1) := by decide +kernel
theorem dX0_costHands_54 : decode cX0_costHands 54 = .ok (.imul, 1) := by decide +kernel
theorem dX0_costHands_55 : decode cX0_costHands 55 = .ok (.istore 8, 2) := by decide +kernel
theorem dX0_costHands_57 : decode cX0_costHands 57 = .ok (.aload_n 1, 1) := by decide +kernel
theorem dX0_costHands_58 : decode cX0_costHands 58 = .ok (.iload 7, 2) := by decide +kernel
theorem dX0_costHands_60 : decode cX0_costHands 60 = .ok (.iload 6, 2) := by decide +kernel
theorem dX0_costHands_62 : decode cX0_costHands 62 = .ok (.invokevirtual 70, 3) := by decide +kernel
theorem dX0_costHands_65 : decode cX0_costHands 65 = .ok (.ifCond .eq 24, 3) := by decide +kernel
theorem dX0_costHands_68 : decode cX0_costHands 68 = .ok (.aload_n 0, 1) := by decide +kernel
theorem dX0_costHands_69 : decode cX0_costHands 69 = .ok (.iload 8, 2) := by decide +kernel
theorem dX0_costHands_71 : decode cX0_costHands 71 = .ok (.iload_n 2, 1) := by decide +kernel
theorem dX0_costHands_72 : decode cX0_costHands 72 = .ok (.iadd, 1) := by decide +kernel
theorem dX0_costHands_73 : decode cX0_costHands 73 = .ok (.iload 8, 2) := by decide +kernel
theorem dX0_costHands_75 : decode cX0_costHands 75 = .ok (.iload 7, 2) := by decide +kernel
theorem dX0_costHands_77 : decode cX0_costHands 77 = .ok (.iadd, 1) := by decide +kernel
theorem dX0_costHands_78 : decode cX0_costHands 78 = .ok (.iload 5, 2) := by decide +kernel
theorem dX0_costHands_80 : decode cX0_costHands 80 = .ok (.invokevirtual 60, 3) := by decide +kernel
theorem dX0_costHands_83 : decode cX0_costHands 83 = .ok (.ifCond .eq 6, 3) := by decide +kernel
theorem dX0_costHands_86 : decode cX0_costHands 86 = .ok (.iconst 1, 1) := by decide +kernel
theorem dX0_costHands_87 : decode cX0_costHands 87 = .ok (.istore 4, 2) := by decide +kernel
theorem dX0_costHands_89 : decode cX0_costHands 89 = .ok (.iinc 7 1, 3) := by decide +kernel
theorem dX0_costHands_92 : decode cX0_costHands 92 = .ok (.goto (-50), 3) := by decide +kernel
theorem dX0_costHands_95 : decode cX0_costHands 95 = .ok (.iinc 6 1, 3) := by decide +kernel
theorem dX0_costHands_98 : decode cX0_costHands 98 = .ok (.goto (-81), 3) := by decide +kernel
theorem dX0_costHands_101 : decode cX0_costHands 101 = .ok (.iload 4, 2) := by decide +kernel
theorem dX0_costHands_103 : decode cX0_costHands 103 = .ok (.ireturn, 1) := by decide +kernel
theorem dX0_lower_0 : decode cX0_lower 0 = .ok (.aload_n 0, 1) := by decide +kernel
theorem dX0_lower_1 : decode cX0_lower 1 = .ok (.getfield 11, 3) := by decide +kernel
theorem dX0_lower_4 : decode cX0_lower 4 = .ok (.iload_n 2, 1) := by decide +kernel
theorem dX0_lower_5 : decode cX0_lower 5 = .ok (.iaload, 1) := by decide +kernel
theorem dX0_lower_6 : decode cX0_lower 6 = .ok (.ldc 18, 2) := by decide +kernel
theorem dX0_lower_8 : decode cX0_lower 8 = .ok (.if_icmp .ge 20, 3) := by decide +kernel
theorem dX0_lower_11 : decode cX0_lower 11 = .ok (.aload_n 0, 1) := by decide +kernel
theorem dX0_lower_12 : decode cX0_lower 12 = .ok (.getfield 11, 3) := by decide +kernel
theorem dX0_lower_15 : decode cX0_lower 15 = .ok (.iload_n 2, 1) := by decide +kernel
theorem dX0_lower_16 : decode cX0_lower 16 = .ok (.iaload, 1) := by decide +kernel
theorem dX0_lower_17 : decode cX0_lower 17 = .ok (.iload_n 3, 1) := by decide +kernel
theorem dX0_lower_18 : decode cX0_lower 18 = .ok (.iadd, 1) := by decide +kernel
theorem dX0_lower_19 : decode cX0_lower 19 = .ok (.aload_n 0, 1) := by decide +kernel
theorem dX0_lower_20 : decode cX0_lower 20 = .ok (.getfield 11, 3) := by decide +kernel
theorem dX0_lower_23 : decode cX0_lower 23 = .ok (.iload_n 1, 1) := by decide +kernel
theorem dX0_lower_24 : decode cX0_lower 24 = .ok (.iaload, 1) := by decide +kernel
theorem dX0_lower_25 : decode cX0_lower 25 = .ok (.if_icmp .lt 5, 3) := by decide +kernel
theorem dX0_lower_28 : decode cX0_lower 28 = .ok (.iconst 0, 1) := by decide +kernel
theorem dX0_lower_29 : decode cX0_lower 29 = .ok (.ireturn, 1) := by decide +kernel
theorem dX0_lower_30 : decode cX0_lower 30 = .ok (.aload_n 0, 1) := by decide +kernel
theorem dX0_lower_31 : decode cX0_lower 31 = .ok (.getfield 11, 3) := by decide +kernel
theorem dX0_lower_34 : decode cX0_lower 34 = .ok (.iload_n 1, 1) := by decide +kernel
theorem dX0_lower_35 : decode cX0_lower 35 = .ok (.aload_n 0, 1) := by decide +kernel
theorem dX0_lower_36 : decode cX0_lower 36 = .ok (.getfield 11, 3) := by decide +kernel
theorem dX0_lower_39 : decode cX0_lower 39 = .ok (.iload_n 2, 1) := by decide +kernel
theorem dX0_lower_40 : decode cX0_lower 40 = .ok (.iaload, 1) := by decide +kernel
theorem dX0_lower_41 : decode cX0_lower 41 = .ok (.iload_n 3, 1) := by decide +kernel
theorem dX0_lower_42 : decode cX0_lower 42 = .ok (.iadd, 1) := by decide +kernel
theorem dX0_lower_43 : decode cX0_lower 43 = .ok (.iastore, 1) := by decide +kernel
theorem dX0_lower_44 : decode cX0_lower 44 = .ok (.iconst 1, 1) := by decide +kernel
theorem dX0_lower_45 : decode cX0_lower 45 = .ok (.ireturn, 1) := by decide +kernel
set_option maxRecDepth 20000 in
theorem ggX0_chooseFirst_X4_isHis : GoodIn wsX0_chooseFirst wsX4_isHis := goodIn_r _ [11, 12, 13, 14, 15, 10, 16, 17, 18, 19, 20, 21, 22, 28, 29, 30, 31, 32, 33, 34, 35, 36, 37, 38, 39, 40, 41, 42] (by decide +kernel) (by decide +kernel)
set_option maxRecDepth 20000 in
theorem gX0_chooseFirst_X4_isHis : GoodIn wsX0_chooseFirst (wsV RX0 70 RX4 yX4_isHis wsX4_isHis) := goodIn_app (goodIn_of _ (by decide +kernel)) ggX0_chooseFirst_X4_isHis
theorem dX0_chooseFirst_0 : decode cX0_chooseFirst 0 = .ok (.ldc 18, 2) := by decide +kernel
theorem dX0_chooseFirst_2 : decode cX0_chooseFirst 2 = .ok (.istore 4, 2) := by decide +kernel
theorem dX0_chooseFirst_4 : decode cX0_chooseFirst 4 = .ok (.aload_n 0, 1) := by decide +kernel
theorem dX0_chooseFirst_5 : decode cX0_chooseFirst 5 = .ok (.bipush (-9), 2) := by decide +kernel
theorem dX0_chooseFirst_7 : decode cX0_chooseFirst 7 = .ok (.putfield 73, 3) := by decide +kernel
theorem dX0_chooseFirst_10 : decode cX0_chooseFirst 10 = .ok (.iconst 0, 1) := by decide +kernel
theorem dX0_chooseFirst_11 : decode cX0_chooseFirst 11 = .ok (.istore 5, 2) := by decide +kernel
theorem dX0_chooseFirst_13 : decode cX0_chooseFirst 13 = .ok (.iload 5, 2) := by decide +kernel
theorem dX0_chooseFirst_15 : decode cX0_chooseFirst 15 = .ok (.aload_n 1, 1) := by decide +kernel
theorem dX0_chooseFirst_16 : decode cX0_chooseFirst 16 = .ok (.getfield 19, 3) := by decide +kernel
theorem dX0_chooseFirst_19 : decode cX0_chooseFirst 19 = .ok (.if_icmp .ge 49, 3) := by decide +kernel
theorem dX0_chooseFirst_22 : decode cX0_chooseFirst 22 = .ok (.aload_n 0, 1) := by decide +kernel
theorem dX0_chooseFirst_23 : decode cX0_chooseFirst 23 = .ok (.getfield 11, 3) := by decide +kernel
theorem dX0_chooseFirst_26 : decode cX0_chooseFirst 26 = .ok (.iload_n 2, 1) := by decide +kernel
theorem dX0_chooseFirst_27 : decode cX0_chooseFirst 27 = .ok (.iconst 4, 1) := by decide +kernel
theorem dX0_chooseFirst_28 : decode cX0_chooseFirst 28 = .ok (.imul, 1) := by decide +kernel
theorem dX0_chooseFirst_29 : decode cX0_chooseFirst 29 = .ok (.iload 5, 2) := by decide +kernel
theorem dX0_chooseFirst_31 : decode cX0_chooseFirst 31 = .ok (.iadd, 1) := by decide +kernel
theorem dX0_chooseFirst_32 : decode cX0_chooseFirst 32 = .ok (.iaload, 1) := by decide +kernel
theorem dX0_chooseFirst_33 : decode cX0_chooseFirst 33 = .ok (.istore 6, 2) := by decide +kernel
theorem dX0_chooseFirst_35 : decode cX0_chooseFirst 35 = .ok (.aload_n 1, 1) := by decide +kernel
theorem dX0_chooseFirst_36 : decode cX0_chooseFirst 36 = .ok (.iload 5, 2) := by decide +kernel
theorem dX0_chooseFirst_38 : decode cX0_chooseFirst 38 = .ok (.iload_n 2, 1) := by decide +kernel
theorem dX0_chooseFirst_39 : decode cX0_chooseFirst 39 = .ok (.invokevirtual 70, 3) := by decide +kernel
theorem dX0_chooseFirst_42 : decode cX0_chooseFirst 42 = .ok (.ifCond .eq 20, 3) := by decide +kernel
theorem dX0_chooseFirst_45 : decode cX0_chooseFirst 45 = .ok (.iload 6, 2) := by decide +kernel
theorem dX0_chooseFirst_47 : decode cX0_chooseFirst 47 = .ok (.iload 4, 2) := by decide +kernel
theorem dX0_chooseFirst_49 : decode cX0_chooseFirst 49 = .ok (.if_icmp .ge 13, 3) := by decide +kernel
theorem dX0_chooseFirst_52 : decode cX0_chooseFirst 52 = .ok (.iload 6, 2) := by decide +kernel
theorem dX0_chooseFirst_54 : decode cX0_chooseFirst 54 = .ok (.istore 4, 2) := by decide +kernel
theorem dX0_chooseFirst_56 : decode cX0_chooseFirst 56 = .ok (.aload_n 0, 1) := by decide +kernel
theorem dX0_chooseFirst_57 : decode cX0_chooseFirst 57 = .ok (.iload 5, 2) := by decide +kernel
theorem dX0_chooseFirst_59 : decode cX0_chooseFirst 59 = .ok (.putfield 73, 3) := by decide +kernel
theorem dX0_chooseFirst_62 : decode cX0_chooseFirst 62 = .ok (.iinc 5 1, 3) := by decide +kernel
theorem dX0_chooseFirst_65 : decode cX0_chooseFirst 65 = .ok (.goto (-52), 3) := by decide +kernel
theorem dX0_chooseFirst_68 : decode cX0_chooseFirst 68 = .ok (.iload 4, 2) := by decide +kernel
theorem dX0_chooseFirst_70 : decode cX0_chooseFirst 70 = .ok (.sipush 10000, 3) := by decide +kernel
theorem dX0_chooseFirst_73 : decode cX0_chooseFirst 73 = .ok (.idiv, 1) := by decide +kernel
theorem dX0_chooseFirst_74 : decode cX0_chooseFirst 74 = .ok (.istore 5, 2) := by decide +kernel
theorem dX0_chooseFirst_76 : decode cX0_chooseFirst 76 = .ok (.iload 4, 2) := by decide +kernel
theorem dX0_chooseFirst_78 : decode cX0_chooseFirst 78 = .ok (.sipush 10000, 3) := by decide +kernel
theorem dX0_chooseFirst_81 : decode cX0_chooseFirst 81 = .ok (.irem, 1) := by decide +kernel
theorem dX0_chooseFirst_82 : decode cX0_chooseFirst 82 = .ok (.istore 6, 2) := by decide +kernel
theorem dX0_chooseFirst_84 : decode cX0_chooseFirst 84 = .ok (.aload_n 0, 1) := by decide +kernel
theorem dX0_chooseFirst_85 : decode cX0_chooseFirst 85 = .ok (.aload_n 0, 1) := by decide +kernel
theorem dX0_chooseFirst_86 : decode cX0_chooseFirst 86 = .ok (.getfield 73, 3) := by decide +kernel
theorem dX0_chooseFirst_89 : decode cX0_chooseFirst 89 = .ok (.bipush (-9), 2) := by decide +kernel
theorem dX0_chooseFirst_91 : decode cX0_chooseFirst 91 = .ok (.if_icmp .ne 8, 3) := by decide +kernel
theorem dX0_chooseFirst_94 : decode cX0_chooseFirst 94 = .ok (.bipush (-9), 2) := by decide +kernel
theorem dX0_chooseFirst_96 : decode cX0_chooseFirst 96 = .ok (.goto 14, 3) := by decide +kernel
theorem dX0_chooseFirst_99 : decode cX0_chooseFirst 99 = .ok (.iload_n 3, 1) := by decide +kernel
theorem dX0_chooseFirst_100 : decode cX0_chooseFirst 100 = .ok (.ifCond .eq 8, 3) := by decide +kernel
theorem dX0_chooseFirst_103 : decode cX0_chooseFirst 103 = .ok (.iload 5, 2) := by decide +kernel
theorem dX0_chooseFirst_105 : decode cX0_chooseFirst 105 = .ok (.goto 5, 3) := by decide +kernel
theorem dX0_chooseFirst_108 : decode cX0_chooseFirst 108 = .ok (.iload 6, 2) := by decide +kernel
theorem dX0_chooseFirst_110 : decode cX0_chooseFirst 110 = .ok (.putfield 76, 3) := by decide +kernel
theorem dX0_chooseFirst_113 : decode cX0_chooseFirst 113 = .ok (.aload_n 0, 1) := by decide +kernel
theorem dX0_chooseFirst_114 : decode cX0_chooseFirst 114 = .ok (.aload_n 0, 1) := by decide +kernel
theorem dX0_chooseFirst_115 : decode cX0_chooseFirst 115 = .ok (.getfield 73, 3) := by decide +kernel
theorem dX0_chooseFirst_118 : decode cX0_chooseFirst 118 = .ok (.bipush (-9), 2) := by decide +kernel
theorem dX0_chooseFirst_120 : decode cX0_chooseFirst 120 = .ok (.if_icmp .ne 8, 3) := by decide +kernel
theorem dX0_chooseFirst_123 : decode cX0_chooseFirst 123 = .ok (.bipush (-9), 2) := by decide +kernel
theorem dX0_chooseFirst_125 : decode cX0_chooseFirst 125 = .ok (.goto 14, 3) := by decide +kernel
theorem dX0_chooseFirst_128 : decode cX0_chooseFirst 128 = .ok (.iload_n 3, 1) := by decide +kernel
theorem dX0_chooseFirst_129 : decode cX0_chooseFirst 129 = .ok (.ifCond .eq 8, 3) := by decide +kernel
theorem dX0_chooseFirst_132 : decode cX0_chooseFirst 132 = .ok (.iload 6, 2) := by decide +kernel
theorem dX0_chooseFirst_134 : decode cX0_chooseFirst 134 = .ok (.goto 5, 3) := by decide +kernel
theorem dX0_chooseFirst_137 : decode cX0_chooseFirst 137 = .ok (.iload 5, 2) := by decide +kernel
theorem dX0_chooseFirst_139 : decode cX0_chooseFirst 139 = .ok (.putfield 79, 3) := by decide +kernel
theorem dX0_chooseFirst_142 : decode cX0_chooseFirst 142 = .ok (.return_, 1) := by decide +kernel
set_option maxRecDepth 20000 in
theorem ggX0_minutesAlone_X4_thinFrom : GoodIn wsX0_minutesAlone wsX4_thinFrom := goodIn_r _ [6, 7, 8, 9, 5, 10, 11, 12, 27, 28, 29, 30, 31, 32, 33, 34, 35, 36, 37, 38, 39, 40, 41] (by decide +kernel) (by decide +kernel)
set_option maxRecDepth 20000 in
theorem gX0_minutesAlone_X4_thinFrom : GoodIn wsX0_minutesAlone (wsV RX0 82 RX4 yX4_thinFrom wsX4_thinFrom) := goodIn_app (goodIn_of _ (by decide +kernel)) ggX0_minutesAlone_X4_thinFrom
set_option maxRecDepth 20000 in
theorem ggX0_minutesAlone_X0_walkOn : GoodIn wsX0_minutesAlone wsX0_walkOn := goodIn_r _ [17, 18, 19, 1, 20, 21, 27, 28, 29, 30, 31, 32, 33, 34, 35, 36, 37, 38, 39, 40, 41, 22, 23, 24, 25, 26] (by decide +kernel) (by decide +kernel)
set_option maxRecDepth 20000 in
theorem gX0_minutesAlone_X0_walkOn : GoodIn wsX0_minutesAlone (wsV RX0 86 RX0 yX0_walkOn wsX0_walkOn) := goodIn_app (goodIn_of _ (by decide +kernel)) ggX0_minutesAlone_X0_walkOn
theorem dX0_minutesAlone_0 : decode cX0_minutesAlone 0 = .ok (.iconst 0, 1) := by decide +kernel
theorem dX0_minutesAlone_1 : decode cX0_minutesAlone 1 = .ok (.istore 5, 2) := by decide +kernel
theorem dX0_minutesAlone_3 : decode cX0_minutesAlone 3 = .ok (.iload 5, 2) := by decide +kernel
theorem dX0_minutesAlone_5 : decode cX0_minutesAlone 5 = .ok (.sipush 500, 3) := by decide +kernel
theorem dX0_minutesAlone_8 : decode cX0_minutesAlone 8 = .ok (.if_icmp .gt 17, 3) := by decide +kernel
theorem dX0_minutesAlone_11 : decode cX0_minutesAlone 11 = .ok (.aload_n 0, 1) := by decide +kernel
theorem dX0_minutesAlone_12 : decode cX0_minutesAlone 12 = .ok (.getfield 15, 3) := by decide +kernel
theorem dX0_minutesAlone_15 : decode cX0_minutesAlone 15 = .ok (.iload 5, 2) := by decide +kernel
theorem dX0_minutesAlone_17 : decode cX0_minutesAlone 17 = .ok (.iconst 0, 1) := by decide +kernel
theorem dX0_minutesAlone_18 : decode cX0_minutesAlone 18 = .ok (.iastore, 1) := by decide +kernel
theorem dX0_minutesAlone_19 : decode cX0_minutesAlone 19 = .ok (.iinc 5 1, 3) := by decide +kernel
theorem dX0_minutesAlone_22 : decode cX0_minutesAlone 22 = .ok (.goto (-19), 3) := by decide +kernel
theorem dX0_minutesAlone_25 : decode cX0_minutesAlone 25 = .ok (.aload_n 0, 1) := by decide +kernel
theorem dX0_minutesAlone_26 : decode cX0_minutesAlone 26 = .ok (.getfield 15, 3) := by decide +kernel
theorem dX0_minutesAlone_29 : decode cX0_minutesAlone 29 = .ok (.iconst 0, 1) := by decide +kernel
theorem dX0_minutesAlone_30 : decode cX0_minutesAlone 30 = .ok (.iconst 1, 1) := by decide +kernel
theorem dX0_minutesAlone_31 : decode cX0_minutesAlone 31 = .ok (.iload_n 2, 1) := by decide +kernel
theorem dX0_minutesAlone_32 : decode cX0_minutesAlone 32 = .ok (.ishl, 1) := by decide +kernel
theorem dX0_minutesAlone_33 : decode cX0_minutesAlone 33 = .ok (.iastore, 1) := by decide +kernel
theorem dX0_minutesAlone_34 : decode cX0_minutesAlone 34 = .ok (.iconst 0, 1) := by decide +kernel
theorem dX0_minutesAlone_35 : decode cX0_minutesAlone 35 = .ok (.istore 5, 2) := by decide +kernel
theorem dX0_minutesAlone_37 : decode cX0_minutesAlone 37 = .ok (.iload 5, 2) := by decide +kernel
theorem dX0_minutesAlone_39 : decode cX0_minutesAlone 39 = .ok (.sipush 500, 3) := by decide +kernel
theorem dX0_minutesAlone_42 : decode cX0_minutesAlone 42 = .ok (.if_icmp .gt 70, 3) := by decide +kernel
theorem dX0_minutesAlone_45 : decode cX0_minutesAlone 45 = .ok (.aload_n 0, 1) := by decide +kernel
theorem dX0_minutesAlone_46 : decode cX0_minutesAlone 46 = .ok (.getfield 15, 3) := by decide +kernel
theorem dX0_minutesAlone_49 : decode cX0_minutesAlone 49 = .ok (.iload 5, 2) := by decide +kernel
theorem dX0_minutesAlone_51 : decode cX0_minutesAlone 51 = .ok (.iaload, 1) := by decide +kernel
theorem dX0_minutesAlone_52 : decode cX0_minutesAlone 52 = .ok (.iload 4, 2) := by decide +kernel
theorem dX0_minutesAlone_54 : decode cX0_minutesAlone 54 = .ok (.ishr, 1) := by decide +kernel
theorem dX0_minutesAlone_55 : decode cX0_minutesAlone 55 = .ok (.iconst 1, 1) := by decide +kernel
theorem dX0_minutesAlone_56 : decode cX0_minutesAlone 56 = .ok (.iand, 1) := by decide +kernel
theorem dX0_minutesAlone_57 : decode cX0_minutesAlone 57 = .ok (.iconst 1, 1) := by decide +kernel
theorem dX0_minutesAlone_58 : decode cX0_minutesAlone 58 = .ok (.if_icmp .ne 6, 3) := by decide +kernel
theorem dX0_minutesAlone_61 : decode cX0_minutesAlone 61 = .ok (.iload 5, 2) := by decide +kernel
theorem dX0_minutesAlone_63 : decode cX0_minutesAlone 63 = .ok (.ireturn, 1) := by decide +kernel
theorem dX0_minutesAlone_64 : decode cX0_minutesAlone 64 = .ok (.iload 5, 2) := by decide +kernel
theorem dX0_minutesAlone_66 : decode cX0_minutesAlone 66 = .ok (.sipush 500, 3) := by decide +kernel
theorem dX0_minutesAlone_69 : decode cX0_minutesAlone 69 = .ok (.if_icmp .ge 22, 3) := by decide +kernel
theorem dX0_minutesAlone_72 : decode cX0_minutesAlone 72 = .ok (.aload_n 0, 1) := by decide +kernel
theorem dX0_minutesAlone_73 : decode cX0_minutesAlone 73 = .ok (.getfield 15, 3) := by decide +kernel
theorem dX0_minutesAlone_76 : decode cX0_minutesAlone 76 = .ok (.iload 5, 2) := by decide +kernel
theorem dX0_minutesAlone_78 : decode cX0_minutesAlone 78 = .ok (.iconst 1, 1) := by decide +kernel
theorem dX0_minutesAlone_79 : decode cX0_minutesAlone 79 = .ok (.iadd, 1) := by decide +kernel
theorem dX0_minutesAlone_80 : decode cX0_minutesAlone 80 = .ok (.dup2, 1) := by decide +kernel
theorem dX0_minutesAlone_81 : decode cX0_minutesAlone 81 = .ok (.iaload, 1) := by decide +kernel
theorem dX0_minutesAlone_82 : decode cX0_minutesAlone 82 = .ok (.aload_n 0, 1) := by decide +kernel
theorem dX0_minutesAlone_83 : decode cX0_minutesAlone 83 = .ok (.getfield 15, 3) := by decide +kernel
theorem dX0_minutesAlone_86 : decode cX0_minutesAlone 86 = .ok (.iload 5, 2) := by decide +kernel
theorem dX0_minutesAlone_88 : decode cX0_minutesAlone 88 = .ok (.iaload, 1) := by decide +kernel
theorem dX0_minutesAlone_89 : decode cX0_minutesAlone 89 = .ok (.ior, 1) := by decide +kernel
theorem dX0_minutesAlone_90 : decode cX0_minutesAlone 90 = .ok (.iastore, 1) := by decide +kernel
theorem dX0_minutesAlone_91 : decode cX0_minutesAlone 91 = .ok (.aload_n 0, 1) := by decide +kernel
theorem dX0_minutesAlone_92 : decode cX0_minutesAlone 92 = .ok (.aload_n 1, 1) := by decide +kernel
theorem dX0_minutesAlone_93 : decode cX0_minutesAlone 93 = .ok (.iload 5, 2) := by decide +kernel
theorem dX0_minutesAlone_95 : decode cX0_minutesAlone 95 = .ok (.aload_n 1, 1) := by decide +kernel
theorem dX0_minutesAlone_96 : decode cX0_minutesAlone 96 = .ok (.iload_n 3, 1) := by decide +kernel
theorem dX0_minutesAlone_97 : decode cX0_minutesAlone 97 = .ok (.iload 5, 2) := by decide +kernel
theorem dX0_minutesAlone_99 : decode cX0_minutesAlone 99 = .ok (.iadd, 1) := by decide +kernel
theorem dX0_minutesAlone_100 : decode cX0_minutesAlone 100 = .ok (.invokevirtual 82, 3) := by decide +kernel
theorem dX0_minutesAlone_103 : decode cX0_minutesAlone 103 = .ok (.invokevirtual 86, 3) := by decide +kernel
theorem dX0_minutesAlone_106 : decode cX0_minutesAlone 106 = .ok (.iinc 5 1, 3) := by decide +kernel
theorem dX0_minutesAlone_109 : decode cX0_minutesAlone 109 = .ok (.goto (-72), 3) := by decide +kernel
theorem dX0_minutesAlone_112 : decode cX0_minutesAlone 112 = .ok (.bipush (-9), 2) := by decide +kernel
theorem dX0_minutesAlone_114 : decode cX0_minutesAlone 114 = .ok (.ireturn, 1) := by decide +kernel
theorem dX0_walkOn_0 : decode cX0_walkOn 0 = .ok (.iconst 0, 1) := by decide +kernel
theorem dX0_walkOn_1 : decode cX0_walkOn 1 = .ok (.istore 4, 2) := by decide +kernel
theorem dX0_walkOn_3 : decode cX0_walkOn 3 = .ok (.iload 4, 2) := by decide +kernel
theorem dX0_walkOn_5 : decode cX0_walkOn 5 = .ok (.aload_n 1, 1) := by decide +kernel
theorem dX0_walkOn_6 : decode cX0_walkOn 6 = .ok (.getfield 36, 3) := by decide +kernel
theorem dX0_walkOn_9 : decode cX0_walkOn 9 = .ok (.if_icmp .ge 120, 3) := by decide +kernel
theorem dX0_walkOn_12 : decode cX0_walkOn 12 = .ok (.iload_n 2, 1) := by decide +kernel
theorem dX0_walkOn_13 : decode cX0_walkOn 13 = .ok (.aload_n 1, 1) := by decide +kernel
theorem dX0_walkOn_14 : decode cX0_walkOn 14 = .ok (.getfield 90, 3) := by decide +kernel
theorem dX0_walkOn_17 : decode cX0_walkOn 17 = .ok (.iload 4, 2) := by decide +kernel
theorem dX0_walkOn_19 : decode cX0_walkOn 19 = .ok (.iaload, 1) := by decide +kernel
theorem dX0_walkOn_20 : decode cX0_walkOn 20 = .ok (.iadd, 1) := by decide +kernel
theorem dX0_walkOn_21 : decode cX0_walkOn 21 = .ok (.istore 5, 2) := by decide +kernel
theorem dX0_walkOn_23 : decode cX0_walkOn 23 = .ok (.aload_n 1, 1) := by decide +kernel
theorem dX0_walkOn_24 : decode cX0_walkOn 24 = .ok (.getfield 90, 3) := by decide +kernel
theorem dX0_walkOn_27 : decode cX0_walkOn 27 = .ok (.iload 4, 2) := by decide +kernel
theorem dX0_walkOn_29 : decode cX0_walkOn 29 = .ok (.iaload, 1) := by decide +kernel
theorem dX0_walkOn_30 : decode cX0_walkOn 30 = .ok (.iload_n 3, 1) := by decide +kernel
theorem dX0_walkOn_31 : decode cX0_walkOn 31 = .ok (.if_icmp .gt 92, 3) := by decide +kernel
theorem dX0_walkOn_34 : decode cX0_walkOn 34 = .ok (.iload 5, 2) := by decide +kernel
theorem dX0_walkOn_36 : decode cX0_walkOn 36 = .ok (.sipush 500, 3) := by decide +kernel
theorem dX0_walkOn_39 : decode cX0_walkOn 39 = .ok (.if_icmp .le 6, 3) := by decide +kernel
theorem dX0_walkOn_42 : decode cX0_walkOn 42 = .ok (.goto 81, 3) := by decide +kernel
theorem dX0_walkOn_45 : decode cX0_walkOn 45 = .ok (.aload_n 0, 1) := by decide +kernel
theorem dX0_walkOn_46 : decode cX0_walkOn 46 = .ok (.getfield 15, 3) := by decide +kernel
theorem dX0_walkOn_49 : decode cX0_walkOn 49 = .ok (.iload_n 2, 1) := by decide +kernel
theorem dX0_walkOn_50 : decode cX0_walkOn 50 = .ok (.iaload, 1) := by decide +kernel
theorem dX0_walkOn_51 : decode cX0_walkOn 51 = .ok (.aload_n 1, 1) := by decide +kernel
theorem dX0_walkOn_52 : decode cX0_walkOn 52 = .ok (.getfield 54, 3) := by decide +kernel
theorem dX0_walkOn_55 : decode cX0_walkOn 55 = .ok (.iload 4, 2) := by decide +kernel
theorem dX0_walkOn_57 : decode cX0_walkOn 57 = .ok (.iaload, 1) := by decide +kernel
theorem dX0_walkOn_58 : decode cX0_walkOn 58 = .ok (.ishr, 1) := by decide +kernel
theorem dX0_walkOn_59 : decode cX0_walkOn 59 = .ok (.iconst 1, 1) := by decide +kernel
theorem dX0_walkOn_60 : decode cX0_walkOn 60 = .ok (.iand, 1) := by decide +kernel
theorem dX0_walkOn_61 : decode cX0_walkOn 61 = .ok (.iconst 1, 1) := by decide +kernel
theorem dX0_walkOn_62 : decode cX0_walkOn 62 = .ok (.if_icmp .ne 22, 3) := by decide +kernel
theorem dX0_walkOn_65 : decode cX0_walkOn 65 = .ok (.aload_n 0, 1) := by decide +kernel
theorem dX0_walkOn_66 : decode cX0_walkOn 66 = .ok (.getfield 15, 3) := by decide +kernel
theorem dX0_walkOn_69 : decode cX0_walkOn 69 = .ok (.iload 5, 2) := by decide +kernel
theorem dX0_walkOn_71 : decode cX0_walkOn 71 = .ok (.dup2, 1) := by decide +kernel
theorem dX0_walkOn_72 : decode cX0_walkOn 72 = .ok (.iaload, 1) := by decide +kernel
theorem dX0_walkOn_73 : decode cX0_walkOn 73 = .ok (.iconst 1, 1) := by decide +kernel
theorem dX0_walkOn_74 : decode cX0_walkOn 74 = .ok (.aload_n 1, 1) := by decide +kernel
theorem dX0_walkOn_75 : decode cX0_walkOn 75 = .ok (.getfield 57, 3) := by decide +kernel
theorem dX0_walkOn_78 : decode cX0_walkOn 78 = .ok (.iload 4, 2) := by decide +kernel
theorem dX0_walkOn_80 : decode cX0_walkOn 80 = .ok (.iaload, 1) := by decide +kernel
theorem dX0_walkOn_81 : decode cX0_walkOn 81 = .ok (.ishl, 1) := by decide +kernel
theorem dX0_walkOn_82 : decode cX0_walkOn 82 = .ok (.ior, 1) := by decide +kernel
theorem dX0_walkOn_83 : decode cX0_walkOn 83 = .ok (.iastore, 1) := by decide +kernel
theorem dX0_walkOn_84 : decode cX0_walkOn 84 = .ok (.aload_n 0, 1) := by decide +kernel
theorem dX0_walkOn_85 : decode cX0_walkOn 85 = .ok (.getfield 15, 3) := by decide +kernel
theorem dX0_walkOn_88 : decode cX0_walkOn 88 = .ok (.iload_n 2, 1) := by decide +kernel
theorem dX0_walkOn_89 : decode cX0_walkOn 89 = .ok (.iaload, 1) := by decide +kernel
theorem dX0_walkOn_90 : decode cX0_walkOn 90 = .ok (.aload_n 1, 1) := by decide +kernel
theorem dX0_walkOn_91 : decode cX0_walkOn 91 = .ok (.getfield 57, 3) := by decide +kernel
theorem dX0_walkOn_94 : decode cX0_walkOn 94 = .ok (.iload 4, 2) := by decide +kernel
theorem dX0_walkOn_96 : decode cX0_walkOn 96 = .ok (.iaload, 1) := by decide +kernel
theorem dX0_walkOn_97 : decode cX0_walkOn 97 = .ok (.ishr, 1) := by decide +kernel
theorem dX0_walkOn_98 : decode cX0_walkOn 98 = .ok (.iconst 1, 1) := by decide +kernel
theorem dX0_walkOn_99 : decode cX0_walkOn 99 = .ok (.iand, 1) := by decide +kernel
theorem dX0_walkOn_100 : decode cX0_walkOn 100 = .ok (.iconst 1, 1) := by decide +kernel
theorem dX0_walkOn_101 : decode cX0_walkOn 101 = .ok (.if_icmp .ne 22, 3) := by decide +kernel
theorem dX0_walkOn_104 : decode cX0_walkOn 104 = .ok (.aload_n 0, 1) := by decide +kernel
theorem dX0_walkOn_105 : decode cX0_walkOn 105 = .ok (.getfield 15, 3) := by decide +kernel
theorem dX0_walkOn_108 : decode cX0_walkOn 108 = .ok (.iload 5, 2) := by decide +kernel
theorem dX0_walkOn_110 : decode cX0_walkOn 110 = .ok (.dup2, 1) := by decide +kernel
theorem dX0_walkOn_111 : decode cX0_walkOn 111 = .ok (.iaload, 1) := by decide +kernel
theorem dX0_walkOn_112 : decode cX0_walkOn 112 = .ok (.iconst 1, 1) := by decide +kernel
theorem dX0_walkOn_113 : decode cX0_walkOn 113 = .ok (.aload_n 1, 1) := by decide +kernel
theorem dX0_walkOn_114 : decode cX0_walkOn 114 = .ok (.getfield 54, 3) := by decide +kernel
theorem dX0_walkOn_117 : decode cX0_walkOn 117 = .ok (.iload 4, 2) := by decide +kernel
theorem dX0_walkOn_119 : decode cX0_walkOn 119 = .ok (.iaload, 1) := by decide +kernel
theorem dX0_walkOn_120 : decode cX0_walkOn 120 = .ok (.ishl, 1) := by decide +kernel
theorem dX0_walkOn_121 : decode cX0_walkOn 121 = .ok (.ior, 1) := by decide +kernel
theorem dX0_walkOn_122 : decode cX0_walkOn 122 = .ok (.iastore, 1) := by decide +kernel
theorem dX0_walkOn_123 : decode cX0_walkOn 123 = .ok (.iinc 4 1, 3) := by decide +kernel
theorem dX0_walkOn_126 : decode cX0_walkOn 126 = .ok (.goto (-123), 3) := by decide +kernel
theorem dX0_walkOn_129 : decode cX0_walkOn 129 = .ok (.return_, 1) := by decide +kernel
theorem dX1_init_0 : decode cX1_init 0 = .ok (.aload_n 0, 1) := by decide +kernel
theorem dX1_init_1 : decode cX1_init 1 = .ok (.invokespecial 3, 3) := by decide +kernel
theorem dX1_init_4 : decode cX1_init 4 = .ok (.aload_n 0, 1) := by decide +kernel
theorem dX1_init_5 : decode cX1_init 5 = .ok (.bipush 10, 2) := by decide +kernel
theorem dX1_init_7 : decode cX1_init 7 = .ok (.newarray .int, 2) := by decide +kernel
theorem dX1_init_9 : decode cX1_init 9 = .ok (.putfield 9, 3) := by decide +kernel
theorem dX1_init_12 : decode cX1_init 12 = .ok (.aload_n 0, 1) := by decide +kernel
theorem dX1_init_13 : decode cX1_init 13 = .ok (.bipush 10, 2) := by decide +kernel
theorem dX1_init_15 : decode cX1_init 15 = .ok (.newarray .int, 2) := by decide +kernel
theorem dX1_init_17 : decode cX1_init 17 = .ok (.putfield 15, 3) := by decide +kernel
theorem dX1_init_20 : decode cX1_init 20 = .ok (.aload_n 0, 1) := by decide +kernel
theorem dX1_init_21 : decode cX1_init 21 = .ok (.bipush 10, 2) := by decide +kernel
theorem dX1_init_23 : decode cX1_init 23 = .ok (.newarray .int, 2) := by decide +kernel
theorem dX1_init_25 : decode cX1_init 25 = .ok (.putfield 18, 3) := by decide +kernel
theorem dX1_init_28 : decode cX1_init 28 = .ok (.aload_n 0, 1) := by decide +kernel
theorem dX1_init_29 : decode cX1_init 29 = .ok (.bipush 10, 2) := by decide +kernel
theorem dX1_init_31 : decode cX1_init 31 = .ok (.newarray .int, 2) := by decide +kernel
theorem dX1_init_33 : decode cX1_init 33 = .ok (.putfield 21, 3) := by decide +kernel
theorem dX1_init_36 : decode cX1_init 36 = .ok (.aload_n 0, 1) := by decide +kernel
theorem dX1_init_37 : decode cX1_init 37 = .ok (.bipush (-9), 2) := by decide +kernel
theorem dX1_init_39 : decode cX1_init 39 = .ok (.putfield 24, 3) := by decide +kernel
theorem dX1_init_42 : decode cX1_init 42 = .ok (.return_, 1) := by decide +kernel
theorem dX1_startAnew_0 : decode cX1_startAnew 0 = .ok (.aload_n 0, 1) := by decide +kernel
theorem dX1_startAnew_1 : decode cX1_startAnew 1 = .ok (.iconst 0, 1) := by decide +kernel
theorem dX1_startAnew_2 : decode cX1_startAnew 2 = .ok (.putfield 28, 3) := by decide +kernel
theorem dX1_startAnew_5 : decode cX1_startAnew 5 = .ok (.aload_n 0, 1) := by decide +kernel
theorem dX1_startAnew_6 : decode cX1_startAnew 6 = .ok (.iconst 0, 1) := by decide +kernel
theorem dX1_startAnew_7 : decode cX1_startAnew 7 = .ok (.putfield 31, 3) := by decide +kernel
theorem dX1_startAnew_10 : decode cX1_startAnew 10 = .ok (.aload_n 0, 1) := by decide +kernel
theorem dX1_startAnew_11 : decode cX1_startAnew 11 = .ok (.iconst 0, 1) := by decide +kernel
theorem dX1_startAnew_12 : decode cX1_startAnew 12 = .ok (.putfield 34, 3) := by decide +kernel
theorem dX1_startAnew_15 : decode cX1_startAnew 15 = .ok (.aload_n 0, 1) := by decide +kernel
theorem dX1_startAnew_16 : decode cX1_startAnew 16 = .ok (.bipush (-9), 2) := by decide +kernel
theorem dX1_startAnew_18 : decode cX1_startAnew 18 = .ok (.putfield 24, 3) := by decide +kernel
theorem dX1_startAnew_21 : decode cX1_startAnew 21 = .ok (.aload_n 0, 1) := by decide +kernel
theorem dX1_startAnew_22 : decode cX1_startAnew 22 = .ok (.iconst 0, 1) := by decide +kernel
theorem dX1_startAnew_23 : decode cX1_startAnew 23 = .ok (.putfield 37, 3) := by decide +kernel
theorem dX1_startAnew_26 : decode cX1_startAnew 26 = .ok (.return_, 1) := by decide +kernel
set_option maxRecDepth 20000 in
theorem ggX1_step_X1_remember : GoodIn wsX1_step wsX1_remember := goodIn_r _ [9, 10, 11, 1, 12, 2, 13, 3, 14, 4, 15, 16, 17, 8, 18, 19, 20, 21, 22, 23, 24, 25, 26, 27, 28, 29, 30, 31] (by decide +kernel) (by decide +kernel)
set_option maxRecDepth 20000 in
theorem gX1_step_X1_remember : GoodIn wsX1_step (wsV RX1 40 RX1 yX1_remember wsX1_remember) := goodIn_app (goodIn_of _ (by decide +kernel)) ggX1_step_X1_remember
theorem dX1_step_0 : decode cX1_step 0 = .ok (.aload_n 0, 1) := by decide +kernel
theorem dX1_step_1 : decode cX1_step 1 = .ok (.invokevirtual 40, 3) := by decide +kernel
theorem dX1_step_4 : decode cX1_step 4 = .ok (.aload_n 0, 1) := by decide +kernel
theorem dX1_step_5 : decode cX1_step 5 = .ok (.iload_n 1, 1) := by decide +kernel
theorem dX1_step_6 : decode cX1_step 6 = .ok (.putfield 28, 3) := by decide +kernel
theorem dX1_step_9 : decode cX1_step 9 = .ok (.aload_n 0, 1) := by decide +kernel
theorem dX1_step_10 : decode cX1_step 10 = .ok (.dup, 1) := by decide +kernel
theorem dX1_step_11 : decode cX1_step 11 = .ok (.getfield 31, 3) := by decide +kernel
theorem dX1_step_14 : decode cX1_step 14 = .ok (.iload_n 2, 1) := by decide +kernel
theorem dX1_step_15 : decode cX1_step 15 = .ok (.iadd, 1) := by decide +kernel
theorem dX1_step_16 : decode cX1_step 16 = .ok (.putfield 31, 3) := by decide +kernel
theorem dX1_step_19 : decode cX1_step 19 = .ok (.aload_n 0, 1) := by decide +kernel
theorem dX1_step_20 : decode cX1_step 20 = .ok (.dup, 1) := by decide +kernel
theorem dX1_step_21 : decode cX1_step 21 = .ok (.getfield 34, 3) := by decide +kernel
theorem dX1_step_24 : decode cX1_step 24 = .ok (.iload_n 3, 1) := by decide +kernel
theorem dX1_step_25 : decode cX1_step 25 = .ok (.iadd, 1) := by decide +kernel
theorem dX1_step_26 : decode cX1_step 26 = .ok (.putfield 34, 3) := by decide +kernel
theorem dX1_step_29 : decode cX1_step 29 = .ok (.aload_n 0, 1) := by decide +kernel
theorem dX1_step_30 : decode cX1_step 30 = .ok (.iload 4, 2) := by decide +kernel
theorem dX1_step_32 : decode cX1_step 32 = .ok (.putfield 24, 3) := by decide +kernel
theorem dX1_step_35 : decode cX1_step 35 = .ok (.return_, 1) := by decide +kernel
set_option maxRecDepth 20000 in
theorem ggX1_remember_X1_loseOldest : GoodIn wsX1_remember wsX1_loseOldest := goodIn_r _ [14, 1, 2, 15, 16, 17, 18, 4, 6, 8, 19, 20, 21, 22, 23, 24, 25, 26, 27] (by decide +kernel) (by decide +kernel)
set_option maxRecDepth 20000 in
theorem gX1_remember_X1_loseOldest : GoodIn wsX1_remember (wsV RX1 43 RX1 yX1_loseOldest wsX1_loseOldest) := goodIn_app (goodIn_of _ (by decide +kernel)) ggX1_remember_X1_loseOldest
theorem dX1_remember_0 : decode cX1_remember 0 = .ok (.aload_n 0, 1) := by decide +kernel
theorem dX1_remember_1 : decode cX1_remember 1 = .ok (.getfield 37, 3) := by decide +kernel
theorem dX1_remember_4 : decode cX1_remember 4 = .ok (.bipush 10, 2) := by decide +kernel
theorem dX1_remember_6 : decode cX1_remember 6 = .ok (.if_icmp .lt 7, 3) := by decide +kernel
theorem dX1_remember_9 : decode cX1_remember 9 = .ok (.aload_n 0, 1) := by decide +kernel
theorem dX1_remember_10 : decode cX1_remember 10 = .ok (.invokevirtual 43, 3) := by decide +kernel
theorem dX1_remember_13 : decode cX1_remember 13 = .ok (.aload_n 0, 1) := by decide +kernel
theorem dX1_remember_14 : decode cX1_remember 14 = .ok (.getfield 9, 3) := by decide +kernel
theorem dX1_remember_17 : decode cX1_remember 17 = .ok (.aload_n 0, 1) := by decide +kernel
theorem dX1_remember_18 : decode cX1_remember 18 = .ok (.getfield 37, 3) := by decide +kernel
theorem dX1_remember_21 : decode cX1_remember 21 = .ok (.aload_n 0, 1) := by decide +kernel
theorem dX1_remember_22 : decode cX1_remember 22 = .ok (.getfield 28, 3) := by decide +kernel
theorem dX1_remember_25 : decode cX1_remember 25 = .ok (.iastore, 1) := by decide +kernel
theorem dX1_remember_26 : decode cX1_remember 26 = .ok (.aload_n 0, 1) := by decide +kernel
theorem dX1_remember_27 : decode cX1_remember 27 = .ok (.getfield 15, 3) := by decide +kernel
theorem dX1_remember_30 : decode cX1_remember 30 = .ok (.aload_n 0, 1) := by decide +kernel
theorem dX1_remember_31 : decode cX1_remember 31 = .ok (.getfield 37, 3) := by decide +kernel
theorem dX1_remember_34 : decode cX1_remember 34 = .ok (.aload_n 0, 1) := by decide +kernel
theorem dX1_remember_35 : decode cX1_remember 35 = .ok (.getfield 31, 3) := by decide +kernel
theorem dX1_remember_38 : decode cX1_remember 38 = .ok (.iastore, 1) := by decide +kernel
theorem dX1_remember_39 : decode cX1_remember 39 = .ok (.aload_n 0, 1) := by decide +kernel
theorem dX1_remember_40 : decode cX1_remember 40 = .ok (.getfield 18, 3) := by decide +kernel
theorem dX1_remember_43 : decode cX1_remember 43 = .ok (.aload_n 0, 1) := by decide +kernel
theorem dX1_remember_44 : decode cX1_remember 44 = .ok (.getfield 37, 3) := by decide +kernel
theorem dX1_remember_47 : decode cX1_remember 47 = .ok (.aload_n 0, 1) := by decide +kernel
theorem dX1_remember_48 : decode cX1_remember 48 = .ok (.getfield 34, 3) := by decide +kernel
theorem dX1_remember_51 : decode cX1_remember 51 = .ok (.iastore, 1) := by decide +kernel
theorem dX1_remember_52 : decode cX1_remember 52 = .ok (.aload_n 0, 1) := by decide +kernel
theorem dX1_remember_53 : decode cX1_remember 53 = .ok (.getfield 21, 3) := by decide +kernel
theorem dX1_remember_56 : decode cX1_remember 56 = .ok (.aload_n 0, 1) := by decide +kernel
theorem dX1_remember_57 : decode cX1_remember 57 = .ok (.getfield 37, 3) := by decide +kernel
theorem dX1_remember_60 : decode cX1_remember 60 = .ok (.aload_n 0, 1) := by decide +kernel
theorem dX1_remember_61 : decode cX1_remember 61 = .ok (.getfield 24, 3) := by decide +kernel
theorem dX1_remember_64 : decode cX1_remember 64 = .ok (.iastore, 1) := by decide +kernel
theorem dX1_remember_65 : decode cX1_remember 65 = .ok (.aload_n 0, 1) := by decide +kernel
theorem dX1_remember_66 : decode cX1_remember 66 = .ok (.dup, 1) := by decide +kernel
theorem dX1_remember_67 : decode cX1_remember 67 = .ok (.getfield 37, 3) := by decide +kernel
theorem dX1_remember_70 : decode cX1_remember 70 = .ok (.iconst 1, 1) := by decide +kernel
theorem dX1_remember_71 : decode cX1_remember 71 = .ok (.iadd, 1) := by decide +kernel
theorem dX1_remember_72 : decode cX1_remember 72 = .ok (.putfield 37, 3) := by decide +kernel
theorem dX1_remember_75 : decode cX1_remember 75 = .ok (.return_, 1) := by decide +kernel
theorem dX1_loseOldest_0 : decode cX1_loseOldest 0 = .ok (.aload_n 0, 1) := by decide +kernel
theorem dX1_loseOldest_1 : decode cX1_loseOldest 1 = .ok (.bipush 9, 2) := by decide +kernel
theorem dX1_loseOldest_3 : decode cX1_loseOldest 3 = .ok (.putfield 37, 3) := by decide +kernel
theorem dX1_loseOldest_6 : decode cX1_loseOldest 6 = .ok (.aload_n 0, 1) := by decide +kernel
theorem dX1_loseOldest_7 : decode cX1_loseOldest 7 = .ok (.getfield 9, 3) := by decide +kernel
theorem dX1_loseOldest_10 : decode cX1_loseOldest 10 = .ok (.iconst 1, 1) := by decide +kernel
theorem dX1_loseOldest_11 : decode cX1_loseOldest 11 = .ok (.aload_n 0, 1) := by decide +kernel
theorem dX1_loseOldest_12 : decode cX1_loseOldest 12 = .ok (.getfield 9, 3) := by decide +kernel
theorem dX1_loseOldest_15 : decode cX1_loseOldest 15 = .ok (.iconst 0, 1) := by decide +kernel
theorem dX1_loseOldest_16 : decode cX1_loseOldest 16 = .ok (.aload_n 0, 1) := by decide +kernel
theorem dX1_loseOldest_17 : decode cX1_loseOldest 17 = .ok (.getfield 37, 3) := by decide +kernel
theorem dX1_loseOldest_20 : decode cX1_loseOldest 20 = .ok (.invokestatic 46, 3) := by decide +kernel
theorem dX1_loseOldest_23 : decode cX1_loseOldest 23 = .ok (.aload_n 0, 1) := by decide +kernel
theorem dX1_loseOldest_24 : decode cX1_loseOldest 24 = .ok (.getfield 15, 3) := by decide +kernel
theorem dX1_loseOldest_27 : decode cX1_loseOldest 27 = .ok (.iconst 1, 1) := by decide +kernel
theorem dX1_loseOldest_28 : decode cX1_loseOldest 28 = .ok (.aload_n 0, 1) := by decide +kernel
theorem dX1_loseOldest_29 : decode cX1_loseOldest 29 = .ok (.getfield 15, 3) := by decide +kernel
theorem dX1_loseOldest_32 : decode cX1_loseOldest 32 = .ok (.iconst 0, 1) := by decide +kernel
theorem dX1_loseOldest_33 : decode cX1_loseOldest 33 = .ok (.aload_n 0, 1) := by decide +kernel
theorem dX1_loseOldest_34 : decode cX1_loseOldest 34 = .ok (.getfield 37, 3) := by decide +kernel
theorem dX1_loseOldest_37 : decode cX1_loseOldest 37 = .ok (.invokestatic 46, 3) := by decide +kernel
theorem dX1_loseOldest_40 : decode cX1_loseOldest 40 = .ok (.aload_n 0, 1) := by decide +kernel
theorem dX1_loseOldest_41 : decode cX1_loseOldest 41 = .ok (.getfield 18, 3) := by decide +kernel
theorem dX1_loseOldest_44 : decode cX1_loseOldest 44 = .ok (.iconst 1, 1) := by decide +kernel
theorem dX1_loseOldest_45 : decode cX1_loseOldest 45 = .ok (.aload_n 0, 1) := by decide +kernel
theorem dX1_loseOldest_46 : decode cX1_loseOldest 46 = .ok (.getfield 18, 3) := by decide +kernel
theorem dX1_loseOldest_49 : decode cX1_loseOldest 49 = .ok (.iconst 0, 1) := by decide +kernel
theorem dX1_loseOldest_50 : decode cX1_loseOldest 50 = .ok (.aload_n 0, 1) := by decide +kernel
theorem dX1_loseOldest_51 : decode cX1_loseOldest 51 = .ok (.getfield 37, 3) := by decide +kernel
theorem dX1_loseOldest_54 : decode cX1_loseOldest 54 = .ok (.invokestatic 46, 3) := by decide +kernel
theorem dX1_loseOldest_57 : decode cX1_loseOldest 57 = .ok (.aload_n 0, 1) := by decide +kernel
theorem dX1_loseOldest_58 : decode cX1_loseOldest 58 = .ok (.getfield 21, 3) := by decide +kernel
theorem dX1_loseOldest_61 : decode cX1_loseOldest 61 = .ok (.iconst 1, 1) := by decide +kernel
theorem dX1_loseOldest_62 : decode cX1_loseOldest 62 = .ok (.aload_n 0, 1) := by decide +kernel
theorem dX1_loseOldest_63 : decode cX1_loseOldest 63 = .ok (.getfield 21, 3) := by decide +kernel
theorem dX1_loseOldest_66 : decode cX1_loseOldest 66 = .ok (.iconst 0, 1) := by decide +kernel
theorem dX1_loseOldest_67 : decode cX1_loseOldest 67 = .ok (.aload_n 0, 1) := by decide +kernel
theorem dX1_loseOldest_68 : decode cX1_loseOldest 68 = .ok (.getfield 37, 3) := by decide +kernel
theorem dX1_loseOldest_71 : decode cX1_loseOldest 71 = .ok (.invokestatic 46, 3) := by decide +kernel
theorem dX1_loseOldest_74 : decode cX1_loseOldest 74 = .ok (.return_, 1) := by decide +kernel
theorem dX1_takeBack_0 : decode cX1_takeBack 0 = .ok (.aload_n 0, 1) := by decide +kernel
theorem dX1_takeBack_1 : decode cX1_takeBack 1 = .ok (.getfield 37, 3) := by decide +kernel
theorem dX1_takeBack_4 : decode cX1_takeBack 4 = .ok (.iconst 1, 1) := by decide +kernel
theorem dX1_takeBack_5 : decode cX1_takeBack 5 = .ok (.if_icmp .ge 5, 3) := by decide +kernel
theorem dX1_takeBack_8 : decode cX1_takeBack 8 = .ok (.iconst 0, 1) := by decide +kernel
theorem dX1_takeBack_9 : decode cX1_takeBack 9 = .ok (.ireturn, 1) := by decide +kernel
theorem dX1_takeBack_10 : decode cX1_takeBack 10 = .ok (.aload_n 0, 1) := by decide +kernel
theorem dX1_takeBack_11 : decode cX1_takeBack 11 = .ok (.dup, 1) := by decide +kernel
theorem dX1_takeBack_12 : decode cX1_takeBack 12 = .ok (.getfield 37, 3) := by decide +kernel
theorem dX1_takeBack_15 : decode cX1_takeBack 15 = .ok (.iconst 1, 1) := by decide +kernel
theorem dX1_takeBack_16 : decode cX1_takeBack 16 = .ok (.isub, 1) := by decide +kernel
theorem dX1_takeBack_17 : decode cX1_takeBack 17 = .ok (.putfield 37, 3) := by decide +kernel
theorem dX1_takeBack_20 : decode cX1_takeBack 20 = .ok (.aload_n 0, 1) := by decide +kernel
theorem dX1_takeBack_21 : decode cX1_takeBack 21 = .ok (.aload_n 0, 1) := by decide +kernel
theorem dX1_takeBack_22 : decode cX1_takeBack 22 = .ok (.getfield 9, 3) := by decide +kernel
theorem dX1_takeBack_25 : decode cX1_takeBack 25 = .ok (.aload_n 0, 1) := by decide +kernel
theorem dX1_takeBack_26 : decode cX1_takeBack 26 = .ok (.getfield 37, 3) := by decide +kernel
theorem dX1_takeBack_29 : decode cX1_takeBack 29 = .ok (.iaload, 1) := by decide +kernel
theorem dX1_takeBack_30 : decode cX1_takeBack 30 = .ok (.putfield 28, 3) := by decide +kernel
theorem dX1_takeBack_33 : decode cX1_takeBack 33 = .ok (.aload_n 0, 1) := by decide +kernel
theorem dX1_takeBack_34 : decode cX1_takeBack 34 = .ok (.aload_n 0, 1) := by decide +kernel
theorem dX1_takeBack_35 : decode cX1_takeBack 35 = .ok (.getfield 15, 3) := by decide +kernel
theorem dX1_takeBack_38 : decode cX1_takeBack 38 = .ok (.aload_n 0, 1) := by decide +kernel
theorem dX1_takeBack_39 : decode cX1_takeBack 39 = .ok (.getfield 37, 3) := by decide +kernel
theorem dX1_takeBack_42 : decode cX1_takeBack 42 = .ok (.iaload, 1) := by decide +kernel
theorem dX1_takeBack_43 : decode cX1_takeBack 43 = .ok (.putfield 31, 3) := by decide +kernel
theorem dX1_takeBack_46 : decode cX1_takeBack 46 = .ok (.aload_n 0, 1) := by decide +kernel
theorem dX1_takeBack_47 : decode cX1_takeBack 47 = .ok (.aload_n 0, 1) := by decide +kernel
theorem dX1_takeBack_48 : decode cX1_takeBack 48 = .ok (.getfield 18, 3) := by decide +kernel
theorem dX1_takeBack_51 : decode cX1_takeBack 51 = .ok (.aload_n 0, 1) := by decide +kernel
theorem dX1_takeBack_52 : decode cX1_takeBack 52 = .ok (.getfield 37, 3) := by decide +kernel
theorem dX1_takeBack_55 : decode cX1_takeBack 55 = .ok (.iaload, 1) := by decide +kernel
theorem dX1_takeBack_56 : decode cX1_takeBack 56 = .ok (.putfield 34, 3) := by decide +kernel
theorem dX1_takeBack_59 : decode cX1_takeBack 59 = .ok (.aload_n 0, 1) := by decide +kernel
theorem dX1_takeBack_60 : decode cX1_takeBack 60 = .ok (.aload_n 0, 1) := by decide +kernel
theorem dX1_takeBack_61 : decode cX1_takeBack 61 = .ok (.getfield 21, 3) := by decide +kernel
theorem dX1_takeBack_64 : decode cX1_takeBack 64 = .ok (.aload_n 0, 1) := by decide +kernel
theorem dX1_takeBack_65 : decode cX1_takeBack 65 = .ok (.getfield 37, 3) := by decide +kernel
theorem dX1_takeBack_68 : decode cX1_takeBack 68 = .ok (.iaload, 1) := by decide +kernel
theorem dX1_takeBack_69 : decode cX1_takeBack 69 = .ok (.putfield 24, 3) := by decide +kernel
theorem dX1_takeBack_72 : decode cX1_takeBack 72 = .ok (.iconst 1, 1) := by decide +kernel
theorem dX1_takeBack_73 : decode cX1_takeBack 73 = .ok (.ireturn, 1) := by decide +kernel
theorem dX1_become_0 : decode cX1_become 0 = .ok (.aload_n 0, 1) := by decide +kernel
theorem dX1_become_1 : decode cX1_become 1 = .ok (.aload_n 1, 1) := by decide +kernel
theorem dX1_become_2 : decode cX1_become 2 = .ok (.getfield 28, 3) := by decide +kernel
theorem dX1_become_5 : decode cX1_become 5 = .ok (.putfield 28, 3) := by decide +kernel
theorem dX1_become_8 : decode cX1_become 8 = .ok (.aload_n 0, 1) := by decide +kernel
theorem dX1_become_9 : decode cX1_become 9 = .ok (.aload_n 1, 1) := by decide +kernel
theorem dX1_become_10 : decode cX1_become 10 = .ok (.getfield 31, 3) := by decide +kernel
theorem dX1_become_13 : decode cX1_become 13 = .ok (.putfield 31, 3) := by decide +kernel
theorem dX1_become_16 : decode cX1_become 16 = .ok (.aload_n 0, 1) := by decide +kernel
theorem dX1_become_17 : decode cX1_become 17 = .ok (.aload_n 1, 1) := by decide +kernel
theorem dX1_become_18 : decode cX1_become 18 = .ok (.getfield 34, 3) := by decide +kernel
theorem dX1_become_21 : decode cX1_become 21 = .ok (.putfield 34, 3) := by decide +kernel
theorem dX1_become_24 : decode cX1_become 24 = .ok (.aload_n 0, 1) := by decide +kernel
theorem dX1_become_25 : decode cX1_become 25 = .ok (.aload_n 1, 1) := by decide +kernel
theorem dX1_become_26 : decode cX1_become 26 = .ok (.getfield 24, 3) := by decide +kernel
theorem dX1_become_29 : decode cX1_become 29 = .ok (.putfield 24, 3) := by decide +kernel
theorem dX1_become_32 : decode cX1_become 32 = .ok (.aload_n 0, 1) := by decide +kernel
theorem dX1_become_33 : decode cX1_become 33 = .ok (.aload_n 1, 1) := by decide +kernel
theorem dX1_become_34 : decode cX1_become 34 = .ok (.getfield 37, 3) := by decide +kernel
theorem dX1_become_37 : decode cX1_become 37 = .ok (.putfield 37, 3) := by decide +kernel
theorem dX1_become_40 : decode cX1_become 40 = .ok (.aload_n 1, 1) := by decide +kernel
theorem dX1_become_41 : decode cX1_become 41 = .ok (.getfield 9, 3) := by decide +kernel
theorem dX1_become_44 : decode cX1_become 44 = .ok (.iconst 0, 1) := by decide +kernel
theorem dX1_become_45 : decode cX1_become 45 = .ok (.aload_n 0, 1) := by decide +kernel
theorem dX1_become_46 : decode cX1_become 46 = .ok (.getfield 9, 3) := by decide +kernel
theorem dX1_become_49 : decode cX1_become 49 = .ok (.iconst 0, 1) := by decide +kernel
theorem dX1_become_50 : decode cX1_become 50 = .ok (.bipush 10, 2) := by decide +kernel
theorem dX1_become_52 : decode cX1_become 52 = .ok (.invokestatic 46, 3) := by decide +kernel
theorem dX1_become_55 : decode cX1_become 55 = .ok (.aload_n 1, 1) := by decide +kernel
theorem dX1_become_56 : decode cX1_become 56 = .ok (.getfield 15, 3) := by decide +kernel
theorem dX1_become_59 : decode cX1_become 59 = .ok (.iconst 0, 1) := by decide +kernel
theorem dX1_become_60 : decode cX1_become 60 = .ok (.aload_n 0, 1) := by decide +kernel
theorem dX1_become_61 : decode cX1_become 61 = .ok (.getfield 15, 3) := by decide +kernel
theorem dX1_become_64 : decode cX1_become 64 = .ok (.iconst 0, 1) := by decide +kernel
theorem dX1_become_65 : decode cX1_become 65 = .ok (.bipush 10, 2) := by decide +kernel
theorem dX1_become_67 : decode cX1_become 67 = .ok (.invokestatic 46, 3) := by decide +kernel
theorem dX1_become_70 : decode cX1_become 70 = .ok (.aload_n 1, 1) := by decide +kernel
theorem dX1_become_71 : decode cX1_become 71 = .ok (.getfield 18, 3) := by decide +kernel
theorem dX1_become_74 : decode cX1_become 74 = .ok (.iconst 0, 1) := by decide +kernel
theorem dX1_become_75 : decode cX1_become 75 = .ok (.aload_n 0, 1) := by decide +kernel
theorem dX1_become_76 : decode cX1_become 76 = .ok (.getfield 18, 3) := by decide +kernel
theorem dX1_become_79 : decode cX1_become 79 = .ok (.iconst 0, 1) := by decide +kernel
theorem dX1_become_80 : decode cX1_become 80 = .ok (.bipush 10, 2) := by decide +kernel
theorem dX1_become_82 : decode cX1_become 82 = .ok (.invokestatic 46, 3) := by decide +kernel
theorem dX1_become_85 : decode cX1_become 85 = .ok (.aload_n 1, 1) := by decide +kernel
theorem dX1_become_86 : decode cX1_become 86 = .ok (.getfield 21, 3) := by decide +kernel
theorem dX1_become_89 : decode cX1_become 89 = .ok (.iconst 0, 1) := by decide +kernel
theorem dX1_become_90 : decode cX1_become 90 = .ok (.aload_n 0, 1) := by decide +kernel
theorem dX1_become_91 : decode cX1_become 91 = .ok (.getfield 21, 3) := by decide +kernel
theorem dX1_become_94 : decode cX1_become 94 = .ok (.iconst 0, 1) := by decide +kernel
theorem dX1_become_95 : decode cX1_become 95 = .ok (.bipush 10, 2) := by decide +kernel
theorem dX1_become_97 : decode cX1_become 97 = .ok (.invokestatic 46, 3) := by decide +kernel
theorem dX1_become_100 : decode cX1_become 100 = .ok (.return_, 1) := by decide +kernel
theorem dX2_init_0 : decode cX2_init 0 = .ok (.aload_n 0, 1) := by decide +kernel
theorem dX2_init_1 : decode cX2_init 1 = .ok (.invokespecial 3, 3) := by decide +kernel
theorem dX2_init_4 : decode cX2_init 4 = .ok (.aload_n 0, 1) := by decide +kernel
theorem dX2_init_5 : decode cX2_init 5 = .ok (.sipush 200, 3) := by decide +kernel
theorem dX2_init_8 : decode cX2_init 8 = .ok (.newarray .int, 2) := by decide +kernel
theorem dX2_init_10 : decode cX2_init 10 = .ok (.putfield 9, 3) := by decide +kernel
theorem dX2_init_13 : decode cX2_init 13 = .ok (.return_, 1) := by decide +kernel
theorem dX2_put_0 : decode cX2_put 0 = .ok (.aload_n 0, 1) := by decide +kernel
theorem dX2_put_1 : decode cX2_put 1 = .ok (.getfield 15, 3) := by decide +kernel
theorem dX2_put_4 : decode cX2_put 4 = .ok (.sipush 200, 3) := by decide +kernel
theorem dX2_put_7 : decode cX2_put 7 = .ok (.if_icmp .lt 5, 3) := by decide +kernel
theorem dX2_put_10 : decode cX2_put 10 = .ok (.iconst 0, 1) := by decide +kernel
theorem dX2_put_11 : decode cX2_put 11 = .ok (.ireturn, 1) := by decide +kernel
theorem dX2_put_12 : decode cX2_put 12 = .ok (.aload_n 0, 1) := by decide +kernel
theorem dX2_put_13 : decode cX2_put 13 = .ok (.getfield 9, 3) := by decide +kernel
theorem dX2_put_16 : decode cX2_put 16 = .ok (.aload_n 0, 1) := by decide +kernel
theorem dX2_put_17 : decode cX2_put 17 = .ok (.getfield 15, 3) := by decide +kernel
theorem dX2_put_20 : decode cX2_put 20 = .ok (.iload_n 1, 1) := by decide +kernel
theorem dX2_put_21 : decode cX2_put 21 = .ok (.iastore, 1) := by decide +kernel
theorem dX2_put_22 : decode cX2_put 22 = .ok (.aload_n 0, 1) := by decide +kernel
theorem dX2_put_23 : decode cX2_put 23 = .ok (.dup, 1) := by decide +kernel
theorem dX2_put_24 : decode cX2_put 24 = .ok (.getfield 15, 3) := by decide +kernel
theorem dX2_put_27 : decode cX2_put 27 = .ok (.iconst 1, 1) := by decide +kernel
theorem dX2_put_28 : decode cX2_put 28 = .ok (.iadd, 1) := by decide +kernel
theorem dX2_put_29 : decode cX2_put 29 = .ok (.putfield 15, 3) := by decide +kernel
theorem dX2_put_32 : decode cX2_put 32 = .ok (.iconst 1, 1) := by decide +kernel
theorem dX2_put_33 : decode cX2_put 33 = .ok (.ireturn, 1) := by decide +kernel
set_option maxRecDepth 20000 in
theorem ggX2_readInto_X4_empty : GoodIn wsX2_readInto wsX4_empty := goodIn_r _ [8, 9, 10, 11, 12, 13, 14, 100, 101, 102, 103, 104, 105, 106, 107, 108, 109, 110, 111, 112, 113, 114] (by decide +kernel) (by decide +kernel)
set_option maxRecDepth 20000 in
theorem gX2_readInto_X4_empty : GoodIn wsX2_readInto (wsV RX2 19 RX4 yX4_empty wsX4_empty) := goodIn_app (goodIn_of _ (by decide +kernel)) ggX2_readInto_X4_empty
set_option maxRecDepth 20000 in
theorem ggX2_readInto_X2_nextToken : GoodIn wsX2_readInto wsX2_nextToken := goodIn_r _ [19, 1, 20, 21, 22, 3, 23, 24, 25, 18, 26, 27, 28, 29, 30, 31, 32, 33, 34, 35, 93, 94, 95, 96, 97, 98, 99] (by decide +kernel) (by decide +kernel)
set_option maxRecDepth 20000 in
theorem gX2_readInto_X2_nextToken : GoodIn wsX2_readInto (wsV RX2 30 RX2 yX2_nextToken wsX2_nextToken) := goodIn_app (goodIn_of _ (by decide +kernel)) ggX2_readInto_X2_nextToken
set_option maxRecDepth 20000 in
theorem ggX2_readInto_X2_readItem : GoodIn wsX2_readInto wsX2_readItem := goodIn_r _ [39, 3, 27, 40, 41, 42, 18, 43, 44, 45, 46, 47, 48, 49, 2, 22, 50, 51, 52, 53, 15, 16, 17, 19, 1, 20, 21, 23, 24, 25, 26, 28, 29, 30, 31, 32, 33, 34, 35, 54, 55, 56, 57, 58, 59, 60, 61, 62, 63, 64, 65, 66, 67, 68, 69, 70, 71, 72, 73, 74, 75, 76, 77, 78, 79, 80, 81, 82, 83, 84, 85, 86, 93, 94, 95, 96, 97, 98, 99, 100, 101, 102, 103, 104, 105, 106, 107, 108, 109, 110, 111, 112, 113, 114] (by decide +kernel) (by decide +kernel)
set_option maxRecDepth 20000 in
theorem gX2_readInto_X2_readItem : GoodIn wsX2_readInto (wsV RX2 36 RX2 yX2_readItem wsX2_readItem) := goodIn_app (goodIn_of _ (by decide +kernel)) ggX2_readInto_X2_readItem
set_option maxRecDepth 20000 in
theorem ggX2_readInto_X4_dropWhatIsNotThere : GoodIn wsX2_readInto wsX4_dropWhatIsNotThere := goodIn_r _ [90, 11, 91, 10, 92, 9, 100, 101, 102, 103, 104, 105, 106, 107, 108, 109, 110, 111, 112, 113, 114] (by decide +kernel) (by decide +kernel)
set_option maxRecDepth 20000 in
theorem gX2_readInto_X4_dropWhatIsNotThere : GoodIn wsX2_readInto (wsV RX2 40 RX4 yX4_dropWhatIsNotThere wsX4_dropWhatIsNotThere) := goodIn_app (goodIn_of _ (by decide +kernel)) ggX2_readInto_X4_dropWhatIsNotThere
theorem dX2_readInto_0 : decode cX2_readInto 0 = .ok (.aload_n 1, 1) := by decide +kernel
theorem dX2_readInto_1 : decode cX2_readInto 1 = .ok (.invokevirtual 19, 3) := by decide +kernel
theorem dX2_readInto_4 : decode cX2_readInto 4 = .ok (.aload_n 0, 1) := by decide +kernel
theorem dX2_readInto_5 : decode cX2_readInto 5 = .ok (.iconst 0, 1) := by decide +kernel
theorem dX2_readInto_6 : decode cX2_readInto 6 = .ok (.putfield 24, 3) := by decide +kernel
theorem dX2_readInto_9 : decode cX2_readInto 9 = .ok (.aload_n 0, 1) := by decide +kernel
theorem dX2_readInto_10 : decode cX2_readInto 10 = .ok (.iconst (-1), 1) := by decide +kernel
theorem dX2_readInto_11 : decode cX2_readInto 11 = .ok (.putfield 27, 3) := by decide +kernel
theorem dX2_readInto_14 : decode cX2_readInto 14 = .ok (.iconst 0, 1) := by decide +kernel
theorem dX2_readInto_15 : decode cX2_readInto 15 = .ok (.istore_n 2, 1) := by decide +kernel
theorem dX2_readInto_16 : decode cX2_readInto 16 = .ok (.iconst 0, 1) := by decide +kernel
theorem dX2_readInto_17 : decode cX2_readInto 17 = .ok (.istore_n 3, 1) := by decide +kernel
theorem dX2_readInto_18 : decode cX2_readInto 18 = .ok (.iload_n 3, 1) := by decide +kernel
theorem dX2_readInto_19 : decode cX2_readInto 19 = .ok (.sipush 200, 3) := by decide +kernel
theorem dX2_readInto_22 : decode cX2_readInto 22 = .ok (.if_icmp .gt 47, 3) := by decide +kernel
theorem dX2_readInto_25 : decode cX2_readInto 25 = .ok (.aload_n 0, 1) := by decide +kernel
theorem dX2_readInto_26 : decode cX2_readInto 26 = .ok (.invokevirtual 30, 3) := by decide +kernel
theorem dX2_readInto_29 : decode cX2_readInto 29 = .ok (.aload_n 0, 1) := by decide +kernel
theorem dX2_readInto_30 : decode cX2_readInto 30 = .ok (.getfield 33, 3) := by decide +kernel
theorem dX2_readInto_33 : decode cX2_readInto 33 = .ok (.ifCond .ne 6, 3) := by decide +kernel
theorem dX2_readInto_36 : decode cX2_readInto 36 = .ok (.goto 33, 3) := by decide +kernel
theorem dX2_readInto_39 : decode cX2_readInto 39 = .ok (.aload_n 0, 1) := by decide +kernel
theorem dX2_readInto_40 : decode cX2_readInto 40 = .ok (.aload_n 1, 1) := by decide +kernel
theorem dX2_readInto_41 : decode cX2_readInto 41 = .ok (.invokevirtual 36, 3) := by decide +kernel
theorem dX2_readInto_44 : decode cX2_readInto 44 = .ok (.aload_n 0, 1) := by decide +kernel
theorem dX2_readInto_45 : decode cX2_readInto 45 = .ok (.getfield 27, 3) := by decide +kernel
theorem dX2_readInto_48 : decode cX2_readInto 48 = .ok (.iconst (-1), 1) := by decide +kernel
theorem dX2_readInto_49 : decode cX2_readInto 49 = .ok (.if_icmp .eq 11, 3) := by decide +kernel
theorem dX2_readInto_52 : decode cX2_readInto 52 = .ok (.bipush (-10), 2) := by decide +kernel
theorem dX2_readInto_54 : decode cX2_readInto 54 = .ok (.aload_n 0, 1) := by decide +kernel
theorem dX2_readInto_55 : decode cX2_readInto 55 = .ok (.getfield 27, 3) := by decide +kernel
theorem dX2_readInto_58 : decode cX2_readInto 58 = .ok (.isub, 1) := by decide +kernel
theorem dX2_readInto_59 : decode cX2_readInto 59 = .ok (.ireturn, 1) := by decide +kernel
theorem dX2_readInto_60 : decode cX2_readInto 60 = .ok (.iinc 2 1, 3) := by decide +kernel
theorem dX2_readInto_63 : decode cX2_readInto 63 = .ok (.iinc 3 1, 3) := by decide +kernel
theorem dX2_readInto_66 : decode cX2_readInto 66 = .ok (.goto (-48), 3) := by decide +kernel
theorem dX2_readInto_69 : decode cX2_readInto 69 = .ok (.aload_n 1, 1) := by decide +kernel
theorem dX2_readInto_70 : decode cX2_readInto 70 = .ok (.invokevirtual 40, 3) := by decide +kernel
theorem dX2_readInto_73 : decode cX2_readInto 73 = .ok (.iload_n 2, 1) := by decide +kernel
theorem dX2_readInto_74 : decode cX2_readInto 74 = .ok (.ireturn, 1) := by decide +kernel
set_option maxRecDepth 20000 in
theorem ggX2_readItem_X2_readCorner : GoodIn wsX2_readItem wsX2_readCorner := goodIn_r _ [7, 8, 9, 10, 11, 12, 6, 13, 14, 15, 16, 17, 18, 19, 1, 2, 20, 21, 22, 23, 24, 25, 26, 27, 28, 29, 30, 31, 32, 33, 34, 35, 36, 37, 38, 39, 40, 41, 42, 79, 80, 81, 82, 83, 84, 85, 86, 87, 88, 89, 90, 91, 92, 93, 72, 73, 74, 75, 76, 77, 78] (by decide +kernel) (by decide +kernel)
set_option maxRecDepth 20000 in
theorem gX2_readItem_X2_readCorner : GoodIn wsX2_readItem (wsV RX2 46 RX2 yX2_readCorner wsX2_readCorner) := goodIn_app (goodIn_of _ (by decide +kernel)) ggX2_readItem_X2_readCorner
set_option maxRecDepth 20000 in
theorem ggX2_readItem_X2_readStreet : GoodIn wsX2_readItem wsX2_readStreet := goodIn_r _ [46, 47, 48, 8, 49, 50, 10, 11, 12, 6, 13, 14, 15, 16, 17, 18, 19, 1, 2, 20, 21, 22, 23, 24, 25, 26, 27, 28, 29, 30, 31, 32, 33, 34, 35, 36, 37, 38, 39, 40, 41, 42, 79, 80, 81, 82, 83, 84, 85, 86, 87, 88, 89, 90, 91, 92, 93, 72, 73, 74, 75, 76, 77, 78] (by decide +kernel) (by decide +kernel)
set_option maxRecDepth 20000 in
theorem gX2_readItem_X2_readStreet : GoodIn wsX2_readItem (wsV RX2 49 RX2 yX2_readStreet wsX2_readStreet) := goodIn_app (goodIn_of _ (by decide +kernel)) ggX2_readItem_X2_readStreet
set_option maxRecDepth 20000 in
theorem ggX2_readItem_X2_readGuide : GoodIn wsX2_readItem wsX2_readGuide := goodIn_r _ [54, 55, 56, 57, 58, 59, 10, 11, 12, 6, 13, 14, 15, 16, 17, 18, 19, 1, 2, 20, 21, 22, 23, 24, 25, 26, 27, 28, 29, 30, 31, 32, 33, 34, 35, 36, 37, 38, 39, 40, 41, 42, 79, 80, 81, 82, 83, 84, 85, 86, 87, 88, 89, 90, 91, 92, 93, 72, 73, 74, 75, 76, 77, 78] (by decide +kernel) (by decide +kernel)
set_option maxRecDepth 20000 in
theorem gX2_readItem_X2_readGuide : GoodIn wsX2_readItem (wsV RX2 52 RX2 yX2_readGuide wsX2_readGuide) := goodIn_app (goodIn_of _ (by decide +kernel)) ggX2_readItem_X2_readGuide
set_option maxRecDepth 20000 in
theorem ggX2_readItem_X2_readFog : GoodIn wsX2_readItem wsX2_readFog := goodIn_r _ [63, 64, 65, 14, 1, 2, 10, 11, 12, 6, 13, 15, 16, 17, 18, 19, 20, 21, 22, 23, 24, 25, 26, 27, 28, 29, 30, 31, 32, 33, 34, 35, 36, 37, 38, 79, 80, 81, 82, 83, 84, 85, 86, 87, 88, 89, 90, 91, 92, 93, 72, 73, 74, 75, 76, 77, 78] (by decide +kernel) (by decide +kernel)
set_option maxRecDepth 20000 in
theorem gX2_readItem_X2_readFog : GoodIn wsX2_readItem (wsV RX2 55 RX2 yX2_readFog wsX2_readFog) := goodIn_app (goodIn_of _ (by decide +kernel)) ggX2_readItem_X2_readFog
set_option maxRecDepth 20000 in
theorem ggX2_readItem_X2_readHand : GoodIn wsX2_readItem wsX2_readHand := goodIn_r _ [69, 70, 71, 10, 11, 12, 6, 13, 14, 15, 16, 17, 18, 19, 1, 2, 20, 21, 22, 23, 24, 25, 26, 27, 28, 29, 30, 31, 32, 33, 34, 35, 36, 37, 38, 39, 40, 41, 42, 79, 80, 81, 82, 83, 84, 85, 86, 87, 88, 89, 90, 91, 92, 93, 72, 73, 74, 75, 76, 77, 78] (by decide +kernel) (by decide +kernel)
set_option maxRecDepth 20000 in
theorem gX2_readItem_X2_readHand : GoodIn wsX2_readItem (wsV RX2 58 RX2 yX2_readHand wsX2_readHand) := goodIn_app (goodIn_of _ (by decide +kernel)) ggX2_readItem_X2_readHand
set_option maxRecDepth 20000 in
theorem ggX2_readItem_X2_refuseToken : GoodIn wsX2_readItem wsX2_refuseToken := goodIn_r _ [13, 14, 15, 72, 73, 74, 75, 76, 77, 78] (by decide +kernel) (by decide +kernel)
set_option maxRecDepth 20000 in
theorem gX2_readItem_X2_refuseToken : GoodIn wsX2_readItem (wsV RX2 61 RX2 yX2_refuseToken wsX2_refuseToken) := goodIn_app (goodIn_of _ (by decide +kernel)) ggX2_readItem_X2_refuseToken
theorem dX2_readItem_0 : decode cX2_readItem 0 = .ok (.aload_n 0, 1) := by decide +kernel
theorem dX2_readItem_1 : decode cX2_readItem 1 = .ok (.getfield 33, 3) := by decide +kernel
theorem dX2_readItem_4 : decode cX2_readItem 4 = .ok (.iconst 1, 1) := by decide +kernel
theorem dX2_readItem_5 : decode cX2_readItem 5 = .ok (.if_icmp .ne 10, 3) := by decide +kernel
theorem dX2_readItem_8 : decode cX2_readItem 8 = .ok (.aload_n 0, 1) := by decide +kernel
theorem dX2_readItem_9 : decode cX2_readItem 9 = .ok (.getfield 43, 3) := by decide +kernel
theorem dX2_readItem_12 : decode cX2_readItem 12 = .ok (.goto 4, 3) := by decide +kernel
theorem dX2_readItem_15 : decode cX2_readItem 15 = .ok (.iconst 0, 1) := by decide +kernel
theorem dX2_readItem_16 : decode cX2_readItem 16 = .ok (.lookupswitch 92 #[(99, 52), (102, 76), (103, 68), (104, 84), (115, 60)], 52) := by decide +kernel
theorem dX2_readItem_68 : decode cX2_readItem 68 = .ok (.aload_n 0, 1) := by decide +kernel
theorem dX2_readItem_69 : decode cX2_readItem 69 = .ok (.aload_n 1, 1) := by decide +kernel
theorem dX2_readItem_70 : decode cX2_readItem 70 = .ok (.invokevirtual 46, 3) := by decide +kernel
theorem dX2_readItem_73 : decode cX2_readItem 73 = .ok (.goto 39, 3) := by decide +kernel
theorem dX2_readItem_76 : decode cX2_readItem 76 = .ok (.aload_n 0, 1) := by decide +kernel
theorem dX2_readItem_77 : decode cX2_readItem 77 = .ok (.aload_n 1, 1) := by decide +kernel
theorem dX2_readItem_78 : decode cX2_readItem 78 = .ok (.invokevirtual 49, 3) := by decide +kernel
theorem dX2_readItem_81 : decode cX2_readItem 81 = .ok (.goto 31, 3) := by decide +kernel
theorem dX2_readItem_84 : decode cX2_readItem 84 = .ok (.aload_n 0, 1) := by decide +kernel
theorem dX2_readItem_85 : decode cX2_readItem 85 = .ok (.aload_n 1, 1) := by decide +kernel
theorem dX2_readItem_86 : decode cX2_readItem 86 = .ok (.invokevirtual 52, 3) := by decide +kernel
theorem dX2_readItem_89 : decode cX2_readItem 89 = .ok (.goto 23, 3) := by decide +kernel
theorem dX2_readItem_92 : decode cX2_readItem 92 = .ok (.aload_n 0, 1) := by decide +kernel
theorem dX2_readItem_93 : decode cX2_readItem 93 = .ok (.aload_n 1, 1) := by decide +kernel
theorem dX2_readItem_94 : decode cX2_readItem 94 = .ok (.invokevirtual 55, 3) := by decide +kernel
theorem dX2_readItem_97 : decode cX2_readItem 97 = .ok (.goto 15, 3) := by decide +kernel

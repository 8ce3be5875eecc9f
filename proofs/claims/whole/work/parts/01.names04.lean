theorem dX6_init_76 : decode cX6_init 76 = .ok (.aload_n 0, 1) := by decide +kernel
theorem dX6_init_77 : decode cX6_init 77 = .ok (.iconst 2, 1) := by decide +kernel
theorem dX6_init_78 : decode cX6_init 78 = .ok (.newarray .boolean, 2) := by decide +kernel
theorem dX6_init_80 : decode cX6_init 80 = .ok (.putfield 37, 3) := by decide +kernel
theorem dX6_init_83 : decode cX6_init 83 = .ok (.aload_n 0, 1) := by decide +kernel
theorem dX6_init_84 : decode cX6_init 84 = .ok (.new 41, 3) := by decide +kernel
theorem dX6_init_87 : decode cX6_init 87 = .ok (.dup, 1) := by decide +kernel
theorem dX6_init_88 : decode cX6_init 88 = .ok (.invokespecial 43, 3) := by decide +kernel
theorem dX6_init_91 : decode cX6_init 91 = .ok (.putfield 44, 3) := by decide +kernel
theorem dX6_init_94 : decode cX6_init 94 = .ok (.aload_n 0, 1) := by decide +kernel
theorem dX6_init_95 : decode cX6_init 95 = .ok (.new 48, 3) := by decide +kernel
theorem dX6_init_98 : decode cX6_init 98 = .ok (.dup, 1) := by decide +kernel
theorem dX6_init_99 : decode cX6_init 99 = .ok (.invokespecial 50, 3) := by decide +kernel
theorem dX6_init_102 : decode cX6_init 102 = .ok (.putfield 51, 3) := by decide +kernel
theorem dX6_init_105 : decode cX6_init 105 = .ok (.aload_n 0, 1) := by decide +kernel
theorem dX6_init_106 : decode cX6_init 106 = .ok (.new 55, 3) := by decide +kernel
theorem dX6_init_109 : decode cX6_init 109 = .ok (.dup, 1) := by decide +kernel
theorem dX6_init_110 : decode cX6_init 110 = .ok (.invokespecial 57, 3) := by decide +kernel
theorem dX6_init_113 : decode cX6_init 113 = .ok (.putfield 58, 3) := by decide +kernel
theorem dX6_init_116 : decode cX6_init 116 = .ok (.aload_n 0, 1) := by decide +kernel
theorem dX6_init_117 : decode cX6_init 117 = .ok (.lconst 0, 1) := by decide +kernel
theorem dX6_init_118 : decode cX6_init 118 = .ok (.putfield 62, 3) := by decide +kernel
theorem dX6_init_121 : decode cX6_init 121 = .ok (.return_, 1) := by decide +kernel
set_option maxRecDepth 20000 in
theorem ggX6_type_X2_put : GoodIn wsX6_type wsX2_put := goodIn_r _ [7, 8, 9, 20, 21, 22, 23, 24, 25, 26] (by decide +kernel) (by decide +kernel)
set_option maxRecDepth 20000 in
theorem gX6_type_X2_put : GoodIn wsX6_type (wsV RX6 66 RX2 yX2_put wsX2_put) := goodIn_app (goodIn_of _ (by decide +kernel)) ggX6_type_X2_put
theorem dX6_type_0 : decode cX6_type 0 = .ok (.iload_n 1, 1) := by decide +kernel
theorem dX6_type_1 : decode cX6_type 1 = .ok (.ifCond .lt 10, 3) := by decide +kernel
theorem dX6_type_4 : decode cX6_type 4 = .ok (.iload_n 1, 1) := by decide +kernel
theorem dX6_type_5 : decode cX6_type 5 = .ok (.sipush 255, 3) := by decide +kernel
theorem dX6_type_8 : decode cX6_type 8 = .ok (.if_icmp .le 5, 3) := by decide +kernel
theorem dX6_type_11 : decode cX6_type 11 = .ok (.iconst (-1), 1) := by decide +kernel
theorem dX6_type_12 : decode cX6_type 12 = .ok (.ireturn, 1) := by decide +kernel
theorem dX6_type_13 : decode cX6_type 13 = .ok (.aload_n 0, 1) := by decide +kernel
theorem dX6_type_14 : decode cX6_type 14 = .ok (.getfield 10, 3) := by decide +kernel
theorem dX6_type_17 : decode cX6_type 17 = .ok (.iload_n 1, 1) := by decide +kernel
theorem dX6_type_18 : decode cX6_type 18 = .ok (.invokevirtual 66, 3) := by decide +kernel
theorem dX6_type_21 : decode cX6_type 21 = .ok (.ifCond .eq 13, 3) := by decide +kernel
theorem dX6_type_24 : decode cX6_type 24 = .ok (.aload_n 0, 1) := by decide +kernel
theorem dX6_type_25 : decode cX6_type 25 = .ok (.getfield 10, 3) := by decide +kernel
theorem dX6_type_28 : decode cX6_type 28 = .ok (.getfield 70, 3) := by decide +kernel
theorem dX6_type_31 : decode cX6_type 31 = .ok (.goto 5, 3) := by decide +kernel
theorem dX6_type_34 : decode cX6_type 34 = .ok (.bipush (-3), 2) := by decide +kernel
theorem dX6_type_36 : decode cX6_type 36 = .ok (.ireturn, 1) := by decide +kernel
theorem dX6_clear_0 : decode cX6_clear 0 = .ok (.aload_n 0, 1) := by decide +kernel
theorem dX6_clear_1 : decode cX6_clear 1 = .ok (.getfield 10, 3) := by decide +kernel
theorem dX6_clear_4 : decode cX6_clear 4 = .ok (.getfield 70, 3) := by decide +kernel
theorem dX6_clear_7 : decode cX6_clear 7 = .ok (.istore_n 1, 1) := by decide +kernel
theorem dX6_clear_8 : decode cX6_clear 8 = .ok (.aload_n 0, 1) := by decide +kernel
theorem dX6_clear_9 : decode cX6_clear 9 = .ok (.getfield 10, 3) := by decide +kernel
theorem dX6_clear_12 : decode cX6_clear 12 = .ok (.iconst 0, 1) := by decide +kernel
theorem dX6_clear_13 : decode cX6_clear 13 = .ok (.putfield 70, 3) := by decide +kernel
theorem dX6_clear_16 : decode cX6_clear 16 = .ok (.iload_n 1, 1) := by decide +kernel
theorem dX6_clear_17 : decode cX6_clear 17 = .ok (.ireturn, 1) := by decide +kernel
set_option maxRecDepth 20000 in
theorem ggX6_town_X2_readInto : GoodIn wsX6_town wsX2_readInto := goodIn_r _ [14, 15, 16, 17, 18, 19, 20, 21, 22, 23, 24, 25, 26, 27, 28, 29, 30, 31, 13, 32, 33, 34, 35, 36, 37, 38, 39, 40, 41, 42, 43, 44, 45, 46, 47, 48, 49, 50, 51, 52, 53, 54, 55, 56, 57, 58, 59, 60, 61, 62, 63, 64, 65, 66, 67, 68, 69, 70, 71, 72, 73, 74, 75, 76, 77, 78, 79, 80, 81, 82, 83, 84, 85, 86, 87, 88, 89, 90, 91, 92, 93, 94, 95, 96, 97, 98, 99, 100, 101, 102, 103, 104, 105, 133, 134, 135, 136, 137, 138, 139, 147, 148, 149, 150, 151, 152, 153, 154, 155, 156, 157, 158, 159, 160, 161] (by decide +kernel) (by decide +kernel)
set_option maxRecDepth 20000 in
theorem gX6_town_X2_readInto : GoodIn wsX6_town (wsV RX6 74 RX2 yX2_readInto wsX2_readInto) := goodIn_app (goodIn_of _ (by decide +kernel)) ggX6_town_X2_readInto
set_option maxRecDepth 20000 in
theorem ggX6_town_X1_startAnew : GoodIn wsX6_town wsX1_startAnew := goodIn_r _ [110, 111, 112, 113, 114, 115, 162, 163, 164, 165, 166, 167, 168, 169, 170] (by decide +kernel) (by decide +kernel)
set_option maxRecDepth 20000 in
theorem gX6_town_X1_startAnew : GoodIn wsX6_town (wsV RX6 78 RX1 yX1_startAnew wsX1_startAnew) := goodIn_app (goodIn_of _ (by decide +kernel)) ggX6_town_X1_startAnew
set_option maxRecDepth 20000 in
theorem ggX6_town_X3_forgetAll : GoodIn wsX6_town wsX3_forgetAll := goodIn_r _ [120, 121, 122, 171, 172, 173, 174, 175, 176] (by decide +kernel) (by decide +kernel)
set_option maxRecDepth 20000 in
theorem gX6_town_X3_forgetAll : GoodIn wsX6_town (wsV RX6 81 RX3 yX3_forgetAll wsX3_forgetAll) := goodIn_app (goodIn_of _ (by decide +kernel)) ggX6_town_X3_forgetAll
theorem dX6_town_0 : decode cX6_town 0 = .ok (.aload_n 0, 1) := by decide +kernel
theorem dX6_town_1 : decode cX6_town 1 = .ok (.getfield 10, 3) := by decide +kernel
theorem dX6_town_4 : decode cX6_town 4 = .ok (.aload_n 0, 1) := by decide +kernel
theorem dX6_town_5 : decode cX6_town 5 = .ok (.getfield 23, 3) := by decide +kernel
theorem dX6_town_8 : decode cX6_town 8 = .ok (.invokevirtual 74, 3) := by decide +kernel
theorem dX6_town_11 : decode cX6_town 11 = .ok (.istore_n 1, 1) := by decide +kernel
theorem dX6_town_12 : decode cX6_town 12 = .ok (.iload_n 1, 1) := by decide +kernel
theorem dX6_town_13 : decode cX6_town 13 = .ok (.ifCond .ge 5, 3) := by decide +kernel
theorem dX6_town_16 : decode cX6_town 16 = .ok (.iload_n 1, 1) := by decide +kernel
theorem dX6_town_17 : decode cX6_town 17 = .ok (.ireturn, 1) := by decide +kernel
theorem dX6_town_18 : decode cX6_town 18 = .ok (.aload_n 0, 1) := by decide +kernel
theorem dX6_town_19 : decode cX6_town 19 = .ok (.getfield 19, 3) := by decide +kernel
theorem dX6_town_22 : decode cX6_town 22 = .ok (.astore_n 2, 1) := by decide +kernel
theorem dX6_town_23 : decode cX6_town 23 = .ok (.aload_n 0, 1) := by decide +kernel
theorem dX6_town_24 : decode cX6_town 24 = .ok (.aload_n 0, 1) := by decide +kernel
theorem dX6_town_25 : decode cX6_town 25 = .ok (.getfield 23, 3) := by decide +kernel
theorem dX6_town_28 : decode cX6_town 28 = .ok (.putfield 19, 3) := by decide +kernel
theorem dX6_town_31 : decode cX6_town 31 = .ok (.aload_n 0, 1) := by decide +kernel
theorem dX6_town_32 : decode cX6_town 32 = .ok (.aload_n 2, 1) := by decide +kernel
theorem dX6_town_33 : decode cX6_town 33 = .ok (.putfield 23, 3) := by decide +kernel
theorem dX6_town_36 : decode cX6_town 36 = .ok (.aload_n 0, 1) := by decide +kernel
theorem dX6_town_37 : decode cX6_town 37 = .ok (.getfield 10, 3) := by decide +kernel
theorem dX6_town_40 : decode cX6_town 40 = .ok (.iconst 0, 1) := by decide +kernel
theorem dX6_town_41 : decode cX6_town 41 = .ok (.putfield 70, 3) := by decide +kernel
theorem dX6_town_44 : decode cX6_town 44 = .ok (.aload_n 0, 1) := by decide +kernel
theorem dX6_town_45 : decode cX6_town 45 = .ok (.getfield 29, 3) := by decide +kernel
theorem dX6_town_48 : decode cX6_town 48 = .ok (.invokevirtual 78, 3) := by decide +kernel
theorem dX6_town_51 : decode cX6_town 51 = .ok (.aload_n 0, 1) := by decide +kernel
theorem dX6_town_52 : decode cX6_town 52 = .ok (.getfield 51, 3) := by decide +kernel
theorem dX6_town_55 : decode cX6_town 55 = .ok (.invokevirtual 81, 3) := by decide +kernel
theorem dX6_town_58 : decode cX6_town 58 = .ok (.aload_n 0, 1) := by decide +kernel
theorem dX6_town_59 : decode cX6_town 59 = .ok (.getfield 58, 3) := by decide +kernel
theorem dX6_town_62 : decode cX6_town 62 = .ok (.iconst 0, 1) := by decide +kernel
theorem dX6_town_63 : decode cX6_town 63 = .ok (.putfield 84, 3) := by decide +kernel
theorem dX6_town_66 : decode cX6_town 66 = .ok (.iconst 0, 1) := by decide +kernel
theorem dX6_town_67 : decode cX6_town 67 = .ok (.istore_n 3, 1) := by decide +kernel
theorem dX6_town_68 : decode cX6_town 68 = .ok (.iload_n 3, 1) := by decide +kernel
theorem dX6_town_69 : decode cX6_town 69 = .ok (.iconst 2, 1) := by decide +kernel
theorem dX6_town_70 : decode cX6_town 70 = .ok (.if_icmp .ge 16, 3) := by decide +kernel
theorem dX6_town_73 : decode cX6_town 73 = .ok (.aload_n 0, 1) := by decide +kernel
theorem dX6_town_74 : decode cX6_town 74 = .ok (.getfield 37, 3) := by decide +kernel
theorem dX6_town_77 : decode cX6_town 77 = .ok (.iload_n 3, 1) := by decide +kernel
theorem dX6_town_78 : decode cX6_town 78 = .ok (.iconst 0, 1) := by decide +kernel
theorem dX6_town_79 : decode cX6_town 79 = .ok (.bastore, 1) := by decide +kernel
theorem dX6_town_80 : decode cX6_town 80 = .ok (.iinc 3 1, 3) := by decide +kernel
theorem dX6_town_83 : decode cX6_town 83 = .ok (.goto (-15), 3) := by decide +kernel
theorem dX6_town_86 : decode cX6_town 86 = .ok (.iload_n 1, 1) := by decide +kernel
theorem dX6_town_87 : decode cX6_town 87 = .ok (.ireturn, 1) := by decide +kernel
set_option maxRecDepth 20000 in
theorem ggX6_corner_X4_hasCorner : GoodIn wsX6_corner wsX4_hasCorner := goodIn_r _ [7, 8, 19, 20, 21, 22, 23, 24, 25, 26, 27, 28, 29, 30, 31, 32, 33] (by decide +kernel) (by decide +kernel)
set_option maxRecDepth 20000 in
theorem gX6_corner_X4_hasCorner : GoodIn wsX6_corner (wsV RX6 87 RX4 yX4_hasCorner wsX4_hasCorner) := goodIn_app (goodIn_of _ (by decide +kernel)) ggX6_corner_X4_hasCorner
theorem dX6_corner_0 : decode cX6_corner 0 = .ok (.aload_n 0, 1) := by decide +kernel
theorem dX6_corner_1 : decode cX6_corner 1 = .ok (.getfield 19, 3) := by decide +kernel
theorem dX6_corner_4 : decode cX6_corner 4 = .ok (.iload_n 1, 1) := by decide +kernel
theorem dX6_corner_5 : decode cX6_corner 5 = .ok (.invokevirtual 87, 3) := by decide +kernel
theorem dX6_corner_8 : decode cX6_corner 8 = .ok (.ifCond .eq 15, 3) := by decide +kernel
theorem dX6_corner_11 : decode cX6_corner 11 = .ok (.aload_n 0, 1) := by decide +kernel
theorem dX6_corner_12 : decode cX6_corner 12 = .ok (.getfield 19, 3) := by decide +kernel
theorem dX6_corner_15 : decode cX6_corner 15 = .ok (.getfield 90, 3) := by decide +kernel
theorem dX6_corner_18 : decode cX6_corner 18 = .ok (.iload_n 1, 1) := by decide +kernel
theorem dX6_corner_19 : decode cX6_corner 19 = .ok (.iaload, 1) := by decide +kernel
theorem dX6_corner_20 : decode cX6_corner 20 = .ok (.goto 4, 3) := by decide +kernel
theorem dX6_corner_23 : decode cX6_corner 23 = .ok (.iconst (-1), 1) := by decide +kernel
theorem dX6_corner_24 : decode cX6_corner 24 = .ok (.ireturn, 1) := by decide +kernel
set_option maxRecDepth 20000 in
theorem ggX6_street_X4_hasStreet : GoodIn wsX6_street wsX4_hasStreet := goodIn_r _ [9, 10, 21, 22, 23, 24, 25, 26, 27, 28, 29, 30, 31, 32, 33, 34, 35] (by decide +kernel) (by decide +kernel)
set_option maxRecDepth 20000 in
theorem gX6_street_X4_hasStreet : GoodIn wsX6_street (wsV RX6 94 RX4 yX4_hasStreet wsX4_hasStreet) := goodIn_app (goodIn_of _ (by decide +kernel)) ggX6_street_X4_hasStreet
theorem dX6_street_0 : decode cX6_street 0 = .ok (.aload_n 0, 1) := by decide +kernel
theorem dX6_street_1 : decode cX6_street 1 = .ok (.getfield 19, 3) := by decide +kernel
theorem dX6_street_4 : decode cX6_street 4 = .ok (.iload_n 1, 1) := by decide +kernel
theorem dX6_street_5 : decode cX6_street 5 = .ok (.invokevirtual 94, 3) := by decide +kernel
theorem dX6_street_8 : decode cX6_street 8 = .ok (.ifCond .ne 5, 3) := by decide +kernel
theorem dX6_street_11 : decode cX6_street 11 = .ok (.iconst (-1), 1) := by decide +kernel
theorem dX6_street_12 : decode cX6_street 12 = .ok (.ireturn, 1) := by decide +kernel
theorem dX6_street_13 : decode cX6_street 13 = .ok (.iload_n 2, 1) := by decide +kernel
theorem dX6_street_14 : decode cX6_street 14 = .ok (.tableswitch 56 0 2 #[26, 36, 46], 26) := by decide +kernel
theorem dX6_street_40 : decode cX6_street 40 = .ok (.aload_n 0, 1) := by decide +kernel
theorem dX6_street_41 : decode cX6_street 41 = .ok (.getfield 19, 3) := by decide +kernel
theorem dX6_street_44 : decode cX6_street 44 = .ok (.getfield 97, 3) := by decide +kernel
theorem dX6_street_47 : decode cX6_street 47 = .ok (.iload_n 1, 1) := by decide +kernel
theorem dX6_street_48 : decode cX6_street 48 = .ok (.iaload, 1) := by decide +kernel
theorem dX6_street_49 : decode cX6_street 49 = .ok (.ireturn, 1) := by decide +kernel
theorem dX6_street_50 : decode cX6_street 50 = .ok (.aload_n 0, 1) := by decide +kernel
theorem dX6_street_51 : decode cX6_street 51 = .ok (.getfield 19, 3) := by decide +kernel
theorem dX6_street_54 : decode cX6_street 54 = .ok (.getfield 100, 3) := by decide +kernel
theorem dX6_street_57 : decode cX6_street 57 = .ok (.iload_n 1, 1) := by decide +kernel
theorem dX6_street_58 : decode cX6_street 58 = .ok (.iaload, 1) := by decide +kernel
theorem dX6_street_59 : decode cX6_street 59 = .ok (.ireturn, 1) := by decide +kernel
theorem dX6_street_60 : decode cX6_street 60 = .ok (.aload_n 0, 1) := by decide +kernel
theorem dX6_street_61 : decode cX6_street 61 = .ok (.getfield 19, 3) := by decide +kernel
theorem dX6_street_64 : decode cX6_street 64 = .ok (.getfield 103, 3) := by decide +kernel
theorem dX6_street_67 : decode cX6_street 67 = .ok (.iload_n 1, 1) := by decide +kernel
theorem dX6_street_68 : decode cX6_street 68 = .ok (.iaload, 1) := by decide +kernel
theorem dX6_street_69 : decode cX6_street 69 = .ok (.ireturn, 1) := by decide +kernel
theorem dX6_street_70 : decode cX6_street 70 = .ok (.iconst (-1), 1) := by decide +kernel
theorem dX6_street_71 : decode cX6_street 71 = .ok (.ireturn, 1) := by decide +kernel
set_option maxRecDepth 20000 in
theorem ggX6_guide_X4_hasGuide : GoodIn wsX6_guide wsX4_hasGuide := goodIn_r _ [10, 11, 22, 23, 24, 25, 26, 27, 28, 29, 30, 31, 32, 33, 34, 35, 36] (by decide +kernel) (by decide +kernel)
set_option maxRecDepth 20000 in
theorem gX6_guide_X4_hasGuide : GoodIn wsX6_guide (wsV RX6 106 RX4 yX4_hasGuide wsX4_hasGuide) := goodIn_app (goodIn_of _ (by decide +kernel)) ggX6_guide_X4_hasGuide
theorem dX6_guide_0 : decode cX6_guide 0 = .ok (.aload_n 0, 1) := by decide +kernel
theorem dX6_guide_1 : decode cX6_guide 1 = .ok (.getfield 19, 3) := by decide +kernel
theorem dX6_guide_4 : decode cX6_guide 4 = .ok (.iload_n 1, 1) := by decide +kernel
theorem dX6_guide_5 : decode cX6_guide 5 = .ok (.invokevirtual 106, 3) := by decide +kernel
theorem dX6_guide_8 : decode cX6_guide 8 = .ok (.ifCond .ne 5, 3) := by decide +kernel
theorem dX6_guide_11 : decode cX6_guide 11 = .ok (.iconst (-1), 1) := by decide +kernel
theorem dX6_guide_12 : decode cX6_guide 12 = .ok (.ireturn, 1) := by decide +kernel
theorem dX6_guide_13 : decode cX6_guide 13 = .ok (.iload_n 2, 1) := by decide +kernel
theorem dX6_guide_14 : decode cX6_guide 14 = .ok (.tableswitch 70 0 3 #[30, 40, 50, 60], 30) := by decide +kernel
theorem dX6_guide_44 : decode cX6_guide 44 = .ok (.aload_n 0, 1) := by decide +kernel
theorem dX6_guide_45 : decode cX6_guide 45 = .ok (.getfield 19, 3) := by decide +kernel
theorem dX6_guide_48 : decode cX6_guide 48 = .ok (.getfield 109, 3) := by decide +kernel
theorem dX6_guide_51 : decode cX6_guide 51 = .ok (.iload_n 1, 1) := by decide +kernel
theorem dX6_guide_52 : decode cX6_guide 52 = .ok (.iaload, 1) := by decide +kernel
theorem dX6_guide_53 : decode cX6_guide 53 = .ok (.ireturn, 1) := by decide +kernel
theorem dX6_guide_54 : decode cX6_guide 54 = .ok (.aload_n 0, 1) := by decide +kernel
theorem dX6_guide_55 : decode cX6_guide 55 = .ok (.getfield 19, 3) := by decide +kernel
theorem dX6_guide_58 : decode cX6_guide 58 = .ok (.getfield 112, 3) := by decide +kernel
theorem dX6_guide_61 : decode cX6_guide 61 = .ok (.iload_n 1, 1) := by decide +kernel
theorem dX6_guide_62 : decode cX6_guide 62 = .ok (.iaload, 1) := by decide +kernel
theorem dX6_guide_63 : decode cX6_guide 63 = .ok (.ireturn, 1) := by decide +kernel
theorem dX6_guide_64 : decode cX6_guide 64 = .ok (.aload_n 0, 1) := by decide +kernel
theorem dX6_guide_65 : decode cX6_guide 65 = .ok (.getfield 19, 3) := by decide +kernel
theorem dX6_guide_68 : decode cX6_guide 68 = .ok (.getfield 115, 3) := by decide +kernel
theorem dX6_guide_71 : decode cX6_guide 71 = .ok (.iload_n 1, 1) := by decide +kernel
theorem dX6_guide_72 : decode cX6_guide 72 = .ok (.iaload, 1) := by decide +kernel
theorem dX6_guide_73 : decode cX6_guide 73 = .ok (.ireturn, 1) := by decide +kernel
theorem dX6_guide_74 : decode cX6_guide 74 = .ok (.aload_n 0, 1) := by decide +kernel
theorem dX6_guide_75 : decode cX6_guide 75 = .ok (.getfield 19, 3) := by decide +kernel
theorem dX6_guide_78 : decode cX6_guide 78 = .ok (.getfield 118, 3) := by decide +kernel
theorem dX6_guide_81 : decode cX6_guide 81 = .ok (.iload_n 1, 1) := by decide +kernel
theorem dX6_guide_82 : decode cX6_guide 82 = .ok (.iaload, 1) := by decide +kernel
theorem dX6_guide_83 : decode cX6_guide 83 = .ok (.ireturn, 1) := by decide +kernel
theorem dX6_guide_84 : decode cX6_guide 84 = .ok (.iconst (-1), 1) := by decide +kernel
theorem dX6_guide_85 : decode cX6_guide 85 = .ok (.ireturn, 1) := by decide +kernel
set_option maxRecDepth 20000 in
theorem ggX6_fog_X4_isThick : GoodIn wsX6_fog wsX4_isThick := goodIn_r _ [6, 7, 8, 19, 20, 21, 22, 23, 24, 25, 26, 27, 28, 29, 30, 31, 32, 33] (by decide +kernel) (by decide +kernel)
set_option maxRecDepth 20000 in
theorem gX6_fog_X4_isThick : GoodIn wsX6_fog (wsV RX6 121 RX4 yX4_isThick wsX4_isThick) := goodIn_app (goodIn_of _ (by decide +kernel)) ggX6_fog_X4_isThick
theorem dX6_fog_0 : decode cX6_fog 0 = .ok (.iload_n 1, 1) := by decide +kernel
theorem dX6_fog_1 : decode cX6_fog 1 = .ok (.ifCond .lt 10, 3) := by decide +kernel
theorem dX6_fog_4 : decode cX6_fog 4 = .ok (.iload_n 1, 1) := by decide +kernel
theorem dX6_fog_5 : decode cX6_fog 5 = .ok (.sipush 9999, 3) := by decide +kernel
theorem dX6_fog_8 : decode cX6_fog 8 = .ok (.if_icmp .le 5, 3) := by decide +kernel
theorem dX6_fog_11 : decode cX6_fog 11 = .ok (.iconst (-1), 1) := by decide +kernel
theorem dX6_fog_12 : decode cX6_fog 12 = .ok (.ireturn, 1) := by decide +kernel
theorem dX6_fog_13 : decode cX6_fog 13 = .ok (.aload_n 0, 1) := by decide +kernel
theorem dX6_fog_14 : decode cX6_fog 14 = .ok (.getfield 19, 3) := by decide +kernel
theorem dX6_fog_17 : decode cX6_fog 17 = .ok (.iload_n 1, 1) := by decide +kernel
theorem dX6_fog_18 : decode cX6_fog 18 = .ok (.invokevirtual 121, 3) := by decide +kernel
theorem dX6_fog_21 : decode cX6_fog 21 = .ok (.ifCond .eq 7, 3) := by decide +kernel
theorem dX6_fog_24 : decode cX6_fog 24 = .ok (.iconst 1, 1) := by decide +kernel
theorem dX6_fog_25 : decode cX6_fog 25 = .ok (.goto 4, 3) := by decide +kernel
theorem dX6_fog_28 : decode cX6_fog 28 = .ok (.iconst 0, 1) := by decide +kernel
theorem dX6_fog_29 : decode cX6_fog 29 = .ok (.ireturn, 1) := by decide +kernel
set_option maxRecDepth 20000 in
theorem ggX6_hires_X4_hasGuide : GoodIn wsX6_hires wsX4_hasGuide := goodIn_r _ [11, 12, 75, 76, 77, 78, 79, 80, 81, 82, 83, 84, 85, 86, 87, 88, 89] (by decide +kernel) (by decide +kernel)
set_option maxRecDepth 20000 in
theorem gX6_hires_X4_hasGuide : GoodIn wsX6_hires (wsV RX6 106 RX4 yX4_hasGuide wsX4_hasGuide) := goodIn_app (goodIn_of _ (by decide +kernel)) ggX6_hires_X4_hasGuide
set_option maxRecDepth 20000 in
theorem ggX6_hires_X6_mayHire : GoodIn wsX6_hires wsX6_mayHire := goodIn_r _ [17, 1, 18, 2, 3, 5, 6, 4, 19, 20, 21, 10, 22, 23, 24, 8, 9, 11, 12, 25, 26, 27, 28, 29, 56, 57, 58, 59, 60, 61, 62, 63, 64, 65, 75, 76, 77, 78, 79, 80, 81, 82, 83, 84, 85, 86, 87, 88, 89, 66, 67, 68, 69, 70, 71, 72, 73, 74] (by decide +kernel) (by decide +kernel)
set_option maxRecDepth 20000 in
theorem gX6_hires_X6_mayHire : GoodIn wsX6_hires (wsV RX6 124 RX6 yX6_mayHire wsX6_mayHire) := goodIn_app (goodIn_of _ (by decide +kernel)) ggX6_hires_X6_mayHire
set_option maxRecDepth 20000 in
theorem ggX6_hires_X1_step : GoodIn wsX6_hires wsX1_step := goodIn_r _ [34, 35, 36, 37, 38, 39, 40, 41, 33, 42, 43, 44, 45, 46, 47, 48, 49, 50, 51, 52, 53, 54, 55, 66, 67, 68, 69, 70, 71, 72, 73, 74] (by decide +kernel) (by decide +kernel)
set_option maxRecDepth 20000 in
theorem gX6_hires_X1_step : GoodIn wsX6_hires (wsV RX6 136 RX1 yX1_step wsX1_step) := goodIn_app (goodIn_of _ (by decide +kernel)) ggX6_hires_X1_step
theorem dX6_hires_0 : decode cX6_hires 0 = .ok (.aload_n 0, 1) := by decide +kernel
theorem dX6_hires_1 : decode cX6_hires 1 = .ok (.getfield 19, 3) := by decide +kernel
theorem dX6_hires_4 : decode cX6_hires 4 = .ok (.iload_n 1, 1) := by decide +kernel
theorem dX6_hires_5 : decode cX6_hires 5 = .ok (.invokevirtual 106, 3) := by decide +kernel
theorem dX6_hires_8 : decode cX6_hires 8 = .ok (.ifCond .ne 5, 3) := by decide +kernel
theorem dX6_hires_11 : decode cX6_hires 11 = .ok (.iconst (-1), 1) := by decide +kernel
theorem dX6_hires_12 : decode cX6_hires 12 = .ok (.ireturn, 1) := by decide +kernel
theorem dX6_hires_13 : decode cX6_hires 13 = .ok (.aload_n 0, 1) := by decide +kernel
theorem dX6_hires_14 : decode cX6_hires 14 = .ok (.iload_n 1, 1) := by decide +kernel
theorem dX6_hires_15 : decode cX6_hires 15 = .ok (.invokevirtual 124, 3) := by decide +kernel
theorem dX6_hires_18 : decode cX6_hires 18 = .ok (.ifCond .ne 6, 3) := by decide +kernel
theorem dX6_hires_21 : decode cX6_hires 21 = .ok (.bipush (-2), 2) := by decide +kernel
theorem dX6_hires_23 : decode cX6_hires 23 = .ok (.ireturn, 1) := by decide +kernel
theorem dX6_hires_24 : decode cX6_hires 24 = .ok (.aload_n 0, 1) := by decide +kernel
theorem dX6_hires_25 : decode cX6_hires 25 = .ok (.getfield 29, 3) := by decide +kernel
theorem dX6_hires_28 : decode cX6_hires 28 = .ok (.getfield 127, 3) := by decide +kernel
theorem dX6_hires_31 : decode cX6_hires 31 = .ok (.bipush (-9), 2) := by decide +kernel
theorem dX6_hires_33 : decode cX6_hires 33 = .ok (.if_icmp .ne 7, 3) := by decide +kernel
theorem dX6_hires_36 : decode cX6_hires 36 = .ok (.iconst 0, 1) := by decide +kernel
theorem dX6_hires_37 : decode cX6_hires 37 = .ok (.goto 10, 3) := by decide +kernel
theorem dX6_hires_40 : decode cX6_hires 40 = .ok (.aload_n 0, 1) := by decide +kernel
theorem dX6_hires_41 : decode cX6_hires 41 = .ok (.getfield 19, 3) := by decide +kernel
theorem dX6_hires_44 : decode cX6_hires 44 = .ok (.getfield 130, 3) := by decide +kernel
theorem dX6_hires_47 : decode cX6_hires 47 = .ok (.istore_n 2, 1) := by decide +kernel
theorem dX6_hires_48 : decode cX6_hires 48 = .ok (.aload_n 0, 1) := by decide +kernel
theorem dX6_hires_49 : decode cX6_hires 49 = .ok (.getfield 29, 3) := by decide +kernel
theorem dX6_hires_52 : decode cX6_hires 52 = .ok (.aload_n 0, 1) := by decide +kernel
theorem dX6_hires_53 : decode cX6_hires 53 = .ok (.getfield 29, 3) := by decide +kernel
theorem dX6_hires_56 : decode cX6_hires 56 = .ok (.getfield 133, 3) := by decide +kernel
theorem dX6_hires_59 : decode cX6_hires 59 = .ok (.iload_n 2, 1) := by decide +kernel
theorem dX6_hires_60 : decode cX6_hires 60 = .ok (.iconst 0, 1) := by decide +kernel
theorem dX6_hires_61 : decode cX6_hires 61 = .ok (.iload_n 1, 1) := by decide +kernel
theorem dX6_hires_62 : decode cX6_hires 62 = .ok (.invokevirtual 136, 3) := by decide +kernel
theorem dX6_hires_65 : decode cX6_hires 65 = .ok (.aload_n 0, 1) := by decide +kernel
theorem dX6_hires_66 : decode cX6_hires 66 = .ok (.getfield 29, 3) := by decide +kernel
theorem dX6_hires_69 : decode cX6_hires 69 = .ok (.getfield 140, 3) := by decide +kernel
theorem dX6_hires_72 : decode cX6_hires 72 = .ok (.ireturn, 1) := by decide +kernel
set_option maxRecDepth 20000 in
theorem ggX6_leaves_X1_step : GoodIn wsX6_leaves wsX1_step := goodIn_r _ [8, 9, 10, 11, 12, 13, 14, 15, 7, 16, 17, 18, 19, 20, 21, 22, 23, 24, 25, 26, 27, 28, 29, 40, 41, 42, 43, 44, 45, 46, 47, 48] (by decide +kernel) (by decide +kernel)
set_option maxRecDepth 20000 in
theorem gX6_leaves_X1_step : GoodIn wsX6_leaves (wsV RX6 136 RX1 yX1_step wsX1_step) := goodIn_app (goodIn_of _ (by decide +kernel)) ggX6_leaves_X1_step
theorem dX6_leaves_0 : decode cX6_leaves 0 = .ok (.aload_n 0, 1) := by decide +kernel
theorem dX6_leaves_1 : decode cX6_leaves 1 = .ok (.getfield 29, 3) := by decide +kernel
theorem dX6_leaves_4 : decode cX6_leaves 4 = .ok (.getfield 127, 3) := by decide +kernel
theorem dX6_leaves_7 : decode cX6_leaves 7 = .ok (.istore_n 1, 1) := by decide +kernel
theorem dX6_leaves_8 : decode cX6_leaves 8 = .ok (.iload_n 1, 1) := by decide +kernel
theorem dX6_leaves_9 : decode cX6_leaves 9 = .ok (.bipush (-9), 2) := by decide +kernel
theorem dX6_leaves_11 : decode cX6_leaves 11 = .ok (.if_icmp .ne 6, 3) := by decide +kernel
theorem dX6_leaves_14 : decode cX6_leaves 14 = .ok (.bipush (-2), 2) := by decide +kernel
theorem dX6_leaves_16 : decode cX6_leaves 16 = .ok (.ireturn, 1) := by decide +kernel
theorem dX6_leaves_17 : decode cX6_leaves 17 = .ok (.aload_n 0, 1) := by decide +kernel
theorem dX6_leaves_18 : decode cX6_leaves 18 = .ok (.getfield 29, 3) := by decide +kernel
theorem dX6_leaves_21 : decode cX6_leaves 21 = .ok (.aload_n 0, 1) := by decide +kernel
theorem dX6_leaves_22 : decode cX6_leaves 22 = .ok (.getfield 29, 3) := by decide +kernel
theorem dX6_leaves_25 : decode cX6_leaves 25 = .ok (.getfield 133, 3) := by decide +kernel
theorem dX6_leaves_28 : decode cX6_leaves 28 = .ok (.iconst 0, 1) := by decide +kernel
theorem dX6_leaves_29 : decode cX6_leaves 29 = .ok (.iconst 0, 1) := by decide +kernel
theorem dX6_leaves_30 : decode cX6_leaves 30 = .ok (.bipush (-9), 2) := by decide +kernel
theorem dX6_leaves_32 : decode cX6_leaves 32 = .ok (.invokevirtual 136, 3) := by decide +kernel
theorem dX6_leaves_35 : decode cX6_leaves 35 = .ok (.iload_n 1, 1) := by decide +kernel
theorem dX6_leaves_36 : decode cX6_leaves 36 = .ok (.ireturn, 1) := by decide +kernel
set_option maxRecDepth 20000 in
theorem ggX6_leads_X4_hasStreet : GoodIn wsX6_leads wsX4_hasStreet := goodIn_r _ [10, 11, 92, 93, 94, 95, 96, 97, 98, 99, 100, 101, 102, 103, 104, 105, 106] (by decide +kernel) (by decide +kernel)
set_option maxRecDepth 20000 in
theorem gX6_leads_X4_hasStreet : GoodIn wsX6_leads (wsV RX6 94 RX4 yX4_hasStreet wsX4_hasStreet) := goodIn_app (goodIn_of _ (by decide +kernel)) ggX6_leads_X4_hasStreet
set_option maxRecDepth 20000 in
theorem ggX6_leads_X6_mayBeLed : GoodIn wsX6_leads wsX6_mayBeLed := goodIn_r _ [16, 2, 3, 1, 4, 17, 18, 5, 19, 20, 21, 22, 9, 23, 24, 25, 26, 27, 28, 29, 30, 7, 8, 10, 11, 31, 32, 33, 34, 35, 36, 37, 38, 39, 40, 41, 42, 73, 74, 75, 76, 77, 78, 79, 80, 81, 82, 83, 84, 85, 86, 87, 88, 89, 90, 91, 92, 93, 94, 95, 96, 97, 98, 99, 100, 101, 102, 103, 104, 105, 106] (by decide +kernel) (by decide +kernel)
set_option maxRecDepth 20000 in
theorem gX6_leads_X6_mayBeLed : GoodIn wsX6_leads (wsV RX6 143 RX6 yX6_mayBeLed wsX6_mayBeLed) := goodIn_app (goodIn_of _ (by decide +kernel)) ggX6_leads_X6_mayBeLed
set_option maxRecDepth 20000 in
theorem ggX6_leads_X4_ledMinutes : GoodIn wsX6_leads wsX4_ledMinutes := goodIn_r _ [40, 41, 42, 92, 93, 94, 95, 96, 97, 98, 99, 100, 101, 102, 103, 104, 105, 106] (by decide +kernel) (by decide +kernel)
set_option maxRecDepth 20000 in
theorem gX6_leads_X4_ledMinutes : GoodIn wsX6_leads (wsV RX6 146 RX4 yX4_ledMinutes wsX4_ledMinutes) := goodIn_app (goodIn_of _ (by decide +kernel)) ggX6_leads_X4_ledMinutes
set_option maxRecDepth 20000 in
theorem ggX6_leads_X4_acrossFrom : GoodIn wsX6_leads wsX4_acrossFrom := goodIn_r _ [46, 35, 36, 92, 93, 94, 95, 96, 97, 98, 99, 100, 101, 102, 103, 104, 105, 106] (by decide +kernel) (by decide +kernel)
set_option maxRecDepth 20000 in
theorem gX6_leads_X4_acrossFrom : GoodIn wsX6_leads (wsV RX6 150 RX4 yX4_acrossFrom wsX4_acrossFrom) := goodIn_app (goodIn_of _ (by decide +kernel)) ggX6_leads_X4_acrossFrom
set_option maxRecDepth 20000 in
theorem ggX6_leads_X1_step : GoodIn wsX6_leads wsX1_step := goodIn_r _ [51, 52, 53, 54, 55, 56, 57, 58, 50, 59, 60, 61, 62, 63, 64, 65, 66, 67, 68, 69, 70, 71, 72, 83, 84, 85, 86, 87, 88, 89, 90, 91] (by decide +kernel) (by decide +kernel)
set_option maxRecDepth 20000 in
theorem gX6_leads_X1_step : GoodIn wsX6_leads (wsV RX6 136 RX1 yX1_step wsX1_step) := goodIn_app (goodIn_of _ (by decide +kernel)) ggX6_leads_X1_step
theorem dX6_leads_0 : decode cX6_leads 0 = .ok (.aload_n 0, 1) := by decide +kernel
theorem dX6_leads_1 : decode cX6_leads 1 = .ok (.getfield 19, 3) := by decide +kernel
theorem dX6_leads_4 : decode cX6_leads 4 = .ok (.iload_n 1, 1) := by decide +kernel
theorem dX6_leads_5 : decode cX6_leads 5 = .ok (.invokevirtual 94, 3) := by decide +kernel
theorem dX6_leads_8 : decode cX6_leads 8 = .ok (.ifCond .ne 5, 3) := by decide +kernel
theorem dX6_leads_11 : decode cX6_leads 11 = .ok (.iconst (-1), 1) := by decide +kernel
theorem dX6_leads_12 : decode cX6_leads 12 = .ok (.ireturn, 1) := by decide +kernel
theorem dX6_leads_13 : decode cX6_leads 13 = .ok (.aload_n 0, 1) := by decide +kernel
theorem dX6_leads_14 : decode cX6_leads 14 = .ok (.iload_n 1, 1) := by decide +kernel
theorem dX6_leads_15 : decode cX6_leads 15 = .ok (.invokevirtual 143, 3) := by decide +kernel
theorem dX6_leads_18 : decode cX6_leads 18 = .ok (.ifCond .ne 6, 3) := by decide +kernel
theorem dX6_leads_21 : decode cX6_leads 21 = .ok (.bipush (-2), 2) := by decide +kernel
theorem dX6_leads_23 : decode cX6_leads 23 = .ok (.ireturn, 1) := by decide +kernel
theorem dX6_leads_24 : decode cX6_leads 24 = .ok (.aload_n 0, 1) := by decide +kernel
theorem dX6_leads_25 : decode cX6_leads 25 = .ok (.getfield 19, 3) := by decide +kernel
theorem dX6_leads_28 : decode cX6_leads 28 = .ok (.aload_n 0, 1) := by decide +kernel
theorem dX6_leads_29 : decode cX6_leads 29 = .ok (.getfield 29, 3) := by decide +kernel
theorem dX6_leads_32 : decode cX6_leads 32 = .ok (.getfield 127, 3) := by decide +kernel
theorem dX6_leads_35 : decode cX6_leads 35 = .ok (.iload_n 1, 1) := by decide +kernel
theorem dX6_leads_36 : decode cX6_leads 36 = .ok (.invokevirtual 146, 3) := by decide +kernel
theorem dX6_leads_39 : decode cX6_leads 39 = .ok (.istore_n 2, 1) := by decide +kernel
theorem dX6_leads_40 : decode cX6_leads 40 = .ok (.aload_n 0, 1) := by decide +kernel
theorem dX6_leads_41 : decode cX6_leads 41 = .ok (.getfield 29, 3) := by decide +kernel
theorem dX6_leads_44 : decode cX6_leads 44 = .ok (.aload_n 0, 1) := by decide +kernel
theorem dX6_leads_45 : decode cX6_leads 45 = .ok (.getfield 19, 3) := by decide +kernel
theorem dX6_leads_48 : decode cX6_leads 48 = .ok (.iload_n 1, 1) := by decide +kernel
theorem dX6_leads_49 : decode cX6_leads 49 = .ok (.aload_n 0, 1) := by decide +kernel
theorem dX6_leads_50 : decode cX6_leads 50 = .ok (.getfield 29, 3) := by decide +kernel
theorem dX6_leads_53 : decode cX6_leads 53 = .ok (.getfield 133, 3) := by decide +kernel
theorem dX6_leads_56 : decode cX6_leads 56 = .ok (.invokevirtual 150, 3) := by decide +kernel
theorem dX6_leads_59 : decode cX6_leads 59 = .ok (.iload_n 2, 1) := by decide +kernel
theorem dX6_leads_60 : decode cX6_leads 60 = .ok (.aload_n 0, 1) := by decide +kernel
theorem dX6_leads_61 : decode cX6_leads 61 = .ok (.getfield 19, 3) := by decide +kernel
theorem dX6_leads_64 : decode cX6_leads 64 = .ok (.getfield 112, 3) := by decide +kernel
theorem dX6_leads_67 : decode cX6_leads 67 = .ok (.aload_n 0, 1) := by decide +kernel
theorem dX6_leads_68 : decode cX6_leads 68 = .ok (.getfield 29, 3) := by decide +kernel
theorem dX6_leads_71 : decode cX6_leads 71 = .ok (.getfield 127, 3) := by decide +kernel
theorem dX6_leads_74 : decode cX6_leads 74 = .ok (.iaload, 1) := by decide +kernel
theorem dX6_leads_75 : decode cX6_leads 75 = .ok (.iload_n 2, 1) := by decide +kernel
theorem dX6_leads_76 : decode cX6_leads 76 = .ok (.imul, 1) := by decide +kernel
theorem dX6_leads_77 : decode cX6_leads 77 = .ok (.aload_n 0, 1) := by decide +kernel
theorem dX6_leads_78 : decode cX6_leads 78 = .ok (.getfield 29, 3) := by decide +kernel
theorem dX6_leads_81 : decode cX6_leads 81 = .ok (.getfield 127, 3) := by decide +kernel
theorem dX6_leads_84 : decode cX6_leads 84 = .ok (.invokevirtual 136, 3) := by decide +kernel
theorem dX6_leads_87 : decode cX6_leads 87 = .ok (.aload_n 0, 1) := by decide +kernel
theorem dX6_leads_88 : decode cX6_leads 88 = .ok (.getfield 29, 3) := by decide +kernel
theorem dX6_leads_91 : decode cX6_leads 91 = .ok (.getfield 133, 3) := by decide +kernel
theorem dX6_leads_94 : decode cX6_leads 94 = .ok (.ireturn, 1) := by decide +kernel
set_option maxRecDepth 20000 in
theorem ggX6_alone_X4_hasStreet : GoodIn wsX6_alone wsX4_hasStreet := goodIn_r _ [9, 10, 83, 84, 85, 86, 87, 88, 89, 90, 91, 92, 93, 94, 95, 96, 97] (by decide +kernel) (by decide +kernel)
set_option maxRecDepth 20000 in
theorem gX6_alone_X4_hasStreet : GoodIn wsX6_alone (wsV RX6 94 RX4 yX4_hasStreet wsX4_hasStreet) := goodIn_app (goodIn_of _ (by decide +kernel)) ggX6_alone_X4_hasStreet
set_option maxRecDepth 20000 in
theorem ggX6_alone_X6_mayWalkAlone : GoodIn wsX6_alone wsX6_mayWalkAlone := goodIn_r _ [15, 2, 16, 1, 3, 4, 17, 18, 19, 20, 8, 21, 22, 23, 24, 25, 26, 27, 28, 29, 30, 31, 32, 33, 64, 65, 66, 67, 68, 69, 70, 71, 72, 73, 74, 75, 76, 77, 78, 79, 80, 81, 82, 83, 84, 85, 86, 87, 88, 89, 90, 91, 92, 93, 94, 95, 96, 97] (by decide +kernel) (by decide +kernel)
set_option maxRecDepth 20000 in
theorem gX6_alone_X6_mayWalkAlone : GoodIn wsX6_alone (wsV RX6 153 RX6 yX6_mayWalkAlone wsX6_mayWalkAlone) := goodIn_app (goodIn_of _ (by decide +kernel)) ggX6_alone_X6_mayWalkAlone
set_option maxRecDepth 20000 in
theorem ggX6_alone_X4_acrossFrom : GoodIn wsX6_alone wsX4_acrossFrom := goodIn_r _ [37, 22, 23, 83, 84, 85, 86, 87, 88, 89, 90, 91, 92, 93, 94, 95, 96, 97] (by decide +kernel) (by decide +kernel)
set_option maxRecDepth 20000 in
theorem gX6_alone_X4_acrossFrom : GoodIn wsX6_alone (wsV RX6 150 RX4 yX4_acrossFrom wsX4_acrossFrom) := goodIn_app (goodIn_of _ (by decide +kernel)) ggX6_alone_X4_acrossFrom
set_option maxRecDepth 20000 in
theorem ggX6_alone_X1_step : GoodIn wsX6_alone wsX1_step := goodIn_r _ [42, 43, 44, 45, 46, 47, 48, 49, 41, 50, 51, 52, 53, 54, 55, 56, 57, 58, 59, 60, 61, 62, 63, 74, 75, 76, 77, 78, 79, 80, 81, 82] (by decide +kernel) (by decide +kernel)
set_option maxRecDepth 20000 in
theorem gX6_alone_X1_step : GoodIn wsX6_alone (wsV RX6 136 RX1 yX1_step wsX1_step) := goodIn_app (goodIn_of _ (by decide +kernel)) ggX6_alone_X1_step
theorem dX6_alone_0 : decode cX6_alone 0 = .ok (.aload_n 0, 1) := by decide +kernel
theorem dX6_alone_1 : decode cX6_alone 1 = .ok (.getfield 19, 3) := by decide +kernel
theorem dX6_alone_4 : decode cX6_alone 4 = .ok (.iload_n 1, 1) := by decide +kernel
theorem dX6_alone_5 : decode cX6_alone 5 = .ok (.invokevirtual 94, 3) := by decide +kernel
theorem dX6_alone_8 : decode cX6_alone 8 = .ok (.ifCond .ne 5, 3) := by decide +kernel
theorem dX6_alone_11 : decode cX6_alone 11 = .ok (.iconst (-1), 1) := by decide +kernel
theorem dX6_alone_12 : decode cX6_alone 12 = .ok (.ireturn, 1) := by decide +kernel
theorem dX6_alone_13 : decode cX6_alone 13 = .ok (.aload_n 0, 1) := by decide +kernel
theorem dX6_alone_14 : decode cX6_alone 14 = .ok (.iload_n 1, 1) := by decide +kernel
theorem dX6_alone_15 : decode cX6_alone 15 = .ok (.invokevirtual 153, 3) := by decide +kernel
theorem dX6_alone_18 : decode cX6_alone 18 = .ok (.ifCond .ne 6, 3) := by decide +kernel
theorem dX6_alone_21 : decode cX6_alone 21 = .ok (.bipush (-2), 2) := by decide +kernel
theorem dX6_alone_23 : decode cX6_alone 23 = .ok (.ireturn, 1) := by decide +kernel
theorem dX6_alone_24 : decode cX6_alone 24 = .ok (.aload_n 0, 1) := by decide +kernel
theorem dX6_alone_25 : decode cX6_alone 25 = .ok (.getfield 29, 3) := by decide +kernel
theorem dX6_alone_28 : decode cX6_alone 28 = .ok (.aload_n 0, 1) := by decide +kernel
theorem dX6_alone_29 : decode cX6_alone 29 = .ok (.getfield 19, 3) := by decide +kernel
theorem dX6_alone_32 : decode cX6_alone 32 = .ok (.iload_n 1, 1) := by decide +kernel
theorem dX6_alone_33 : decode cX6_alone 33 = .ok (.aload_n 0, 1) := by decide +kernel
theorem dX6_alone_34 : decode cX6_alone 34 = .ok (.getfield 29, 3) := by decide +kernel
theorem dX6_alone_37 : decode cX6_alone 37 = .ok (.getfield 133, 3) := by decide +kernel
theorem dX6_alone_40 : decode cX6_alone 40 = .ok (.invokevirtual 150, 3) := by decide +kernel
theorem dX6_alone_43 : decode cX6_alone 43 = .ok (.aload_n 0, 1) := by decide +kernel
theorem dX6_alone_44 : decode cX6_alone 44 = .ok (.getfield 19, 3) := by decide +kernel
theorem dX6_alone_47 : decode cX6_alone 47 = .ok (.getfield 103, 3) := by decide +kernel
theorem dX6_alone_50 : decode cX6_alone 50 = .ok (.iload_n 1, 1) := by decide +kernel
theorem dX6_alone_51 : decode cX6_alone 51 = .ok (.iaload, 1) := by decide +kernel
theorem dX6_alone_52 : decode cX6_alone 52 = .ok (.iconst 0, 1) := by decide +kernel
theorem dX6_alone_53 : decode cX6_alone 53 = .ok (.bipush (-9), 2) := by decide +kernel
theorem dX6_alone_55 : decode cX6_alone 55 = .ok (.invokevirtual 136, 3) := by decide +kernel
theorem dX6_alone_58 : decode cX6_alone 58 = .ok (.aload_n 0, 1) := by decide +kernel
theorem dX6_alone_59 : decode cX6_alone 59 = .ok (.getfield 29, 3) := by decide +kernel
theorem dX6_alone_62 : decode cX6_alone 62 = .ok (.getfield 133, 3) := by decide +kernel
theorem dX6_alone_65 : decode cX6_alone 65 = .ok (.ireturn, 1) := by decide +kernel
set_option maxRecDepth 20000 in
theorem ggX6_waits_X1_step : GoodIn wsX6_waits wsX1_step := goodIn_r _ [9, 10, 11, 12, 13, 14, 15, 16, 8, 17, 18, 19, 20, 21, 22, 23, 24, 25, 26, 27, 28, 29, 30, 41, 42, 43, 44, 45, 46, 47, 48, 49] (by decide +kernel) (by decide +kernel)
set_option maxRecDepth 20000 in
theorem gX6_waits_X1_step : GoodIn wsX6_waits (wsV RX6 136 RX1 yX1_step wsX1_step) := goodIn_app (goodIn_of _ (by decide +kernel)) ggX6_waits_X1_step
theorem dX6_waits_0 : decode cX6_waits 0 = .ok (.iload_n 1, 1) := by decide +kernel
theorem dX6_waits_1 : decode cX6_waits 1 = .ok (.iconst 1, 1) := by decide +kernel
theorem dX6_waits_2 : decode cX6_waits 2 = .ok (.if_icmp .lt 9, 3) := by decide +kernel
theorem dX6_waits_5 : decode cX6_waits 5 = .ok (.iload_n 1, 1) := by decide +kernel
theorem dX6_waits_6 : decode cX6_waits 6 = .ok (.bipush 99, 2) := by decide +kernel
theorem dX6_waits_8 : decode cX6_waits 8 = .ok (.if_icmp .le 5, 3) := by decide +kernel
theorem dX6_waits_11 : decode cX6_waits 11 = .ok (.iconst (-1), 1) := by decide +kernel
theorem dX6_waits_12 : decode cX6_waits 12 = .ok (.ireturn, 1) := by decide +kernel
theorem dX6_waits_13 : decode cX6_waits 13 = .ok (.aload_n 0, 1) := by decide +kernel
theorem dX6_waits_14 : decode cX6_waits 14 = .ok (.getfield 29, 3) := by decide +kernel
theorem dX6_waits_17 : decode cX6_waits 17 = .ok (.getfield 140, 3) := by decide +kernel
theorem dX6_waits_20 : decode cX6_waits 20 = .ok (.iload_n 1, 1) := by decide +kernel
theorem dX6_waits_21 : decode cX6_waits 21 = .ok (.iadd, 1) := by decide +kernel
theorem dX6_waits_22 : decode cX6_waits 22 = .ok (.sipush 9999, 3) := by decide +kernel
theorem dX6_waits_25 : decode cX6_waits 25 = .ok (.if_icmp .le 6, 3) := by decide +kernel
theorem dX6_waits_28 : decode cX6_waits 28 = .ok (.bipush (-2), 2) := by decide +kernel
theorem dX6_waits_30 : decode cX6_waits 30 = .ok (.ireturn, 1) := by decide +kernel
theorem dX6_waits_31 : decode cX6_waits 31 = .ok (.aload_n 0, 1) := by decide +kernel
theorem dX6_waits_32 : decode cX6_waits 32 = .ok (.getfield 29, 3) := by decide +kernel
theorem dX6_waits_35 : decode cX6_waits 35 = .ok (.aload_n 0, 1) := by decide +kernel
theorem dX6_waits_36 : decode cX6_waits 36 = .ok (.getfield 29, 3) := by decide +kernel
theorem dX6_waits_39 : decode cX6_waits 39 = .ok (.getfield 133, 3) := by decide +kernel
theorem dX6_waits_42 : decode cX6_waits 42 = .ok (.iload_n 1, 1) := by decide +kernel
theorem dX6_waits_43 : decode cX6_waits 43 = .ok (.iconst 0, 1) := by decide +kernel
theorem dX6_waits_44 : decode cX6_waits 44 = .ok (.aload_n 0, 1) := by decide +kernel
theorem dX6_waits_45 : decode cX6_waits 45 = .ok (.getfield 29, 3) := by decide +kernel
theorem dX6_waits_48 : decode cX6_waits 48 = .ok (.getfield 127, 3) := by decide +kernel
theorem dX6_waits_51 : decode cX6_waits 51 = .ok (.invokevirtual 136, 3) := by decide +kernel
theorem dX6_waits_54 : decode cX6_waits 54 = .ok (.aload_n 0, 1) := by decide +kernel
theorem dX6_waits_55 : decode cX6_waits 55 = .ok (.getfield 29, 3) := by decide +kernel
theorem dX6_waits_58 : decode cX6_waits 58 = .ok (.getfield 140, 3) := by decide +kernel
theorem dX6_waits_61 : decode cX6_waits 61 = .ok (.ireturn, 1) := by decide +kernel
set_option maxRecDepth 20000 in
theorem ggX6_undo_X1_takeBack : GoodIn wsX6_undo wsX1_takeBack := goodIn_r _ [7, 8, 9, 10, 11, 12, 13, 14, 15, 16, 27, 28, 29, 30, 31, 32, 33, 34, 35] (by decide +kernel) (by decide +kernel)
set_option maxRecDepth 20000 in
theorem gX6_undo_X1_takeBack : GoodIn wsX6_undo (wsV RX6 156 RX1 yX1_takeBack wsX1_takeBack) := goodIn_app (goodIn_of _ (by decide +kernel)) ggX6_undo_X1_takeBack
theorem dX6_undo_0 : decode cX6_undo 0 = .ok (.aload_n 0, 1) := by decide +kernel
theorem dX6_undo_1 : decode cX6_undo 1 = .ok (.getfield 29, 3) := by decide +kernel
theorem dX6_undo_4 : decode cX6_undo 4 = .ok (.invokevirtual 156, 3) := by decide +kernel
theorem dX6_undo_7 : decode cX6_undo 7 = .ok (.ifCond .eq 13, 3) := by decide +kernel
theorem dX6_undo_10 : decode cX6_undo 10 = .ok (.aload_n 0, 1) := by decide +kernel
theorem dX6_undo_11 : decode cX6_undo 11 = .ok (.getfield 29, 3) := by decide +kernel
theorem dX6_undo_14 : decode cX6_undo 14 = .ok (.getfield 160, 3) := by decide +kernel
theorem dX6_undo_17 : decode cX6_undo 17 = .ok (.goto 5, 3) := by decide +kernel
theorem dX6_undo_20 : decode cX6_undo 20 = .ok (.bipush (-2), 2) := by decide +kernel
theorem dX6_undo_22 : decode cX6_undo 22 = .ok (.ireturn, 1) := by decide +kernel
set_option maxRecDepth 20000 in
theorem ggX6_now_X6_streetsOpen : GoodIn wsX6_now wsX6_streetsOpen := goodIn_r _ [12, 3, 7, 1, 13, 14, 15, 16, 11, 17, 4, 5, 6, 18, 19, 20, 21, 22, 23, 24, 25, 26, 27, 28, 29, 30, 31, 32, 33, 34, 35, 36, 37, 38, 39, 40, 41, 42, 43, 44, 45, 46, 47, 48, 49, 50, 51, 52, 53, 54, 55, 56, 57, 58, 59, 60, 61, 62, 83, 84, 85, 86, 87, 88, 89, 90, 91, 92, 108, 109, 110, 111, 112, 113, 114, 115, 116, 93, 94, 95, 96, 97, 98, 99, 100, 101, 102, 103, 104, 105, 106, 107] (by decide +kernel) (by decide +kernel)
set_option maxRecDepth 20000 in
theorem gX6_now_X6_streetsOpen : GoodIn wsX6_now (wsV RX6 169 RX6 yX6_streetsOpen wsX6_streetsOpen) := goodIn_app (goodIn_of _ (by decide +kernel)) ggX6_now_X6_streetsOpen
set_option maxRecDepth 20000 in
theorem ggX6_now_X6_guidesToHire : GoodIn wsX6_now wsX6_guidesToHire := goodIn_r _ [66, 1, 67, 68, 69, 70, 11, 71, 2, 3, 7, 4, 5, 72, 73, 74, 75, 23, 76, 77, 26, 27, 28, 29, 30, 78, 79, 80, 81, 82, 83, 84, 85, 86, 87, 88, 89, 90, 91, 92, 93, 94, 95, 96, 97, 98, 99, 100, 101, 102, 103, 104, 105, 106, 107, 108, 109, 110, 111, 112, 113, 114, 115, 116] (by decide +kernel) (by decide +kernel)
set_option maxRecDepth 20000 in
theorem gX6_now_X6_guidesToHire : GoodIn wsX6_now (wsV RX6 173 RX6 yX6_guidesToHire wsX6_guidesToHire) := goodIn_app (goodIn_of _ (by decide +kernel)) ggX6_now_X6_guidesToHire
theorem dX6_now_0 : decode cX6_now 0 = .ok (.iload_n 1, 1) := by decide +kernel
theorem dX6_now_1 : decode cX6_now 1 = .ok (.tableswitch 96 0 5 #[39, 62, 70, 78, 86, 91], 39) := by decide +kernel
theorem dX6_now_40 : decode cX6_now 40 = .ok (.aload_n 0, 1) := by decide +kernel
theorem dX6_now_41 : decode cX6_now 41 = .ok (.getfield 19, 3) := by decide +kernel
theorem dX6_now_44 : decode cX6_now 44 = .ok (.getfield 163, 3) := by decide +kernel
theorem dX6_now_47 : decode cX6_now 47 = .ok (.ifCond .le 13, 3) := by decide +kernel
theorem dX6_now_50 : decode cX6_now 50 = .ok (.aload_n 0, 1) := by decide +kernel
theorem dX6_now_51 : decode cX6_now 51 = .ok (.getfield 29, 3) := by decide +kernel
theorem dX6_now_54 : decode cX6_now 54 = .ok (.getfield 133, 3) := by decide +kernel
theorem dX6_now_57 : decode cX6_now 57 = .ok (.goto 5, 3) := by decide +kernel
theorem dX6_now_60 : decode cX6_now 60 = .ok (.bipush (-9), 2) := by decide +kernel
theorem dX6_now_62 : decode cX6_now 62 = .ok (.ireturn, 1) := by decide +kernel
theorem dX6_now_63 : decode cX6_now 63 = .ok (.aload_n 0, 1) := by decide +kernel
theorem dX6_now_64 : decode cX6_now 64 = .ok (.getfield 29, 3) := by decide +kernel
theorem dX6_now_67 : decode cX6_now 67 = .ok (.getfield 140, 3) := by decide +kernel
theorem dX6_now_70 : decode cX6_now 70 = .ok (.ireturn, 1) := by decide +kernel
theorem dX6_now_71 : decode cX6_now 71 = .ok (.aload_n 0, 1) := by decide +kernel
theorem dX6_now_72 : decode cX6_now 72 = .ok (.getfield 29, 3) := by decide +kernel
theorem dX6_now_75 : decode cX6_now 75 = .ok (.getfield 166, 3) := by decide +kernel
theorem dX6_now_78 : decode cX6_now 78 = .ok (.ireturn, 1) := by decide +kernel
theorem dX6_now_79 : decode cX6_now 79 = .ok (.aload_n 0, 1) := by decide +kernel
theorem dX6_now_80 : decode cX6_now 80 = .ok (.getfield 29, 3) := by decide +kernel
theorem dX6_now_83 : decode cX6_now 83 = .ok (.getfield 127, 3) := by decide +kernel
theorem dX6_now_86 : decode cX6_now 86 = .ok (.ireturn, 1) := by decide +kernel
theorem dX6_now_87 : decode cX6_now 87 = .ok (.aload_n 0, 1) := by decide +kernel
theorem dX6_now_88 : decode cX6_now 88 = .ok (.invokevirtual 169, 3) := by decide +kernel
theorem dX6_now_91 : decode cX6_now 91 = .ok (.ireturn, 1) := by decide +kernel
theorem dX6_now_92 : decode cX6_now 92 = .ok (.aload_n 0, 1) := by decide +kernel
theorem dX6_now_93 : decode cX6_now 93 = .ok (.invokevirtual 173, 3) := by decide +kernel
theorem dX6_now_96 : decode cX6_now 96 = .ok (.ireturn, 1) := by decide +kernel
theorem dX6_now_97 : decode cX6_now 97 = .ok (.iconst (-1), 1) := by decide +kernel
theorem dX6_now_98 : decode cX6_now 98 = .ok (.ireturn, 1) := by decide +kernel
set_option maxRecDepth 20000 in
theorem ggX6_mayHire_X4_isHis : GoodIn wsX6_mayHire wsX4_isHis := goodIn_r _ [12, 13, 14, 15, 16, 11, 17, 18, 19, 20, 21, 22, 23, 34, 35, 36, 37, 38, 39, 40, 41, 42, 43, 44, 45, 46, 47, 48] (by decide +kernel) (by decide +kernel)
set_option maxRecDepth 20000 in
theorem gX6_mayHire_X4_isHis : GoodIn wsX6_mayHire (wsV RX6 176 RX4 yX4_isHis wsX4_isHis) := goodIn_app (goodIn_of _ (by decide +kernel)) ggX6_mayHire_X4_isHis
theorem dX6_mayHire_0 : decode cX6_mayHire 0 = .ok (.aload_n 0, 1) := by decide +kernel
theorem dX6_mayHire_1 : decode cX6_mayHire 1 = .ok (.getfield 19, 3) := by decide +kernel
theorem dX6_mayHire_4 : decode cX6_mayHire 4 = .ok (.getfield 163, 3) := by decide +kernel
theorem dX6_mayHire_7 : decode cX6_mayHire 7 = .ok (.ifCond .eq 32, 3) := by decide +kernel
theorem dX6_mayHire_10 : decode cX6_mayHire 10 = .ok (.aload_n 0, 1) := by decide +kernel
theorem dX6_mayHire_11 : decode cX6_mayHire 11 = .ok (.getfield 29, 3) := by decide +kernel
theorem dX6_mayHire_14 : decode cX6_mayHire 14 = .ok (.getfield 127, 3) := by decide +kernel
theorem dX6_mayHire_17 : decode cX6_mayHire 17 = .ok (.iload_n 1, 1) := by decide +kernel
theorem dX6_mayHire_18 : decode cX6_mayHire 18 = .ok (.if_icmp .eq 21, 3) := by decide +kernel
theorem dX6_mayHire_21 : decode cX6_mayHire 21 = .ok (.aload_n 0, 1) := by decide +kernel
theorem dX6_mayHire_22 : decode cX6_mayHire 22 = .ok (.getfield 19, 3) := by decide +kernel
theorem dX6_mayHire_25 : decode cX6_mayHire 25 = .ok (.iload_n 1, 1) := by decide +kernel
theorem dX6_mayHire_26 : decode cX6_mayHire 26 = .ok (.aload_n 0, 1) := by decide +kernel
theorem dX6_mayHire_27 : decode cX6_mayHire 27 = .ok (.getfield 29, 3) := by decide +kernel
theorem dX6_mayHire_30 : decode cX6_mayHire 30 = .ok (.getfield 133, 3) := by decide +kernel
theorem dX6_mayHire_33 : decode cX6_mayHire 33 = .ok (.invokevirtual 176, 3) := by decide +kernel
theorem dX6_mayHire_36 : decode cX6_mayHire 36 = .ok (.ifCond .ne 5, 3) := by decide +kernel
theorem dX6_mayHire_39 : decode cX6_mayHire 39 = .ok (.iconst 0, 1) := by decide +kernel
theorem dX6_mayHire_40 : decode cX6_mayHire 40 = .ok (.ireturn, 1) := by decide +kernel
theorem dX6_mayHire_41 : decode cX6_mayHire 41 = .ok (.aload_n 0, 1) := by decide +kernel
theorem dX6_mayHire_42 : decode cX6_mayHire 42 = .ok (.getfield 29, 3) := by decide +kernel
theorem dX6_mayHire_45 : decode cX6_mayHire 45 = .ok (.getfield 127, 3) := by decide +kernel
theorem dX6_mayHire_48 : decode cX6_mayHire 48 = .ok (.bipush (-9), 2) := by decide +kernel
theorem dX6_mayHire_50 : decode cX6_mayHire 50 = .ok (.if_icmp .ne 5, 3) := by decide +kernel
theorem dX6_mayHire_53 : decode cX6_mayHire 53 = .ok (.iconst 1, 1) := by decide +kernel
theorem dX6_mayHire_54 : decode cX6_mayHire 54 = .ok (.ireturn, 1) := by decide +kernel
theorem dX6_mayHire_55 : decode cX6_mayHire 55 = .ok (.aload_n 0, 1) := by decide +kernel
theorem dX6_mayHire_56 : decode cX6_mayHire 56 = .ok (.getfield 19, 3) := by decide +kernel
theorem dX6_mayHire_59 : decode cX6_mayHire 59 = .ok (.aload_n 0, 1) := by decide +kernel
theorem dX6_mayHire_60 : decode cX6_mayHire 60 = .ok (.getfield 29, 3) := by decide +kernel
theorem dX6_mayHire_63 : decode cX6_mayHire 63 = .ok (.getfield 127, 3) := by decide +kernel
theorem dX6_mayHire_66 : decode cX6_mayHire 66 = .ok (.aload_n 0, 1) := by decide +kernel
theorem dX6_mayHire_67 : decode cX6_mayHire 67 = .ok (.getfield 29, 3) := by decide +kernel
theorem dX6_mayHire_70 : decode cX6_mayHire 70 = .ok (.getfield 133, 3) := by decide +kernel
theorem dX6_mayHire_73 : decode cX6_mayHire 73 = .ok (.invokevirtual 176, 3) := by decide +kernel
theorem dX6_mayHire_76 : decode cX6_mayHire 76 = .ok (.ifCond .eq 28, 3) := by decide +kernel
theorem dX6_mayHire_79 : decode cX6_mayHire 79 = .ok (.aload_n 0, 1) := by decide +kernel
theorem dX6_mayHire_80 : decode cX6_mayHire 80 = .ok (.getfield 29, 3) := by decide +kernel
theorem dX6_mayHire_83 : decode cX6_mayHire 83 = .ok (.getfield 140, 3) := by decide +kernel
theorem dX6_mayHire_86 : decode cX6_mayHire 86 = .ok (.aload_n 0, 1) := by decide +kernel
theorem dX6_mayHire_87 : decode cX6_mayHire 87 = .ok (.getfield 19, 3) := by decide +kernel
theorem dX6_mayHire_90 : decode cX6_mayHire 90 = .ok (.getfield 130, 3) := by decide +kernel
theorem dX6_mayHire_93 : decode cX6_mayHire 93 = .ok (.iadd, 1) := by decide +kernel
theorem dX6_mayHire_94 : decode cX6_mayHire 94 = .ok (.sipush 9999, 3) := by decide +kernel
theorem dX6_mayHire_97 : decode cX6_mayHire 97 = .ok (.if_icmp .gt 7, 3) := by decide +kernel
theorem dX6_mayHire_100 : decode cX6_mayHire 100 = .ok (.iconst 1, 1) := by decide +kernel
theorem dX6_mayHire_101 : decode cX6_mayHire 101 = .ok (.goto 4, 3) := by decide +kernel
theorem dX6_mayHire_104 : decode cX6_mayHire 104 = .ok (.iconst 0, 1) := by decide +kernel
theorem dX6_mayHire_105 : decode cX6_mayHire 105 = .ok (.ireturn, 1) := by decide +kernel
set_option maxRecDepth 20000 in
theorem ggX6_mayBeLed_X4_knowsStreet : GoodIn wsX6_mayBeLed wsX4_knowsStreet := goodIn_r _ [13, 14, 15, 16, 17, 12, 18, 19, 20, 21, 22, 23, 24, 56, 57, 58, 59, 60, 61, 62, 63, 64, 65, 66, 67, 68, 69, 70] (by decide +kernel) (by decide +kernel)
set_option maxRecDepth 20000 in
theorem gX6_mayBeLed_X4_knowsStreet : GoodIn wsX6_mayBeLed (wsV RX6 180 RX4 yX4_knowsStreet wsX4_knowsStreet) := goodIn_app (goodIn_of _ (by decide +kernel)) ggX6_mayBeLed_X4_knowsStreet
set_option maxRecDepth 20000 in
theorem ggX6_mayBeLed_X4_isAt : GoodIn wsX6_mayBeLed wsX4_isAt := goodIn_r _ [28, 29, 30, 56, 57, 58, 59, 60, 61, 62, 63, 64, 65, 66, 67, 68, 69, 70] (by decide +kernel) (by decide +kernel)
set_option maxRecDepth 20000 in
theorem gX6_mayBeLed_X4_isAt : GoodIn wsX6_mayBeLed (wsV RX6 183 RX4 yX4_isAt wsX4_isAt) := goodIn_app (goodIn_of _ (by decide +kernel)) ggX6_mayBeLed_X4_isAt
set_option maxRecDepth 20000 in
theorem ggX6_mayBeLed_X4_ledMinutes : GoodIn wsX6_mayBeLed wsX4_ledMinutes := goodIn_r _ [34, 35, 36, 56, 57, 58, 59, 60, 61, 62, 63, 64, 65, 66, 67, 68, 69, 70] (by decide +kernel) (by decide +kernel)
set_option maxRecDepth 20000 in
theorem gX6_mayBeLed_X4_ledMinutes : GoodIn wsX6_mayBeLed (wsV RX6 146 RX4 yX4_ledMinutes wsX4_ledMinutes) := goodIn_app (goodIn_of _ (by decide +kernel)) ggX6_mayBeLed_X4_ledMinutes
theorem dX6_mayBeLed_0 : decode cX6_mayBeLed 0 = .ok (.aload_n 0, 1) := by decide +kernel
theorem dX6_mayBeLed_1 : decode cX6_mayBeLed 1 = .ok (.getfield 29, 3) := by decide +kernel
theorem dX6_mayBeLed_4 : decode cX6_mayBeLed 4 = .ok (.getfield 127, 3) := by decide +kernel
theorem dX6_mayBeLed_7 : decode cX6_mayBeLed 7 = .ok (.istore_n 2, 1) := by decide +kernel
theorem dX6_mayBeLed_8 : decode cX6_mayBeLed 8 = .ok (.aload_n 0, 1) := by decide +kernel
theorem dX6_mayBeLed_9 : decode cX6_mayBeLed 9 = .ok (.getfield 19, 3) := by decide +kernel
theorem dX6_mayBeLed_12 : decode cX6_mayBeLed 12 = .ok (.iload_n 2, 1) := by decide +kernel
theorem dX6_mayBeLed_13 : decode cX6_mayBeLed 13 = .ok (.iload_n 1, 1) := by decide +kernel
theorem dX6_mayBeLed_14 : decode cX6_mayBeLed 14 = .ok (.invokevirtual 180, 3) := by decide +kernel
theorem dX6_mayBeLed_17 : decode cX6_mayBeLed 17 = .ok (.ifCond .eq 21, 3) := by decide +kernel
theorem dX6_mayBeLed_20 : decode cX6_mayBeLed 20 = .ok (.aload_n 0, 1) := by decide +kernel
theorem dX6_mayBeLed_21 : decode cX6_mayBeLed 21 = .ok (.getfield 19, 3) := by decide +kernel
theorem dX6_mayBeLed_24 : decode cX6_mayBeLed 24 = .ok (.iload_n 1, 1) := by decide +kernel
theorem dX6_mayBeLed_25 : decode cX6_mayBeLed 25 = .ok (.aload_n 0, 1) := by decide +kernel
theorem dX6_mayBeLed_26 : decode cX6_mayBeLed 26 = .ok (.getfield 29, 3) := by decide +kernel
theorem dX6_mayBeLed_29 : decode cX6_mayBeLed 29 = .ok (.getfield 133, 3) := by decide +kernel
theorem dX6_mayBeLed_32 : decode cX6_mayBeLed 32 = .ok (.invokevirtual 183, 3) := by decide +kernel
theorem dX6_mayBeLed_35 : decode cX6_mayBeLed 35 = .ok (.ifCond .ne 5, 3) := by decide +kernel
theorem dX6_mayBeLed_38 : decode cX6_mayBeLed 38 = .ok (.iconst 0, 1) := by decide +kernel
theorem dX6_mayBeLed_39 : decode cX6_mayBeLed 39 = .ok (.ireturn, 1) := by decide +kernel
theorem dX6_mayBeLed_40 : decode cX6_mayBeLed 40 = .ok (.aload_n 0, 1) := by decide +kernel
theorem dX6_mayBeLed_41 : decode cX6_mayBeLed 41 = .ok (.getfield 19, 3) := by decide +kernel
theorem dX6_mayBeLed_44 : decode cX6_mayBeLed 44 = .ok (.iload_n 2, 1) := by decide +kernel
theorem dX6_mayBeLed_45 : decode cX6_mayBeLed 45 = .ok (.iload_n 1, 1) := by decide +kernel
theorem dX6_mayBeLed_46 : decode cX6_mayBeLed 46 = .ok (.invokevirtual 146, 3) := by decide +kernel
theorem dX6_mayBeLed_49 : decode cX6_mayBeLed 49 = .ok (.istore_n 3, 1) := by decide +kernel
theorem dX6_mayBeLed_50 : decode cX6_mayBeLed 50 = .ok (.aload_n 0, 1) := by decide +kernel
theorem dX6_mayBeLed_51 : decode cX6_mayBeLed 51 = .ok (.getfield 29, 3) := by decide +kernel
theorem dX6_mayBeLed_54 : decode cX6_mayBeLed 54 = .ok (.getfield 140, 3) := by decide +kernel
theorem dX6_mayBeLed_57 : decode cX6_mayBeLed 57 = .ok (.iload_n 3, 1) := by decide +kernel
theorem dX6_mayBeLed_58 : decode cX6_mayBeLed 58 = .ok (.iadd, 1) := by decide +kernel
theorem dX6_mayBeLed_59 : decode cX6_mayBeLed 59 = .ok (.sipush 9999, 3) := by decide +kernel
theorem dX6_mayBeLed_62 : decode cX6_mayBeLed 62 = .ok (.if_icmp .gt 31, 3) := by decide +kernel
theorem dX6_mayBeLed_65 : decode cX6_mayBeLed 65 = .ok (.aload_n 0, 1) := by decide +kernel
theorem dX6_mayBeLed_66 : decode cX6_mayBeLed 66 = .ok (.getfield 29, 3) := by decide +kernel
theorem dX6_mayBeLed_69 : decode cX6_mayBeLed 69 = .ok (.getfield 166, 3) := by decide +kernel
theorem dX6_mayBeLed_72 : decode cX6_mayBeLed 72 = .ok (.aload_n 0, 1) := by decide +kernel
theorem dX6_mayBeLed_73 : decode cX6_mayBeLed 73 = .ok (.getfield 19, 3) := by decide +kernel
theorem dX6_mayBeLed_76 : decode cX6_mayBeLed 76 = .ok (.getfield 112, 3) := by decide +kernel
theorem dX6_mayBeLed_79 : decode cX6_mayBeLed 79 = .ok (.iload_n 2, 1) := by decide +kernel
theorem dX6_mayBeLed_80 : decode cX6_mayBeLed 80 = .ok (.iaload, 1) := by decide +kernel
theorem dX6_mayBeLed_81 : decode cX6_mayBeLed 81 = .ok (.iload_n 3, 1) := by decide +kernel
theorem dX6_mayBeLed_82 : decode cX6_mayBeLed 82 = .ok (.imul, 1) := by decide +kernel
theorem dX6_mayBeLed_83 : decode cX6_mayBeLed 83 = .ok (.iadd, 1) := by decide +kernel
theorem dX6_mayBeLed_84 : decode cX6_mayBeLed 84 = .ok (.ldc 186, 2) := by decide +kernel
theorem dX6_mayBeLed_86 : decode cX6_mayBeLed 86 = .ok (.if_icmp .gt 7, 3) := by decide +kernel
theorem dX6_mayBeLed_89 : decode cX6_mayBeLed 89 = .ok (.iconst 1, 1) := by decide +kernel
theorem dX6_mayBeLed_90 : decode cX6_mayBeLed 90 = .ok (.goto 4, 3) := by decide +kernel
theorem dX6_mayBeLed_93 : decode cX6_mayBeLed 93 = .ok (.iconst 0, 1) := by decide +kernel
theorem dX6_mayBeLed_94 : decode cX6_mayBeLed 94 = .ok (.ireturn, 1) := by decide +kernel
set_option maxRecDepth 20000 in
theorem ggX6_mayWalkAlone_X4_isAt : GoodIn wsX6_mayWalkAlone wsX4_isAt := goodIn_r _ [11, 12, 13, 43, 44, 45, 46, 47, 48, 49, 50, 51, 52, 53, 54, 55, 56, 57] (by decide +kernel) (by decide +kernel)
set_option maxRecDepth 20000 in
theorem gX6_mayWalkAlone_X4_isAt : GoodIn wsX6_mayWalkAlone (wsV RX6 183 RX4 yX4_isAt wsX4_isAt) := goodIn_app (goodIn_of _ (by decide +kernel)) ggX6_mayWalkAlone_X4_isAt
set_option maxRecDepth 20000 in
theorem ggX6_mayWalkAlone_X4_thinFrom : GoodIn wsX6_mayWalkAlone wsX4_thinFrom := goodIn_r _ [17, 18, 19, 20, 10, 21, 22, 23, 43, 44, 45, 46, 47, 48, 49, 50, 51, 52, 53, 54, 55, 56, 57] (by decide +kernel) (by decide +kernel)
set_option maxRecDepth 20000 in
theorem gX6_mayWalkAlone_X4_thinFrom : GoodIn wsX6_mayWalkAlone (wsV RX6 187 RX4 yX4_thinFrom wsX4_thinFrom) := goodIn_app (goodIn_of _ (by decide +kernel)) ggX6_mayWalkAlone_X4_thinFrom
theorem dX6_mayWalkAlone_0 : decode cX6_mayWalkAlone 0 = .ok (.aload_n 0, 1) := by decide +kernel
theorem dX6_mayWalkAlone_1 : decode cX6_mayWalkAlone 1 = .ok (.getfield 29, 3) := by decide +kernel
theorem dX6_mayWalkAlone_4 : decode cX6_mayWalkAlone 4 = .ok (.getfield 127, 3) := by decide +kernel
theorem dX6_mayWalkAlone_7 : decode cX6_mayWalkAlone 7 = .ok (.bipush (-9), 2) := by decide +kernel
theorem dX6_mayWalkAlone_9 : decode cX6_mayWalkAlone 9 = .ok (.if_icmp .ne 21, 3) := by decide +kernel
theorem dX6_mayWalkAlone_12 : decode cX6_mayWalkAlone 12 = .ok (.aload_n 0, 1) := by decide +kernel
theorem dX6_mayWalkAlone_13 : decode cX6_mayWalkAlone 13 = .ok (.getfield 19, 3) := by decide +kernel
theorem dX6_mayWalkAlone_16 : decode cX6_mayWalkAlone 16 = .ok (.iload_n 1, 1) := by decide +kernel
theorem dX6_mayWalkAlone_17 : decode cX6_mayWalkAlone 17 = .ok (.aload_n 0, 1) := by decide +kernel
theorem dX6_mayWalkAlone_18 : decode cX6_mayWalkAlone 18 = .ok (.getfield 29, 3) := by decide +kernel
theorem dX6_mayWalkAlone_21 : decode cX6_mayWalkAlone 21 = .ok (.getfield 133, 3) := by decide +kernel
theorem dX6_mayWalkAlone_24 : decode cX6_mayWalkAlone 24 = .ok (.invokevirtual 183, 3) := by decide +kernel
theorem dX6_mayWalkAlone_27 : decode cX6_mayWalkAlone 27 = .ok (.ifCond .ne 5, 3) := by decide +kernel
theorem dX6_mayWalkAlone_30 : decode cX6_mayWalkAlone 30 = .ok (.iconst 0, 1) := by decide +kernel
theorem dX6_mayWalkAlone_31 : decode cX6_mayWalkAlone 31 = .ok (.ireturn, 1) := by decide +kernel
theorem dX6_mayWalkAlone_32 : decode cX6_mayWalkAlone 32 = .ok (.aload_n 0, 1) := by decide +kernel
theorem dX6_mayWalkAlone_33 : decode cX6_mayWalkAlone 33 = .ok (.getfield 19, 3) := by decide +kernel
theorem dX6_mayWalkAlone_36 : decode cX6_mayWalkAlone 36 = .ok (.getfield 103, 3) := by decide +kernel
theorem dX6_mayWalkAlone_39 : decode cX6_mayWalkAlone 39 = .ok (.iload_n 1, 1) := by decide +kernel
theorem dX6_mayWalkAlone_40 : decode cX6_mayWalkAlone 40 = .ok (.iaload, 1) := by decide +kernel
theorem dX6_mayWalkAlone_41 : decode cX6_mayWalkAlone 41 = .ok (.istore_n 2, 1) := by decide +kernel
theorem dX6_mayWalkAlone_42 : decode cX6_mayWalkAlone 42 = .ok (.aload_n 0, 1) := by decide +kernel
theorem dX6_mayWalkAlone_43 : decode cX6_mayWalkAlone 43 = .ok (.getfield 29, 3) := by decide +kernel
theorem dX6_mayWalkAlone_46 : decode cX6_mayWalkAlone 46 = .ok (.getfield 140, 3) := by decide +kernel
theorem dX6_mayWalkAlone_49 : decode cX6_mayWalkAlone 49 = .ok (.iload_n 2, 1) := by decide +kernel
theorem dX6_mayWalkAlone_50 : decode cX6_mayWalkAlone 50 = .ok (.iadd, 1) := by decide +kernel
theorem dX6_mayWalkAlone_51 : decode cX6_mayWalkAlone 51 = .ok (.sipush 9999, 3) := by decide +kernel
theorem dX6_mayWalkAlone_54 : decode cX6_mayWalkAlone 54 = .ok (.if_icmp .gt 25, 3) := by decide +kernel
theorem dX6_mayWalkAlone_57 : decode cX6_mayWalkAlone 57 = .ok (.aload_n 0, 1) := by decide +kernel
theorem dX6_mayWalkAlone_58 : decode cX6_mayWalkAlone 58 = .ok (.getfield 19, 3) := by decide +kernel
theorem dX6_mayWalkAlone_61 : decode cX6_mayWalkAlone 61 = .ok (.aload_n 0, 1) := by decide +kernel
theorem dX6_mayWalkAlone_62 : decode cX6_mayWalkAlone 62 = .ok (.getfield 29, 3) := by decide +kernel
theorem dX6_mayWalkAlone_65 : decode cX6_mayWalkAlone 65 = .ok (.getfield 140, 3) := by decide +kernel
theorem dX6_mayWalkAlone_68 : decode cX6_mayWalkAlone 68 = .ok (.invokevirtual 187, 3) := by decide +kernel
theorem dX6_mayWalkAlone_71 : decode cX6_mayWalkAlone 71 = .ok (.iload_n 2, 1) := by decide +kernel
theorem dX6_mayWalkAlone_72 : decode cX6_mayWalkAlone 72 = .ok (.if_icmp .lt 7, 3) := by decide +kernel
theorem dX6_mayWalkAlone_75 : decode cX6_mayWalkAlone 75 = .ok (.iconst 1, 1) := by decide +kernel
theorem dX6_mayWalkAlone_76 : decode cX6_mayWalkAlone 76 = .ok (.goto 4, 3) := by decide +kernel
theorem dX6_mayWalkAlone_79 : decode cX6_mayWalkAlone 79 = .ok (.iconst 0, 1) := by decide +kernel
theorem dX6_mayWalkAlone_80 : decode cX6_mayWalkAlone 80 = .ok (.ireturn, 1) := by decide +kernel
set_option maxRecDepth 20000 in
theorem ggX6_streetsOpen_X6_mayBeLed : GoodIn wsX6_streetsOpen wsX6_mayBeLed := goodIn_r _ [9, 1, 2, 3, 10, 11, 12, 13, 14, 15, 16, 17, 18, 19, 20, 21, 22, 23, 24, 25, 26, 27, 28, 29, 30, 31, 32, 33, 34, 35, 36, 37, 38, 39, 40, 41, 42, 58, 59, 60, 61, 62, 63, 64, 65, 66, 67, 68, 69, 70, 71, 72, 73, 74, 75, 76, 77, 78, 79, 80, 81, 82, 83, 84, 85, 86, 87, 88, 89, 90, 91] (by decide +kernel) (by decide +kernel)
set_option maxRecDepth 20000 in
theorem gX6_streetsOpen_X6_mayBeLed : GoodIn wsX6_streetsOpen (wsV RX6 143 RX6 yX6_mayBeLed wsX6_mayBeLed) := goodIn_app (goodIn_of _ (by decide +kernel)) ggX6_streetsOpen_X6_mayBeLed
set_option maxRecDepth 20000 in
theorem ggX6_streetsOpen_X6_mayWalkAlone : GoodIn wsX6_streetsOpen wsX6_mayWalkAlone := goodIn_r _ [46, 1, 2, 3, 10, 47, 11, 31, 32, 33, 18, 34, 35, 36, 48, 49, 50, 51, 52, 53, 54, 55, 56, 57, 58, 59, 60, 61, 62, 63, 64, 65, 66, 67, 68, 69, 70, 71, 72, 73, 74, 75, 76, 77, 78, 79, 80, 81, 82, 83, 84, 85, 86, 87, 88, 89, 90, 91] (by decide +kernel) (by decide +kernel)
set_option maxRecDepth 20000 in
theorem gX6_streetsOpen_X6_mayWalkAlone : GoodIn wsX6_streetsOpen (wsV RX6 153 RX6 yX6_mayWalkAlone wsX6_mayWalkAlone) := goodIn_app (goodIn_of _ (by decide +kernel)) ggX6_streetsOpen_X6_mayWalkAlone
theorem dX6_streetsOpen_0 : decode cX6_streetsOpen 0 = .ok (.aload_n 0, 1) := by decide +kernel
theorem dX6_streetsOpen_1 : decode cX6_streetsOpen 1 = .ok (.getfield 29, 3) := by decide +kernel
theorem dX6_streetsOpen_4 : decode cX6_streetsOpen 4 = .ok (.getfield 127, 3) := by decide +kernel
theorem dX6_streetsOpen_7 : decode cX6_streetsOpen 7 = .ok (.bipush (-9), 2) := by decide +kernel
theorem dX6_streetsOpen_9 : decode cX6_streetsOpen 9 = .ok (.if_icmp .eq 7, 3) := by decide +kernel
theorem dX6_streetsOpen_12 : decode cX6_streetsOpen 12 = .ok (.iconst 1, 1) := by decide +kernel
theorem dX6_streetsOpen_13 : decode cX6_streetsOpen 13 = .ok (.goto 4, 3) := by decide +kernel
theorem dX6_streetsOpen_16 : decode cX6_streetsOpen 16 = .ok (.iconst 0, 1) := by decide +kernel
theorem dX6_streetsOpen_17 : decode cX6_streetsOpen 17 = .ok (.istore_n 1, 1) := by decide +kernel
theorem dX6_streetsOpen_18 : decode cX6_streetsOpen 18 = .ok (.iconst 0, 1) := by decide +kernel
theorem dX6_streetsOpen_19 : decode cX6_streetsOpen 19 = .ok (.istore_n 2, 1) := by decide +kernel
theorem dX6_streetsOpen_20 : decode cX6_streetsOpen 20 = .ok (.iconst 0, 1) := by decide +kernel
theorem dX6_streetsOpen_21 : decode cX6_streetsOpen 21 = .ok (.istore_n 3, 1) := by decide +kernel
theorem dX6_streetsOpen_22 : decode cX6_streetsOpen 22 = .ok (.iload_n 3, 1) := by decide +kernel
theorem dX6_streetsOpen_23 : decode cX6_streetsOpen 23 = .ok (.aload_n 0, 1) := by decide +kernel
theorem dX6_streetsOpen_24 : decode cX6_streetsOpen 24 = .ok (.getfield 19, 3) := by decide +kernel
theorem dX6_streetsOpen_27 : decode cX6_streetsOpen 27 = .ok (.getfield 191, 3) := by decide +kernel
theorem dX6_streetsOpen_30 : decode cX6_streetsOpen 30 = .ok (.if_icmp .ge 38, 3) := by decide +kernel
theorem dX6_streetsOpen_33 : decode cX6_streetsOpen 33 = .ok (.iload_n 1, 1) := by decide +kernel
theorem dX6_streetsOpen_34 : decode cX6_streetsOpen 34 = .ok (.ifCond .eq 14, 3) := by decide +kernel
theorem dX6_streetsOpen_37 : decode cX6_streetsOpen 37 = .ok (.aload_n 0, 1) := by decide +kernel
theorem dX6_streetsOpen_38 : decode cX6_streetsOpen 38 = .ok (.iload_n 3, 1) := by decide +kernel
theorem dX6_streetsOpen_39 : decode cX6_streetsOpen 39 = .ok (.invokevirtual 143, 3) := by decide +kernel
theorem dX6_streetsOpen_42 : decode cX6_streetsOpen 42 = .ok (.ifCond .eq 20, 3) := by decide +kernel
theorem dX6_streetsOpen_45 : decode cX6_streetsOpen 45 = .ok (.goto 11, 3) := by decide +kernel
theorem dX6_streetsOpen_48 : decode cX6_streetsOpen 48 = .ok (.aload_n 0, 1) := by decide +kernel
theorem dX6_streetsOpen_49 : decode cX6_streetsOpen 49 = .ok (.iload_n 3, 1) := by decide +kernel
theorem dX6_streetsOpen_50 : decode cX6_streetsOpen 50 = .ok (.invokevirtual 153, 3) := by decide +kernel
theorem dX6_streetsOpen_53 : decode cX6_streetsOpen 53 = .ok (.ifCond .eq 9, 3) := by decide +kernel
theorem dX6_streetsOpen_56 : decode cX6_streetsOpen 56 = .ok (.iload_n 2, 1) := by decide +kernel
theorem dX6_streetsOpen_57 : decode cX6_streetsOpen 57 = .ok (.iconst 1, 1) := by decide +kernel
theorem dX6_streetsOpen_58 : decode cX6_streetsOpen 58 = .ok (.iload_n 3, 1) := by decide +kernel
theorem dX6_streetsOpen_59 : decode cX6_streetsOpen 59 = .ok (.ishl, 1) := by decide +kernel
theorem dX6_streetsOpen_60 : decode cX6_streetsOpen 60 = .ok (.ior, 1) := by decide +kernel
theorem dX6_streetsOpen_61 : decode cX6_streetsOpen 61 = .ok (.istore_n 2, 1) := by decide +kernel
theorem dX6_streetsOpen_62 : decode cX6_streetsOpen 62 = .ok (.iinc 3 1, 3) := by decide +kernel
theorem dX6_streetsOpen_65 : decode cX6_streetsOpen 65 = .ok (.goto (-43), 3) := by decide +kernel
theorem dX6_streetsOpen_68 : decode cX6_streetsOpen 68 = .ok (.iload_n 2, 1) := by decide +kernel
theorem dX6_streetsOpen_69 : decode cX6_streetsOpen 69 = .ok (.ireturn, 1) := by decide +kernel
set_option maxRecDepth 20000 in
theorem ggX6_guidesToHire_X6_mayHire : GoodIn wsX6_guidesToHire wsX6_mayHire := goodIn_r _ [7, 1, 8, 9, 10, 11, 12, 13, 14, 15, 16, 17, 18, 19, 20, 21, 22, 23, 24, 25, 26, 27, 28, 29, 30, 31, 32, 33, 34, 35, 36, 37, 38, 39, 40, 41, 42, 43, 44, 45, 46, 47, 48, 49, 50, 51, 52, 53, 54, 55, 56, 57, 58, 59, 60, 61, 62, 63] (by decide +kernel) (by decide +kernel)
set_option maxRecDepth 20000 in
theorem gX6_guidesToHire_X6_mayHire : GoodIn wsX6_guidesToHire (wsV RX6 124 RX6 yX6_mayHire wsX6_mayHire) := goodIn_app (goodIn_of _ (by decide +kernel)) ggX6_guidesToHire_X6_mayHire
theorem dX6_guidesToHire_0 : decode cX6_guidesToHire 0 = .ok (.iconst 0, 1) := by decide +kernel
theorem dX6_guidesToHire_1 : decode cX6_guidesToHire 1 = .ok (.istore_n 1, 1) := by decide +kernel
theorem dX6_guidesToHire_2 : decode cX6_guidesToHire 2 = .ok (.iconst 0, 1) := by decide +kernel
theorem dX6_guidesToHire_3 : decode cX6_guidesToHire 3 = .ok (.istore_n 2, 1) := by decide +kernel
theorem dX6_guidesToHire_4 : decode cX6_guidesToHire 4 = .ok (.iload_n 2, 1) := by decide +kernel
theorem dX6_guidesToHire_5 : decode cX6_guidesToHire 5 = .ok (.aload_n 0, 1) := by decide +kernel
theorem dX6_guidesToHire_6 : decode cX6_guidesToHire 6 = .ok (.getfield 19, 3) := by decide +kernel
theorem dX6_guidesToHire_9 : decode cX6_guidesToHire 9 = .ok (.getfield 194, 3) := by decide +kernel
theorem dX6_guidesToHire_12 : decode cX6_guidesToHire 12 = .ok (.if_icmp .ge 23, 3) := by decide +kernel
theorem dX6_guidesToHire_15 : decode cX6_guidesToHire 15 = .ok (.aload_n 0, 1) := by decide +kernel
theorem dX6_guidesToHire_16 : decode cX6_guidesToHire 16 = .ok (.iload_n 2, 1) := by decide +kernel
theorem dX6_guidesToHire_17 : decode cX6_guidesToHire 17 = .ok (.invokevirtual 124, 3) := by decide +kernel
theorem dX6_guidesToHire_20 : decode cX6_guidesToHire 20 = .ok (.ifCond .eq 9, 3) := by decide +kernel
theorem dX6_guidesToHire_23 : decode cX6_guidesToHire 23 = .ok (.iload_n 1, 1) := by decide +kernel
theorem dX6_guidesToHire_24 : decode cX6_guidesToHire 24 = .ok (.iconst 1, 1) := by decide +kernel
theorem dX6_guidesToHire_25 : decode cX6_guidesToHire 25 = .ok (.iload_n 2, 1) := by decide +kernel
theorem dX6_guidesToHire_26 : decode cX6_guidesToHire 26 = .ok (.ishl, 1) := by decide +kernel
theorem dX6_guidesToHire_27 : decode cX6_guidesToHire 27 = .ok (.ior, 1) := by decide +kernel
theorem dX6_guidesToHire_28 : decode cX6_guidesToHire 28 = .ok (.istore_n 1, 1) := by decide +kernel
theorem dX6_guidesToHire_29 : decode cX6_guidesToHire 29 = .ok (.iinc 2 1, 3) := by decide +kernel
theorem dX6_guidesToHire_32 : decode cX6_guidesToHire 32 = .ok (.goto (-28), 3) := by decide +kernel
theorem dX6_guidesToHire_35 : decode cX6_guidesToHire 35 = .ok (.iload_n 1, 1) := by decide +kernel
theorem dX6_guidesToHire_36 : decode cX6_guidesToHire 36 = .ok (.ireturn, 1) := by decide +kernel
set_option maxRecDepth 20000 in
theorem ggX6_soonest_X6_routeAnswer : GoodIn wsX6_soonest wsX6_routeAnswer := goodIn_r _ [5, 6, 7, 8, 9, 10, 11, 12, 13, 14, 15, 16, 17, 18, 19, 20, 21, 22, 23, 24, 25, 26, 27, 28, 29, 30, 31, 32, 33, 34, 35, 36, 37, 38, 39, 40, 41, 42, 43, 44, 45, 46, 47, 48, 49, 50, 51, 52, 53, 54, 55, 56, 57, 58, 59, 60, 61, 62, 63, 64, 65, 66, 67, 68, 69, 70, 71, 72, 73, 74, 75, 76, 77, 78, 79, 80, 81, 82, 83, 84, 85, 86, 87, 88, 89, 90, 91, 92, 93, 94, 95, 96, 97, 98, 99, 100, 101, 102, 103, 104, 105, 106, 107, 108, 109] (by decide +kernel) (by decide +kernel)
set_option maxRecDepth 20000 in
theorem gX6_soonest_X6_routeAnswer : GoodIn wsX6_soonest (wsV RX6 197 RX6 yX6_routeAnswer wsX6_routeAnswer) := goodIn_app (goodIn_of _ (by decide +kernel)) ggX6_soonest_X6_routeAnswer
theorem dX6_soonest_0 : decode cX6_soonest 0 = .ok (.aload_n 0, 1) := by decide +kernel
theorem dX6_soonest_1 : decode cX6_soonest 1 = .ok (.iload_n 1, 1) := by decide +kernel
theorem dX6_soonest_2 : decode cX6_soonest 2 = .ok (.iload_n 2, 1) := by decide +kernel
theorem dX6_soonest_3 : decode cX6_soonest 3 = .ok (.iload_n 3, 1) := by decide +kernel
theorem dX6_soonest_4 : decode cX6_soonest 4 = .ok (.iconst 1, 1) := by decide +kernel
theorem dX6_soonest_5 : decode cX6_soonest 5 = .ok (.invokevirtual 197, 3) := by decide +kernel
theorem dX6_soonest_8 : decode cX6_soonest 8 = .ok (.ireturn, 1) := by decide +kernel
set_option maxRecDepth 20000 in
theorem ggX6_cheapest_X6_routeAnswer : GoodIn wsX6_cheapest wsX6_routeAnswer := goodIn_r _ [5, 6, 7, 8, 9, 10, 11, 12, 13, 14, 15, 16, 17, 18, 19, 20, 21, 22, 23, 24, 25, 26, 27, 28, 29, 30, 31, 32, 33, 34, 35, 36, 37, 38, 39, 40, 41, 42, 43, 44, 45, 46, 47, 48, 49, 50, 51, 52, 53, 54, 55, 56, 57, 58, 59, 60, 61, 62, 63, 64, 65, 66, 67, 68, 69, 70, 71, 72, 73, 74, 75, 76, 77, 78, 79, 80, 81, 82, 83, 84, 85, 86, 87, 88, 89, 90, 91, 92, 93, 94, 95, 96, 97, 98, 99, 100, 101, 102, 103, 104, 105, 106, 107, 108, 109] (by decide +kernel) (by decide +kernel)
set_option maxRecDepth 20000 in
theorem gX6_cheapest_X6_routeAnswer : GoodIn wsX6_cheapest (wsV RX6 197 RX6 yX6_routeAnswer wsX6_routeAnswer) := goodIn_app (goodIn_of _ (by decide +kernel)) ggX6_cheapest_X6_routeAnswer
theorem dX6_cheapest_0 : decode cX6_cheapest 0 = .ok (.aload_n 0, 1) := by decide +kernel
theorem dX6_cheapest_1 : decode cX6_cheapest 1 = .ok (.iload_n 1, 1) := by decide +kernel
theorem dX6_cheapest_2 : decode cX6_cheapest 2 = .ok (.iload_n 2, 1) := by decide +kernel
theorem dX6_cheapest_3 : decode cX6_cheapest 3 = .ok (.iload_n 3, 1) := by decide +kernel
theorem dX6_cheapest_4 : decode cX6_cheapest 4 = .ok (.iconst 0, 1) := by decide +kernel
theorem dX6_cheapest_5 : decode cX6_cheapest 5 = .ok (.invokevirtual 197, 3) := by decide +kernel
theorem dX6_cheapest_8 : decode cX6_cheapest 8 = .ok (.ireturn, 1) := by decide +kernel
set_option maxRecDepth 20000 in
theorem ggX6_routeAnswer_X4_hasCorner : GoodIn wsX6_routeAnswer wsX4_hasCorner := goodIn_r _ [10, 11, 90, 91, 92, 93, 94, 95, 96, 97, 98, 99, 100, 101, 102, 103, 104] (by decide +kernel) (by decide +kernel)
set_option maxRecDepth 20000 in
theorem gX6_routeAnswer_X4_hasCorner : GoodIn wsX6_routeAnswer (wsV RX6 87 RX4 yX4_hasCorner wsX4_hasCorner) := goodIn_app (goodIn_of _ (by decide +kernel)) ggX6_routeAnswer_X4_hasCorner
set_option maxRecDepth 20000 in
theorem ggX6_routeAnswer_X0_find : GoodIn wsX6_routeAnswer wsX0_find := goodIn_r _ [16, 17, 18, 19, 20, 21, 22, 15, 23, 24, 25, 26, 27, 28, 29, 30, 9, 31, 32, 33, 34, 35, 36, 37, 38, 39, 40, 41, 42, 43, 44, 45, 46, 47, 48, 49, 50, 51, 52, 53, 54, 55, 56, 57, 58, 59, 60, 61, 62, 63, 64, 65, 66, 67, 7, 8, 10, 11, 68, 69, 70, 71, 72, 73, 74, 85, 86, 87, 88, 89, 90, 91, 92, 93, 94, 95, 96, 97, 98, 99, 100, 101, 102, 103, 104] (by decide +kernel) (by decide +kernel)
set_option maxRecDepth 20000 in
theorem gX6_routeAnswer_X0_find : GoodIn wsX6_routeAnswer (wsV RX6 201 RX0 yX0_find wsX0_find) := goodIn_app (goodIn_of _ (by decide +kernel)) ggX6_routeAnswer_X0_find
theorem dX6_routeAnswer_0 : decode cX6_routeAnswer 0 = .ok (.aload_n 0, 1) := by decide +kernel
theorem dX6_routeAnswer_1 : decode cX6_routeAnswer 1 = .ok (.getfield 19, 3) := by decide +kernel
theorem dX6_routeAnswer_4 : decode cX6_routeAnswer 4 = .ok (.iload_n 1, 1) := by decide +kernel
theorem dX6_routeAnswer_5 : decode cX6_routeAnswer 5 = .ok (.invokevirtual 87, 3) := by decide +kernel
theorem dX6_routeAnswer_8 : decode cX6_routeAnswer 8 = .ok (.ifCond .eq 23, 3) := by decide +kernel
theorem dX6_routeAnswer_11 : decode cX6_routeAnswer 11 = .ok (.aload_n 0, 1) := by decide +kernel
theorem dX6_routeAnswer_12 : decode cX6_routeAnswer 12 = .ok (.getfield 19, 3) := by decide +kernel
theorem dX6_routeAnswer_15 : decode cX6_routeAnswer 15 = .ok (.iload_n 2, 1) := by decide +kernel
theorem dX6_routeAnswer_16 : decode cX6_routeAnswer 16 = .ok (.invokevirtual 87, 3) := by decide +kernel
theorem dX6_routeAnswer_19 : decode cX6_routeAnswer 19 = .ok (.ifCond .eq 12, 3) := by decide +kernel
theorem dX6_routeAnswer_22 : decode cX6_routeAnswer 22 = .ok (.iload_n 3, 1) := by decide +kernel
theorem dX6_routeAnswer_23 : decode cX6_routeAnswer 23 = .ok (.ifCond .lt 8, 3) := by decide +kernel
theorem dX6_routeAnswer_26 : decode cX6_routeAnswer 26 = .ok (.iload_n 3, 1) := by decide +kernel
theorem dX6_routeAnswer_27 : decode cX6_routeAnswer 27 = .ok (.iconst 2, 1) := by decide +kernel
theorem dX6_routeAnswer_28 : decode cX6_routeAnswer 28 = .ok (.if_icmp .le 5, 3) := by decide +kernel
theorem dX6_routeAnswer_31 : decode cX6_routeAnswer 31 = .ok (.iconst (-1), 1) := by decide +kernel
theorem dX6_routeAnswer_32 : decode cX6_routeAnswer 32 = .ok (.ireturn, 1) := by decide +kernel
theorem dX6_routeAnswer_33 : decode cX6_routeAnswer 33 = .ok (.iload_n 1, 1) := by decide +kernel
theorem dX6_routeAnswer_34 : decode cX6_routeAnswer 34 = .ok (.iload_n 2, 1) := by decide +kernel
theorem dX6_routeAnswer_35 : decode cX6_routeAnswer 35 = .ok (.if_icmp .ne 15, 3) := by decide +kernel
theorem dX6_routeAnswer_38 : decode cX6_routeAnswer 38 = .ok (.iload_n 3, 1) := by decide +kernel
theorem dX6_routeAnswer_39 : decode cX6_routeAnswer 39 = .ok (.iconst 2, 1) := by decide +kernel
theorem dX6_routeAnswer_40 : decode cX6_routeAnswer 40 = .ok (.if_icmp .ne 8, 3) := by decide +kernel
theorem dX6_routeAnswer_43 : decode cX6_routeAnswer 43 = .ok (.bipush (-9), 2) := by decide +kernel
theorem dX6_routeAnswer_45 : decode cX6_routeAnswer 45 = .ok (.goto 4, 3) := by decide +kernel
theorem dX6_routeAnswer_48 : decode cX6_routeAnswer 48 = .ok (.iconst 0, 1) := by decide +kernel
theorem dX6_routeAnswer_49 : decode cX6_routeAnswer 49 = .ok (.ireturn, 1) := by decide +kernel
theorem dX6_routeAnswer_50 : decode cX6_routeAnswer 50 = .ok (.aload_n 0, 1) := by decide +kernel
theorem dX6_routeAnswer_51 : decode cX6_routeAnswer 51 = .ok (.getfield 44, 3) := by decide +kernel
theorem dX6_routeAnswer_54 : decode cX6_routeAnswer 54 = .ok (.aload_n 0, 1) := by decide +kernel
theorem dX6_routeAnswer_55 : decode cX6_routeAnswer 55 = .ok (.getfield 19, 3) := by decide +kernel
theorem dX6_routeAnswer_58 : decode cX6_routeAnswer 58 = .ok (.iload_n 1, 1) := by decide +kernel
theorem dX6_routeAnswer_59 : decode cX6_routeAnswer 59 = .ok (.iload_n 2, 1) := by decide +kernel
theorem dX6_routeAnswer_60 : decode cX6_routeAnswer 60 = .ok (.iload 4, 2) := by decide +kernel
theorem dX6_routeAnswer_62 : decode cX6_routeAnswer 62 = .ok (.invokevirtual 201, 3) := by decide +kernel
theorem dX6_routeAnswer_65 : decode cX6_routeAnswer 65 = .ok (.iload_n 3, 1) := by decide +kernel
theorem dX6_routeAnswer_66 : decode cX6_routeAnswer 66 = .ok (.lookupswitch 42 #[(0, 26), (1, 34)], 26) := by decide +kernel
theorem dX6_routeAnswer_92 : decode cX6_routeAnswer 92 = .ok (.aload_n 0, 1) := by decide +kernel
theorem dX6_routeAnswer_93 : decode cX6_routeAnswer 93 = .ok (.getfield 44, 3) := by decide +kernel
theorem dX6_routeAnswer_96 : decode cX6_routeAnswer 96 = .ok (.getfield 205, 3) := by decide +kernel
theorem dX6_routeAnswer_99 : decode cX6_routeAnswer 99 = .ok (.ireturn, 1) := by decide +kernel
theorem dX6_routeAnswer_100 : decode cX6_routeAnswer 100 = .ok (.aload_n 0, 1) := by decide +kernel
theorem dX6_routeAnswer_101 : decode cX6_routeAnswer 101 = .ok (.getfield 44, 3) := by decide +kernel
theorem dX6_routeAnswer_104 : decode cX6_routeAnswer 104 = .ok (.getfield 208, 3) := by decide +kernel
theorem dX6_routeAnswer_107 : decode cX6_routeAnswer 107 = .ok (.ireturn, 1) := by decide +kernel
theorem dX6_routeAnswer_108 : decode cX6_routeAnswer 108 = .ok (.aload_n 0, 1) := by decide +kernel
theorem dX6_routeAnswer_109 : decode cX6_routeAnswer 109 = .ok (.getfield 44, 3) := by decide +kernel
theorem dX6_routeAnswer_112 : decode cX6_routeAnswer 112 = .ok (.getfield 209, 3) := by decide +kernel
theorem dX6_routeAnswer_115 : decode cX6_routeAnswer 115 = .ok (.ireturn, 1) := by decide +kernel
set_option maxRecDepth 20000 in
theorem ggX6_byOne_X4_hasCorner : GoodIn wsX6_byOne wsX4_hasCorner := goodIn_r _ [8, 9, 38, 39, 40, 41, 42, 43, 44, 45, 46, 47, 48, 49, 50, 51, 52] (by decide +kernel) (by decide +kernel)
set_option maxRecDepth 20000 in
theorem gX6_byOne_X4_hasCorner : GoodIn wsX6_byOne (wsV RX6 87 RX4 yX4_hasCorner wsX4_hasCorner) := goodIn_app (goodIn_of _ (by decide +kernel)) ggX6_byOne_X4_hasCorner
set_option maxRecDepth 20000 in
theorem ggX6_byOne_X4_isHis : GoodIn wsX6_byOne wsX4_isHis := goodIn_r _ [13, 14, 15, 16, 17, 7, 18, 19, 20, 5, 6, 8, 9, 38, 39, 40, 41, 42, 43, 44, 45, 46, 47, 48, 49, 50, 51, 52] (by decide +kernel) (by decide +kernel)
set_option maxRecDepth 20000 in
theorem gX6_byOne_X4_isHis : GoodIn wsX6_byOne (wsV RX6 176 RX4 yX4_isHis wsX4_isHis) := goodIn_app (goodIn_of _ (by decide +kernel)) ggX6_byOne_X4_isHis
set_option maxRecDepth 20000 in
theorem ggX6_byOne_X4_reachedBy : GoodIn wsX6_byOne wsX4_reachedBy := goodIn_r _ [24, 25, 26, 27, 38, 39, 40, 41, 42, 43, 44, 45, 46, 47, 48, 49, 50, 51, 52] (by decide +kernel) (by decide +kernel)
set_option maxRecDepth 20000 in
theorem gX6_byOne_X4_reachedBy : GoodIn wsX6_byOne (wsV RX6 212 RX4 yX4_reachedBy wsX4_reachedBy) := goodIn_app (goodIn_of _ (by decide +kernel)) ggX6_byOne_X4_reachedBy
theorem dX6_byOne_0 : decode cX6_byOne 0 = .ok (.aload_n 0, 1) := by decide +kernel
theorem dX6_byOne_1 : decode cX6_byOne 1 = .ok (.getfield 19, 3) := by decide +kernel
theorem dX6_byOne_4 : decode cX6_byOne 4 = .ok (.iload_n 1, 1) := by decide +kernel
theorem dX6_byOne_5 : decode cX6_byOne 5 = .ok (.invokevirtual 87, 3) := by decide +kernel
theorem dX6_byOne_8 : decode cX6_byOne 8 = .ok (.ifCond .eq 14, 3) := by decide +kernel
theorem dX6_byOne_11 : decode cX6_byOne 11 = .ok (.aload_n 0, 1) := by decide +kernel
theorem dX6_byOne_12 : decode cX6_byOne 12 = .ok (.getfield 19, 3) := by decide +kernel
theorem dX6_byOne_15 : decode cX6_byOne 15 = .ok (.iload_n 2, 1) := by decide +kernel
theorem dX6_byOne_16 : decode cX6_byOne 16 = .ok (.invokevirtual 87, 3) := by decide +kernel
theorem dX6_byOne_19 : decode cX6_byOne 19 = .ok (.ifCond .ne 5, 3) := by decide +kernel
theorem dX6_byOne_22 : decode cX6_byOne 22 = .ok (.iconst (-1), 1) := by decide +kernel
theorem dX6_byOne_23 : decode cX6_byOne 23 = .ok (.ireturn, 1) := by decide +kernel
theorem dX6_byOne_24 : decode cX6_byOne 24 = .ok (.iconst 0, 1) := by decide +kernel
theorem dX6_byOne_25 : decode cX6_byOne 25 = .ok (.istore_n 3, 1) := by decide +kernel
theorem dX6_byOne_26 : decode cX6_byOne 26 = .ok (.iconst 0, 1) := by decide +kernel
theorem dX6_byOne_27 : decode cX6_byOne 27 = .ok (.istore 4, 2) := by decide +kernel
theorem dX6_byOne_29 : decode cX6_byOne 29 = .ok (.iload 4, 2) := by decide +kernel
theorem dX6_byOne_31 : decode cX6_byOne 31 = .ok (.aload_n 0, 1) := by decide +kernel
theorem dX6_byOne_32 : decode cX6_byOne 32 = .ok (.getfield 19, 3) := by decide +kernel
theorem dX6_byOne_35 : decode cX6_byOne 35 = .ok (.getfield 194, 3) := by decide +kernel
theorem dX6_byOne_38 : decode cX6_byOne 38 = .ok (.if_icmp .ge 64, 3) := by decide +kernel
theorem dX6_byOne_41 : decode cX6_byOne 41 = .ok (.aload_n 0, 1) := by decide +kernel
theorem dX6_byOne_42 : decode cX6_byOne 42 = .ok (.getfield 19, 3) := by decide +kernel
theorem dX6_byOne_45 : decode cX6_byOne 45 = .ok (.iload 4, 2) := by decide +kernel
theorem dX6_byOne_47 : decode cX6_byOne 47 = .ok (.iload_n 1, 1) := by decide +kernel
theorem dX6_byOne_48 : decode cX6_byOne 48 = .ok (.invokevirtual 176, 3) := by decide +kernel
theorem dX6_byOne_51 : decode cX6_byOne 51 = .ok (.ifCond .ne 6, 3) := by decide +kernel
theorem dX6_byOne_54 : decode cX6_byOne 54 = .ok (.goto 42, 3) := by decide +kernel
theorem dX6_byOne_57 : decode cX6_byOne 57 = .ok (.aload_n 0, 1) := by decide +kernel
theorem dX6_byOne_58 : decode cX6_byOne 58 = .ok (.getfield 19, 3) := by decide +kernel
theorem dX6_byOne_61 : decode cX6_byOne 61 = .ok (.aload_n 0, 1) := by decide +kernel
theorem dX6_byOne_62 : decode cX6_byOne 62 = .ok (.getfield 19, 3) := by decide +kernel
theorem dX6_byOne_65 : decode cX6_byOne 65 = .ok (.getfield 115, 3) := by decide +kernel
theorem dX6_byOne_68 : decode cX6_byOne 68 = .ok (.iload 4, 2) := by decide +kernel
theorem dX6_byOne_70 : decode cX6_byOne 70 = .ok (.iaload, 1) := by decide +kernel
theorem dX6_byOne_71 : decode cX6_byOne 71 = .ok (.iconst 1, 1) := by decide +kernel
theorem dX6_byOne_72 : decode cX6_byOne 72 = .ok (.iload_n 1, 1) := by decide +kernel
theorem dX6_byOne_73 : decode cX6_byOne 73 = .ok (.ishl, 1) := by decide +kernel
theorem dX6_byOne_74 : decode cX6_byOne 74 = .ok (.invokevirtual 212, 3) := by decide +kernel
theorem dX6_byOne_77 : decode cX6_byOne 77 = .ok (.istore 5, 2) := by decide +kernel
theorem dX6_byOne_79 : decode cX6_byOne 79 = .ok (.iload 5, 2) := by decide +kernel
theorem dX6_byOne_81 : decode cX6_byOne 81 = .ok (.iload_n 2, 1) := by decide +kernel
theorem dX6_byOne_82 : decode cX6_byOne 82 = .ok (.ishr, 1) := by decide +kernel
theorem dX6_byOne_83 : decode cX6_byOne 83 = .ok (.iconst 1, 1) := by decide +kernel
theorem dX6_byOne_84 : decode cX6_byOne 84 = .ok (.iand, 1) := by decide +kernel
theorem dX6_byOne_85 : decode cX6_byOne 85 = .ok (.iconst 1, 1) := by decide +kernel
theorem dX6_byOne_86 : decode cX6_byOne 86 = .ok (.if_icmp .ne 10, 3) := by decide +kernel
theorem dX6_byOne_89 : decode cX6_byOne 89 = .ok (.iload_n 3, 1) := by decide +kernel
theorem dX6_byOne_90 : decode cX6_byOne 90 = .ok (.iconst 1, 1) := by decide +kernel
theorem dX6_byOne_91 : decode cX6_byOne 91 = .ok (.iload 4, 2) := by decide +kernel
theorem dX6_byOne_93 : decode cX6_byOne 93 = .ok (.ishl, 1) := by decide +kernel
theorem dX6_byOne_94 : decode cX6_byOne 94 = .ok (.ior, 1) := by decide +kernel
theorem dX6_byOne_95 : decode cX6_byOne 95 = .ok (.istore_n 3, 1) := by decide +kernel
theorem dX6_byOne_96 : decode cX6_byOne 96 = .ok (.iinc 4 1, 3) := by decide +kernel
theorem dX6_byOne_99 : decode cX6_byOne 99 = .ok (.goto (-70), 3) := by decide +kernel
theorem dX6_byOne_102 : decode cX6_byOne 102 = .ok (.iload_n 3, 1) := by decide +kernel
theorem dX6_byOne_103 : decode cX6_byOne 103 = .ok (.ireturn, 1) := by decide +kernel
set_option maxRecDepth 20000 in
theorem ggX6_forFee_X4_hasCorner : GoodIn wsX6_forFee wsX4_hasCorner := goodIn_r _ [7, 8, 65, 66, 67, 68, 69, 70, 71, 72, 73, 74, 75, 76, 77, 78, 79] (by decide +kernel) (by decide +kernel)
set_option maxRecDepth 20000 in
theorem gX6_forFee_X4_hasCorner : GoodIn wsX6_forFee (wsV RX6 87 RX4 yX4_hasCorner wsX4_hasCorner) := goodIn_app (goodIn_of _ (by decide +kernel)) ggX6_forFee_X4_hasCorner
set_option maxRecDepth 20000 in
theorem ggX6_forFee_X4_isHis : GoodIn wsX6_forFee wsX4_isHis := goodIn_r _ [12, 13, 14, 15, 16, 6, 17, 18, 19, 4, 5, 7, 8, 65, 66, 67, 68, 69, 70, 71, 72, 73, 74, 75, 76, 77, 78, 79] (by decide +kernel) (by decide +kernel)
set_option maxRecDepth 20000 in
theorem gX6_forFee_X4_isHis : GoodIn wsX6_forFee (wsV RX6 176 RX4 yX4_isHis wsX4_isHis) := goodIn_app (goodIn_of _ (by decide +kernel)) ggX6_forFee_X4_isHis
set_option maxRecDepth 20000 in
theorem ggX6_forFee_X4_canLeadFor : GoodIn wsX6_forFee wsX4_canLeadFor := goodIn_r _ [23, 24, 25, 26, 6, 27, 28, 29, 30, 31, 32, 33, 34, 14, 15, 16, 17, 18, 35, 36, 37, 38, 39, 40, 41, 42, 43, 44, 45, 46, 47, 48, 49, 50, 51, 52, 53, 54, 65, 66, 67, 68, 69, 70, 71, 72, 73, 74, 75, 76, 77, 78, 79] (by decide +kernel) (by decide +kernel)
set_option maxRecDepth 20000 in
theorem gX6_forFee_X4_canLeadFor : GoodIn wsX6_forFee (wsV RX6 215 RX4 yX4_canLeadFor wsX4_canLeadFor) := goodIn_app (goodIn_of _ (by decide +kernel)) ggX6_forFee_X4_canLeadFor
theorem dX6_forFee_0 : decode cX6_forFee 0 = .ok (.aload_n 0, 1) := by decide +kernel
theorem dX6_forFee_1 : decode cX6_forFee 1 = .ok (.getfield 19, 3) := by decide +kernel
theorem dX6_forFee_4 : decode cX6_forFee 4 = .ok (.iload_n 1, 1) := by decide +kernel
theorem dX6_forFee_5 : decode cX6_forFee 5 = .ok (.invokevirtual 87, 3) := by decide +kernel
theorem dX6_forFee_8 : decode cX6_forFee 8 = .ok (.ifCond .eq 25, 3) := by decide +kernel
theorem dX6_forFee_11 : decode cX6_forFee 11 = .ok (.aload_n 0, 1) := by decide +kernel
theorem dX6_forFee_12 : decode cX6_forFee 12 = .ok (.getfield 19, 3) := by decide +kernel
theorem dX6_forFee_15 : decode cX6_forFee 15 = .ok (.iload_n 2, 1) := by decide +kernel
theorem dX6_forFee_16 : decode cX6_forFee 16 = .ok (.invokevirtual 87, 3) := by decide +kernel
theorem dX6_forFee_19 : decode cX6_forFee 19 = .ok (.ifCond .eq 14, 3) := by decide +kernel
theorem dX6_forFee_22 : decode cX6_forFee 22 = .ok (.iload_n 3, 1) := by decide +kernel
theorem dX6_forFee_23 : decode cX6_forFee 23 = .ok (.ifCond .lt 10, 3) := by decide +kernel
theorem dX6_forFee_26 : decode cX6_forFee 26 = .ok (.iload_n 3, 1) := by decide +kernel
theorem dX6_forFee_27 : decode cX6_forFee 27 = .ok (.sipush 999, 3) := by decide +kernel
theorem dX6_forFee_30 : decode cX6_forFee 30 = .ok (.if_icmp .le 5, 3) := by decide +kernel
theorem dX6_forFee_33 : decode cX6_forFee 33 = .ok (.iconst (-1), 1) := by decide +kernel
theorem dX6_forFee_34 : decode cX6_forFee 34 = .ok (.ireturn, 1) := by decide +kernel
theorem dX6_forFee_35 : decode cX6_forFee 35 = .ok (.iconst 0, 1) := by decide +kernel
theorem dX6_forFee_36 : decode cX6_forFee 36 = .ok (.istore 4, 2) := by decide +kernel
theorem dX6_forFee_38 : decode cX6_forFee 38 = .ok (.iconst 0, 1) := by decide +kernel
theorem dX6_forFee_39 : decode cX6_forFee 39 = .ok (.istore 5, 2) := by decide +kernel
theorem dX6_forFee_41 : decode cX6_forFee 41 = .ok (.iload 5, 2) := by decide +kernel
theorem dX6_forFee_43 : decode cX6_forFee 43 = .ok (.aload_n 0, 1) := by decide +kernel
theorem dX6_forFee_44 : decode cX6_forFee 44 = .ok (.getfield 19, 3) := by decide +kernel
theorem dX6_forFee_47 : decode cX6_forFee 47 = .ok (.getfield 194, 3) := by decide +kernel
theorem dX6_forFee_50 : decode cX6_forFee 50 = .ok (.if_icmp .ge 46, 3) := by decide +kernel
theorem dX6_forFee_53 : decode cX6_forFee 53 = .ok (.aload_n 0, 1) := by decide +kernel
theorem dX6_forFee_54 : decode cX6_forFee 54 = .ok (.getfield 19, 3) := by decide +kernel
theorem dX6_forFee_57 : decode cX6_forFee 57 = .ok (.iload 5, 2) := by decide +kernel
theorem dX6_forFee_59 : decode cX6_forFee 59 = .ok (.iload_n 1, 1) := by decide +kernel
theorem dX6_forFee_60 : decode cX6_forFee 60 = .ok (.invokevirtual 176, 3) := by decide +kernel
theorem dX6_forFee_63 : decode cX6_forFee 63 = .ok (.ifCond .eq 27, 3) := by decide +kernel
theorem dX6_forFee_66 : decode cX6_forFee 66 = .ok (.aload_n 0, 1) := by decide +kernel
theorem dX6_forFee_67 : decode cX6_forFee 67 = .ok (.getfield 19, 3) := by decide +kernel
theorem dX6_forFee_70 : decode cX6_forFee 70 = .ok (.iload 5, 2) := by decide +kernel
theorem dX6_forFee_72 : decode cX6_forFee 72 = .ok (.iload_n 1, 1) := by decide +kernel
theorem dX6_forFee_73 : decode cX6_forFee 73 = .ok (.iload_n 2, 1) := by decide +kernel
theorem dX6_forFee_74 : decode cX6_forFee 74 = .ok (.iload_n 3, 1) := by decide +kernel
theorem dX6_forFee_75 : decode cX6_forFee 75 = .ok (.invokevirtual 215, 3) := by decide +kernel
theorem dX6_forFee_78 : decode cX6_forFee 78 = .ok (.ifCond .eq 12, 3) := by decide +kernel
theorem dX6_forFee_81 : decode cX6_forFee 81 = .ok (.iload 4, 2) := by decide +kernel
theorem dX6_forFee_83 : decode cX6_forFee 83 = .ok (.iconst 1, 1) := by decide +kernel
theorem dX6_forFee_84 : decode cX6_forFee 84 = .ok (.iload 5, 2) := by decide +kernel
theorem dX6_forFee_86 : decode cX6_forFee 86 = .ok (.ishl, 1) := by decide +kernel
theorem dX6_forFee_87 : decode cX6_forFee 87 = .ok (.ior, 1) := by decide +kernel
theorem dX6_forFee_88 : decode cX6_forFee 88 = .ok (.istore 4, 2) := by decide +kernel
theorem dX6_forFee_90 : decode cX6_forFee 90 = .ok (.iinc 5 1, 3) := by decide +kernel
theorem dX6_forFee_93 : decode cX6_forFee 93 = .ok (.goto (-52), 3) := by decide +kernel
theorem dX6_forFee_96 : decode cX6_forFee 96 = .ok (.iload 4, 2) := by decide +kernel
theorem dX6_forFee_98 : decode cX6_forFee 98 = .ok (.ireturn, 1) := by decide +kernel
set_option maxRecDepth 20000 in
theorem ggX6_byBells_X4_hasCorner : GoodIn wsX6_byBells wsX4_hasCorner := goodIn_r _ [7, 8, 43, 44, 45, 46, 47, 48, 49, 50, 51, 52, 53, 54, 55, 56, 57] (by decide +kernel) (by decide +kernel)
set_option maxRecDepth 20000 in
theorem gX6_byBells_X4_hasCorner : GoodIn wsX6_byBells (wsV RX6 87 RX4 yX4_hasCorner wsX4_hasCorner) := goodIn_app (goodIn_of _ (by decide +kernel)) ggX6_byBells_X4_hasCorner
set_option maxRecDepth 20000 in
theorem ggX6_byBells_X0_minutesAlone : GoodIn wsX6_byBells wsX0_minutesAlone := goodIn_r _ [13, 14, 15, 16, 17, 6, 18, 19, 20, 21, 22, 23, 24, 25, 26, 27, 12, 28, 29, 30, 31, 32, 58, 59, 60, 61, 62, 43, 44, 45, 46, 47, 48, 49, 50, 51, 52, 53, 54, 55, 56, 57] (by decide +kernel) (by decide +kernel)
set_option maxRecDepth 20000 in
theorem gX6_byBells_X0_minutesAlone : GoodIn wsX6_byBells (wsV RX6 219 RX0 yX0_minutesAlone wsX0_minutesAlone) := goodIn_app (goodIn_of _ (by decide +kernel)) ggX6_byBells_X0_minutesAlone
theorem dX6_byBells_0 : decode cX6_byBells 0 = .ok (.aload_n 0, 1) := by decide +kernel
theorem dX6_byBells_1 : decode cX6_byBells 1 = .ok (.getfield 19, 3) := by decide +kernel
theorem dX6_byBells_4 : decode cX6_byBells 4 = .ok (.iload_n 1, 1) := by decide +kernel
theorem dX6_byBells_5 : decode cX6_byBells 5 = .ok (.invokevirtual 87, 3) := by decide +kernel
theorem dX6_byBells_8 : decode cX6_byBells 8 = .ok (.ifCond .eq 14, 3) := by decide +kernel
theorem dX6_byBells_11 : decode cX6_byBells 11 = .ok (.aload_n 0, 1) := by decide +kernel
theorem dX6_byBells_12 : decode cX6_byBells 12 = .ok (.getfield 19, 3) := by decide +kernel
theorem dX6_byBells_15 : decode cX6_byBells 15 = .ok (.iload_n 3, 1) := by decide +kernel
theorem dX6_byBells_16 : decode cX6_byBells 16 = .ok (.invokevirtual 87, 3) := by decide +kernel
theorem dX6_byBells_19 : decode cX6_byBells 19 = .ok (.ifCond .ne 5, 3) := by decide +kernel
theorem dX6_byBells_22 : decode cX6_byBells 22 = .ok (.iconst (-1), 1) := by decide +kernel
theorem dX6_byBells_23 : decode cX6_byBells 23 = .ok (.ireturn, 1) := by decide +kernel
theorem dX6_byBells_24 : decode cX6_byBells 24 = .ok (.iload_n 2, 1) := by decide +kernel
theorem dX6_byBells_25 : decode cX6_byBells 25 = .ok (.ifCond .lt 10, 3) := by decide +kernel
theorem dX6_byBells_28 : decode cX6_byBells 28 = .ok (.iload_n 2, 1) := by decide +kernel
theorem dX6_byBells_29 : decode cX6_byBells 29 = .ok (.sipush 9999, 3) := by decide +kernel
theorem dX6_byBells_32 : decode cX6_byBells 32 = .ok (.if_icmp .le 5, 3) := by decide +kernel
theorem dX6_byBells_35 : decode cX6_byBells 35 = .ok (.iconst (-1), 1) := by decide +kernel
theorem dX6_byBells_36 : decode cX6_byBells 36 = .ok (.ireturn, 1) := by decide +kernel
theorem dX6_byBells_37 : decode cX6_byBells 37 = .ok (.aload_n 0, 1) := by decide +kernel
theorem dX6_byBells_38 : decode cX6_byBells 38 = .ok (.getfield 44, 3) := by decide +kernel
theorem dX6_byBells_41 : decode cX6_byBells 41 = .ok (.aload_n 0, 1) := by decide +kernel
theorem dX6_byBells_42 : decode cX6_byBells 42 = .ok (.getfield 19, 3) := by decide +kernel
theorem dX6_byBells_45 : decode cX6_byBells 45 = .ok (.iload_n 1, 1) := by decide +kernel
theorem dX6_byBells_46 : decode cX6_byBells 46 = .ok (.iload_n 2, 1) := by decide +kernel
theorem dX6_byBells_47 : decode cX6_byBells 47 = .ok (.iload_n 3, 1) := by decide +kernel
theorem dX6_byBells_48 : decode cX6_byBells 48 = .ok (.invokevirtual 219, 3) := by decide +kernel
theorem dX6_byBells_51 : decode cX6_byBells 51 = .ok (.ireturn, 1) := by decide +kernel
set_option maxRecDepth 20000 in
theorem ggX6_taught_X4_hasGuide : GoodIn wsX6_taught wsX4_hasGuide := goodIn_r _ [9, 10, 45, 46, 47, 48, 49, 50, 51, 52, 53, 54, 55, 56, 57, 58, 59] (by decide +kernel) (by decide +kernel)
set_option maxRecDepth 20000 in
theorem gX6_taught_X4_hasGuide : GoodIn wsX6_taught (wsV RX6 106 RX4 yX4_hasGuide wsX4_hasGuide) := goodIn_app (goodIn_of _ (by decide +kernel)) ggX6_taught_X4_hasGuide
set_option maxRecDepth 20000 in
theorem ggX6_taught_X4_knowsStreet : GoodIn wsX6_taught wsX4_knowsStreet := goodIn_r _ [14, 15, 16, 6, 7, 8, 9, 10, 17, 18, 19, 20, 21, 45, 46, 47, 48, 49, 50, 51, 52, 53, 54, 55, 56, 57, 58, 59] (by decide +kernel) (by decide +kernel)
set_option maxRecDepth 20000 in
theorem gX6_taught_X4_knowsStreet : GoodIn wsX6_taught (wsV RX6 180 RX4 yX4_knowsStreet wsX4_knowsStreet) := goodIn_app (goodIn_of _ (by decide +kernel)) ggX6_taught_X4_knowsStreet
set_option maxRecDepth 20000 in
theorem ggX6_taught_X4_reachedBy : GoodIn wsX6_taught wsX4_reachedBy := goodIn_r _ [25, 21, 26, 27, 45, 46, 47, 48, 49, 50, 51, 52, 53, 54, 55, 56, 57, 58, 59] (by decide +kernel) (by decide +kernel)
set_option maxRecDepth 20000 in
theorem gX6_taught_X4_reachedBy : GoodIn wsX6_taught (wsV RX6 212 RX4 yX4_reachedBy wsX4_reachedBy) := goodIn_app (goodIn_of _ (by decide +kernel)) ggX6_taught_X4_reachedBy
set_option maxRecDepth 20000 in
theorem ggX6_taught_J6_bitCount_0f7a4 : GoodIn wsX6_taught wsJ6_bitCount_0f7a4 := goodIn_r _ [31, 32, 33, 34] (by decide +kernel) (by decide +kernel)
set_option maxRecDepth 20000 in
theorem gX6_taught_J6_bitCount_0f7a4 : GoodIn wsX6_taught (va_wsS RX6 223 yJ6_bitCount_0f7a4 wsJ6_bitCount_0f7a4) := goodIn_app (goodIn_of _ (by decide +kernel)) ggX6_taught_J6_bitCount_0f7a4
theorem dX6_taught_0 : decode cX6_taught 0 = .ok (.aload_n 0, 1) := by decide +kernel
theorem dX6_taught_1 : decode cX6_taught 1 = .ok (.getfield 19, 3) := by decide +kernel
theorem dX6_taught_4 : decode cX6_taught 4 = .ok (.iload_n 1, 1) := by decide +kernel
theorem dX6_taught_5 : decode cX6_taught 5 = .ok (.invokevirtual 106, 3) := by decide +kernel
theorem dX6_taught_8 : decode cX6_taught 8 = .ok (.ifCond .eq 12, 3) := by decide +kernel
theorem dX6_taught_11 : decode cX6_taught 11 = .ok (.iload_n 2, 1) := by decide +kernel
theorem dX6_taught_12 : decode cX6_taught 12 = .ok (.ifCond .lt 8, 3) := by decide +kernel
theorem dX6_taught_15 : decode cX6_taught 15 = .ok (.iload_n 2, 1) := by decide +kernel
theorem dX6_taught_16 : decode cX6_taught 16 = .ok (.iconst 1, 1) := by decide +kernel
theorem dX6_taught_17 : decode cX6_taught 17 = .ok (.if_icmp .le 5, 3) := by decide +kernel
theorem dX6_taught_20 : decode cX6_taught 20 = .ok (.iconst (-1), 1) := by decide +kernel
theorem dX6_taught_21 : decode cX6_taught 21 = .ok (.ireturn, 1) := by decide +kernel
theorem dX6_taught_22 : decode cX6_taught 22 = .ok (.bipush (-9), 2) := by decide +kernel
theorem dX6_taught_24 : decode cX6_taught 24 = .ok (.istore_n 3, 1) := by decide +kernel
theorem dX6_taught_25 : decode cX6_taught 25 = .ok (.bipush (-9), 2) := by decide +kernel
theorem dX6_taught_27 : decode cX6_taught 27 = .ok (.istore 4, 2) := by decide +kernel
theorem dX6_taught_29 : decode cX6_taught 29 = .ok (.iconst 0, 1) := by decide +kernel
theorem dX6_taught_30 : decode cX6_taught 30 = .ok (.istore 5, 2) := by decide +kernel
theorem dX6_taught_32 : decode cX6_taught 32 = .ok (.iload 5, 2) := by decide +kernel
theorem dX6_taught_34 : decode cX6_taught 34 = .ok (.aload_n 0, 1) := by decide +kernel
theorem dX6_taught_35 : decode cX6_taught 35 = .ok (.getfield 19, 3) := by decide +kernel
theorem dX6_taught_38 : decode cX6_taught 38 = .ok (.getfield 191, 3) := by decide +kernel
theorem dX6_taught_41 : decode cX6_taught 41 = .ok (.if_icmp .ge 74, 3) := by decide +kernel
theorem dX6_taught_44 : decode cX6_taught 44 = .ok (.aload_n 0, 1) := by decide +kernel
theorem dX6_taught_45 : decode cX6_taught 45 = .ok (.getfield 19, 3) := by decide +kernel
theorem dX6_taught_48 : decode cX6_taught 48 = .ok (.iload_n 1, 1) := by decide +kernel
theorem dX6_taught_49 : decode cX6_taught 49 = .ok (.iload 5, 2) := by decide +kernel
theorem dX6_taught_51 : decode cX6_taught 51 = .ok (.invokevirtual 180, 3) := by decide +kernel
theorem dX6_taught_54 : decode cX6_taught 54 = .ok (.ifCond .eq 6, 3) := by decide +kernel
theorem dX6_taught_57 : decode cX6_taught 57 = .ok (.goto 52, 3) := by decide +kernel
theorem dX6_taught_60 : decode cX6_taught 60 = .ok (.aload_n 0, 1) := by decide +kernel
theorem dX6_taught_61 : decode cX6_taught 61 = .ok (.getfield 19, 3) := by decide +kernel
theorem dX6_taught_64 : decode cX6_taught 64 = .ok (.aload_n 0, 1) := by decide +kernel
theorem dX6_taught_65 : decode cX6_taught 65 = .ok (.getfield 19, 3) := by decide +kernel
theorem dX6_taught_68 : decode cX6_taught 68 = .ok (.getfield 115, 3) := by decide +kernel
theorem dX6_taught_71 : decode cX6_taught 71 = .ok (.iload_n 1, 1) := by decide +kernel
theorem dX6_taught_72 : decode cX6_taught 72 = .ok (.iaload, 1) := by decide +kernel
theorem dX6_taught_73 : decode cX6_taught 73 = .ok (.iconst 1, 1) := by decide +kernel
theorem dX6_taught_74 : decode cX6_taught 74 = .ok (.iload 5, 2) := by decide +kernel
theorem dX6_taught_76 : decode cX6_taught 76 = .ok (.ishl, 1) := by decide +kernel
theorem dX6_taught_77 : decode cX6_taught 77 = .ok (.ior, 1) := by decide +kernel
theorem dX6_taught_78 : decode cX6_taught 78 = .ok (.aload_n 0, 1) := by decide +kernel
theorem dX6_taught_79 : decode cX6_taught 79 = .ok (.getfield 19, 3) := by decide +kernel
theorem dX6_taught_82 : decode cX6_taught 82 = .ok (.getfield 118, 3) := by decide +kernel

theorem dX2_readItem_100 : decode cX2_readItem 100 = .ok (.aload_n 0, 1) := by decide +kernel
theorem dX2_readItem_101 : decode cX2_readItem 101 = .ok (.aload_n 1, 1) := by decide +kernel
theorem dX2_readItem_102 : decode cX2_readItem 102 = .ok (.invokevirtual 58, 3) := by decide +kernel
theorem dX2_readItem_105 : decode cX2_readItem 105 = .ok (.goto 7, 3) := by decide +kernel
theorem dX2_readItem_108 : decode cX2_readItem 108 = .ok (.aload_n 0, 1) := by decide +kernel
theorem dX2_readItem_109 : decode cX2_readItem 109 = .ok (.invokevirtual 61, 3) := by decide +kernel
theorem dX2_readItem_112 : decode cX2_readItem 112 = .ok (.return_, 1) := by decide +kernel
set_option maxRecDepth 20000 in
theorem ggX2_readCorner_X2_refuseToken : GoodIn wsX2_readCorner wsX2_refuseToken := goodIn_r _ [7, 8, 9, 54, 55, 56, 57, 58, 59, 60] (by decide +kernel) (by decide +kernel)
set_option maxRecDepth 20000 in
theorem gX2_readCorner_X2_refuseToken : GoodIn wsX2_readCorner (wsV RX2 61 RX2 yX2_refuseToken wsX2_refuseToken) := goodIn_app (goodIn_of _ (by decide +kernel)) ggX2_readCorner_X2_refuseToken
set_option maxRecDepth 20000 in
theorem ggX2_readCorner_X2_readNumber : GoodIn wsX2_readCorner wsX2_readNumber := goodIn_r _ [13, 8, 14, 15, 16, 17, 18, 6, 19, 20, 21, 22, 9, 23, 24, 25, 26, 27, 28, 29, 30, 31, 32, 33, 34, 3, 4, 5, 7, 54, 55, 56, 57, 58, 59, 60] (by decide +kernel) (by decide +kernel)
set_option maxRecDepth 20000 in
theorem gX2_readCorner_X2_readNumber : GoodIn wsX2_readCorner (wsV RX2 70 RX2 yX2_readNumber wsX2_readNumber) := goodIn_app (goodIn_of _ (by decide +kernel)) ggX2_readCorner_X2_readNumber
set_option maxRecDepth 20000 in
theorem ggX2_readCorner_X2_readStop : GoodIn wsX2_readCorner wsX2_readStop := goodIn_r _ [38, 8, 14, 16, 17, 18, 6, 19, 20, 21, 22, 9, 23, 24, 25, 26, 15, 27, 28, 29, 30, 31, 32, 33, 34, 3, 4, 5, 7, 54, 55, 56, 57, 58, 59, 60] (by decide +kernel) (by decide +kernel)
set_option maxRecDepth 20000 in
theorem gX2_readCorner_X2_readStop : GoodIn wsX2_readCorner (wsV RX2 74 RX2 yX2_readStop wsX2_readStop) := goodIn_app (goodIn_of _ (by decide +kernel)) ggX2_readCorner_X2_readStop
theorem dX2_readCorner_0 : decode cX2_readCorner 0 = .ok (.aload_n 1, 1) := by decide +kernel
theorem dX2_readCorner_1 : decode cX2_readCorner 1 = .ok (.getfield 64, 3) := by decide +kernel
theorem dX2_readCorner_4 : decode cX2_readCorner 4 = .ok (.istore_n 2, 1) := by decide +kernel
theorem dX2_readCorner_5 : decode cX2_readCorner 5 = .ok (.iload_n 2, 1) := by decide +kernel
theorem dX2_readCorner_6 : decode cX2_readCorner 6 = .ok (.bipush 7, 2) := by decide +kernel
theorem dX2_readCorner_8 : decode cX2_readCorner 8 = .ok (.if_icmp .lt 8, 3) := by decide +kernel
theorem dX2_readCorner_11 : decode cX2_readCorner 11 = .ok (.aload_n 0, 1) := by decide +kernel
theorem dX2_readCorner_12 : decode cX2_readCorner 12 = .ok (.invokevirtual 61, 3) := by decide +kernel
theorem dX2_readCorner_15 : decode cX2_readCorner 15 = .ok (.return_, 1) := by decide +kernel
theorem dX2_readCorner_16 : decode cX2_readCorner 16 = .ok (.aload_n 1, 1) := by decide +kernel
theorem dX2_readCorner_17 : decode cX2_readCorner 17 = .ok (.getfield 67, 3) := by decide +kernel
theorem dX2_readCorner_20 : decode cX2_readCorner 20 = .ok (.iload_n 2, 1) := by decide +kernel
theorem dX2_readCorner_21 : decode cX2_readCorner 21 = .ok (.aload_n 0, 1) := by decide +kernel
theorem dX2_readCorner_22 : decode cX2_readCorner 22 = .ok (.iconst 0, 1) := by decide +kernel
theorem dX2_readCorner_23 : decode cX2_readCorner 23 = .ok (.iconst 3, 1) := by decide +kernel
theorem dX2_readCorner_24 : decode cX2_readCorner 24 = .ok (.invokevirtual 70, 3) := by decide +kernel
theorem dX2_readCorner_27 : decode cX2_readCorner 27 = .ok (.iastore, 1) := by decide +kernel
theorem dX2_readCorner_28 : decode cX2_readCorner 28 = .ok (.aload_n 0, 1) := by decide +kernel
theorem dX2_readCorner_29 : decode cX2_readCorner 29 = .ok (.invokevirtual 74, 3) := by decide +kernel
theorem dX2_readCorner_32 : decode cX2_readCorner 32 = .ok (.aload_n 1, 1) := by decide +kernel
theorem dX2_readCorner_33 : decode cX2_readCorner 33 = .ok (.iload_n 2, 1) := by decide +kernel
theorem dX2_readCorner_34 : decode cX2_readCorner 34 = .ok (.iconst 1, 1) := by decide +kernel
theorem dX2_readCorner_35 : decode cX2_readCorner 35 = .ok (.iadd, 1) := by decide +kernel
theorem dX2_readCorner_36 : decode cX2_readCorner 36 = .ok (.putfield 64, 3) := by decide +kernel
theorem dX2_readCorner_39 : decode cX2_readCorner 39 = .ok (.return_, 1) := by decide +kernel
set_option maxRecDepth 20000 in
theorem ggX2_readStreet_X2_refuseToken : GoodIn wsX2_readStreet wsX2_refuseToken := goodIn_r _ [10, 11, 12, 57, 58, 59, 60, 61, 62, 63] (by decide +kernel) (by decide +kernel)
set_option maxRecDepth 20000 in
theorem gX2_readStreet_X2_refuseToken : GoodIn wsX2_readStreet (wsV RX2 61 RX2 yX2_refuseToken wsX2_refuseToken) := goodIn_app (goodIn_of _ (by decide +kernel)) ggX2_readStreet_X2_refuseToken
set_option maxRecDepth 20000 in
theorem ggX2_readStreet_X2_readNumber : GoodIn wsX2_readStreet wsX2_readNumber := goodIn_r _ [16, 11, 17, 18, 19, 20, 21, 9, 22, 23, 24, 25, 12, 26, 27, 28, 29, 30, 31, 32, 33, 34, 35, 36, 37, 6, 7, 8, 10, 57, 58, 59, 60, 61, 62, 63] (by decide +kernel) (by decide +kernel)
set_option maxRecDepth 20000 in
theorem gX2_readStreet_X2_readNumber : GoodIn wsX2_readStreet (wsV RX2 70 RX2 yX2_readNumber wsX2_readNumber) := goodIn_app (goodIn_of _ (by decide +kernel)) ggX2_readStreet_X2_readNumber
set_option maxRecDepth 20000 in
theorem ggX2_readStreet_X2_readStop : GoodIn wsX2_readStreet wsX2_readStop := goodIn_r _ [41, 11, 17, 19, 20, 21, 9, 22, 23, 24, 25, 12, 26, 27, 28, 29, 18, 30, 31, 32, 33, 34, 35, 36, 37, 6, 7, 8, 10, 57, 58, 59, 60, 61, 62, 63] (by decide +kernel) (by decide +kernel)
set_option maxRecDepth 20000 in
theorem gX2_readStreet_X2_readStop : GoodIn wsX2_readStreet (wsV RX2 74 RX2 yX2_readStop wsX2_readStop) := goodIn_app (goodIn_of _ (by decide +kernel)) ggX2_readStreet_X2_readStop
theorem dX2_readStreet_0 : decode cX2_readStreet 0 = .ok (.aload_n 1, 1) := by decide +kernel
theorem dX2_readStreet_1 : decode cX2_readStreet 1 = .ok (.getfield 77, 3) := by decide +kernel
theorem dX2_readStreet_4 : decode cX2_readStreet 4 = .ok (.istore_n 2, 1) := by decide +kernel
theorem dX2_readStreet_5 : decode cX2_readStreet 5 = .ok (.iload_n 2, 1) := by decide +kernel
theorem dX2_readStreet_6 : decode cX2_readStreet 6 = .ok (.bipush 9, 2) := by decide +kernel
theorem dX2_readStreet_8 : decode cX2_readStreet 8 = .ok (.if_icmp .lt 8, 3) := by decide +kernel
theorem dX2_readStreet_11 : decode cX2_readStreet 11 = .ok (.aload_n 0, 1) := by decide +kernel
theorem dX2_readStreet_12 : decode cX2_readStreet 12 = .ok (.invokevirtual 61, 3) := by decide +kernel
theorem dX2_readStreet_15 : decode cX2_readStreet 15 = .ok (.return_, 1) := by decide +kernel
theorem dX2_readStreet_16 : decode cX2_readStreet 16 = .ok (.aload_n 1, 1) := by decide +kernel
theorem dX2_readStreet_17 : decode cX2_readStreet 17 = .ok (.getfield 80, 3) := by decide +kernel
theorem dX2_readStreet_20 : decode cX2_readStreet 20 = .ok (.iload_n 2, 1) := by decide +kernel
theorem dX2_readStreet_21 : decode cX2_readStreet 21 = .ok (.aload_n 0, 1) := by decide +kernel
theorem dX2_readStreet_22 : decode cX2_readStreet 22 = .ok (.iconst 0, 1) := by decide +kernel
theorem dX2_readStreet_23 : decode cX2_readStreet 23 = .ok (.aload_n 1, 1) := by decide +kernel
theorem dX2_readStreet_24 : decode cX2_readStreet 24 = .ok (.getfield 64, 3) := by decide +kernel
theorem dX2_readStreet_27 : decode cX2_readStreet 27 = .ok (.iconst 1, 1) := by decide +kernel
theorem dX2_readStreet_28 : decode cX2_readStreet 28 = .ok (.isub, 1) := by decide +kernel
theorem dX2_readStreet_29 : decode cX2_readStreet 29 = .ok (.invokevirtual 70, 3) := by decide +kernel
theorem dX2_readStreet_32 : decode cX2_readStreet 32 = .ok (.iastore, 1) := by decide +kernel
theorem dX2_readStreet_33 : decode cX2_readStreet 33 = .ok (.aload_n 1, 1) := by decide +kernel
theorem dX2_readStreet_34 : decode cX2_readStreet 34 = .ok (.getfield 83, 3) := by decide +kernel
theorem dX2_readStreet_37 : decode cX2_readStreet 37 = .ok (.iload_n 2, 1) := by decide +kernel
theorem dX2_readStreet_38 : decode cX2_readStreet 38 = .ok (.aload_n 0, 1) := by decide +kernel
theorem dX2_readStreet_39 : decode cX2_readStreet 39 = .ok (.iconst 0, 1) := by decide +kernel
theorem dX2_readStreet_40 : decode cX2_readStreet 40 = .ok (.aload_n 1, 1) := by decide +kernel
theorem dX2_readStreet_41 : decode cX2_readStreet 41 = .ok (.getfield 64, 3) := by decide +kernel
theorem dX2_readStreet_44 : decode cX2_readStreet 44 = .ok (.iconst 1, 1) := by decide +kernel
theorem dX2_readStreet_45 : decode cX2_readStreet 45 = .ok (.isub, 1) := by decide +kernel
theorem dX2_readStreet_46 : decode cX2_readStreet 46 = .ok (.invokevirtual 70, 3) := by decide +kernel
theorem dX2_readStreet_49 : decode cX2_readStreet 49 = .ok (.iastore, 1) := by decide +kernel
theorem dX2_readStreet_50 : decode cX2_readStreet 50 = .ok (.aload_n 1, 1) := by decide +kernel
theorem dX2_readStreet_51 : decode cX2_readStreet 51 = .ok (.getfield 83, 3) := by decide +kernel
theorem dX2_readStreet_54 : decode cX2_readStreet 54 = .ok (.iload_n 2, 1) := by decide +kernel
theorem dX2_readStreet_55 : decode cX2_readStreet 55 = .ok (.iaload, 1) := by decide +kernel
theorem dX2_readStreet_56 : decode cX2_readStreet 56 = .ok (.aload_n 1, 1) := by decide +kernel
theorem dX2_readStreet_57 : decode cX2_readStreet 57 = .ok (.getfield 80, 3) := by decide +kernel
theorem dX2_readStreet_60 : decode cX2_readStreet 60 = .ok (.iload_n 2, 1) := by decide +kernel
theorem dX2_readStreet_61 : decode cX2_readStreet 61 = .ok (.iaload, 1) := by decide +kernel
theorem dX2_readStreet_62 : decode cX2_readStreet 62 = .ok (.if_icmp .ne 7, 3) := by decide +kernel
theorem dX2_readStreet_65 : decode cX2_readStreet 65 = .ok (.aload_n 0, 1) := by decide +kernel
theorem dX2_readStreet_66 : decode cX2_readStreet 66 = .ok (.invokevirtual 61, 3) := by decide +kernel
theorem dX2_readStreet_69 : decode cX2_readStreet 69 = .ok (.aload_n 1, 1) := by decide +kernel
theorem dX2_readStreet_70 : decode cX2_readStreet 70 = .ok (.getfield 86, 3) := by decide +kernel
theorem dX2_readStreet_73 : decode cX2_readStreet 73 = .ok (.iload_n 2, 1) := by decide +kernel
theorem dX2_readStreet_74 : decode cX2_readStreet 74 = .ok (.aload_n 0, 1) := by decide +kernel
theorem dX2_readStreet_75 : decode cX2_readStreet 75 = .ok (.iconst 1, 1) := by decide +kernel
theorem dX2_readStreet_76 : decode cX2_readStreet 76 = .ok (.bipush 9, 2) := by decide +kernel
theorem dX2_readStreet_78 : decode cX2_readStreet 78 = .ok (.invokevirtual 70, 3) := by decide +kernel
theorem dX2_readStreet_81 : decode cX2_readStreet 81 = .ok (.iastore, 1) := by decide +kernel
theorem dX2_readStreet_82 : decode cX2_readStreet 82 = .ok (.aload_n 0, 1) := by decide +kernel
theorem dX2_readStreet_83 : decode cX2_readStreet 83 = .ok (.invokevirtual 74, 3) := by decide +kernel
theorem dX2_readStreet_86 : decode cX2_readStreet 86 = .ok (.aload_n 1, 1) := by decide +kernel
theorem dX2_readStreet_87 : decode cX2_readStreet 87 = .ok (.iload_n 2, 1) := by decide +kernel
theorem dX2_readStreet_88 : decode cX2_readStreet 88 = .ok (.iconst 1, 1) := by decide +kernel
theorem dX2_readStreet_89 : decode cX2_readStreet 89 = .ok (.iadd, 1) := by decide +kernel
theorem dX2_readStreet_90 : decode cX2_readStreet 90 = .ok (.putfield 77, 3) := by decide +kernel
theorem dX2_readStreet_93 : decode cX2_readStreet 93 = .ok (.return_, 1) := by decide +kernel
set_option maxRecDepth 20000 in
theorem ggX2_readGuide_X2_refuseToken : GoodIn wsX2_readGuide wsX2_refuseToken := goodIn_r _ [10, 11, 12, 57, 58, 59, 60, 61, 62, 63] (by decide +kernel) (by decide +kernel)
set_option maxRecDepth 20000 in
theorem gX2_readGuide_X2_refuseToken : GoodIn wsX2_readGuide (wsV RX2 61 RX2 yX2_refuseToken wsX2_refuseToken) := goodIn_app (goodIn_of _ (by decide +kernel)) ggX2_readGuide_X2_refuseToken
set_option maxRecDepth 20000 in
theorem ggX2_readGuide_X2_readNumber : GoodIn wsX2_readGuide wsX2_readNumber := goodIn_r _ [16, 11, 17, 18, 19, 20, 21, 9, 22, 23, 24, 25, 12, 26, 27, 28, 29, 30, 31, 32, 33, 34, 35, 36, 37, 6, 7, 8, 10, 57, 58, 59, 60, 61, 62, 63] (by decide +kernel) (by decide +kernel)
set_option maxRecDepth 20000 in
theorem gX2_readGuide_X2_readNumber : GoodIn wsX2_readGuide (wsV RX2 70 RX2 yX2_readNumber wsX2_readNumber) := goodIn_app (goodIn_of _ (by decide +kernel)) ggX2_readGuide_X2_readNumber
set_option maxRecDepth 20000 in
theorem ggX2_readGuide_X2_readStop : GoodIn wsX2_readGuide wsX2_readStop := goodIn_r _ [41, 11, 17, 19, 20, 21, 9, 22, 23, 24, 25, 12, 26, 27, 28, 29, 18, 30, 31, 32, 33, 34, 35, 36, 37, 6, 7, 8, 10, 57, 58, 59, 60, 61, 62, 63] (by decide +kernel) (by decide +kernel)
set_option maxRecDepth 20000 in
theorem gX2_readGuide_X2_readStop : GoodIn wsX2_readGuide (wsV RX2 74 RX2 yX2_readStop wsX2_readStop) := goodIn_app (goodIn_of _ (by decide +kernel)) ggX2_readGuide_X2_readStop
theorem dX2_readGuide_0 : decode cX2_readGuide 0 = .ok (.aload_n 1, 1) := by decide +kernel
theorem dX2_readGuide_1 : decode cX2_readGuide 1 = .ok (.getfield 89, 3) := by decide +kernel
theorem dX2_readGuide_4 : decode cX2_readGuide 4 = .ok (.istore_n 2, 1) := by decide +kernel
theorem dX2_readGuide_5 : decode cX2_readGuide 5 = .ok (.iload_n 2, 1) := by decide +kernel
theorem dX2_readGuide_6 : decode cX2_readGuide 6 = .ok (.iconst 4, 1) := by decide +kernel
theorem dX2_readGuide_7 : decode cX2_readGuide 7 = .ok (.if_icmp .lt 8, 3) := by decide +kernel
theorem dX2_readGuide_10 : decode cX2_readGuide 10 = .ok (.aload_n 0, 1) := by decide +kernel
theorem dX2_readGuide_11 : decode cX2_readGuide 11 = .ok (.invokevirtual 61, 3) := by decide +kernel
theorem dX2_readGuide_14 : decode cX2_readGuide 14 = .ok (.return_, 1) := by decide +kernel
theorem dX2_readGuide_15 : decode cX2_readGuide 15 = .ok (.aload_n 1, 1) := by decide +kernel
theorem dX2_readGuide_16 : decode cX2_readGuide 16 = .ok (.getfield 92, 3) := by decide +kernel
theorem dX2_readGuide_19 : decode cX2_readGuide 19 = .ok (.iload_n 2, 1) := by decide +kernel
theorem dX2_readGuide_20 : decode cX2_readGuide 20 = .ok (.aload_n 0, 1) := by decide +kernel
theorem dX2_readGuide_21 : decode cX2_readGuide 21 = .ok (.iconst 0, 1) := by decide +kernel
theorem dX2_readGuide_22 : decode cX2_readGuide 22 = .ok (.iconst 5, 1) := by decide +kernel
theorem dX2_readGuide_23 : decode cX2_readGuide 23 = .ok (.invokevirtual 70, 3) := by decide +kernel
theorem dX2_readGuide_26 : decode cX2_readGuide 26 = .ok (.iastore, 1) := by decide +kernel
theorem dX2_readGuide_27 : decode cX2_readGuide 27 = .ok (.aload_n 1, 1) := by decide +kernel
theorem dX2_readGuide_28 : decode cX2_readGuide 28 = .ok (.getfield 95, 3) := by decide +kernel
theorem dX2_readGuide_31 : decode cX2_readGuide 31 = .ok (.iload_n 2, 1) := by decide +kernel
theorem dX2_readGuide_32 : decode cX2_readGuide 32 = .ok (.aload_n 0, 1) := by decide +kernel
theorem dX2_readGuide_33 : decode cX2_readGuide 33 = .ok (.iconst 0, 1) := by decide +kernel
theorem dX2_readGuide_34 : decode cX2_readGuide 34 = .ok (.bipush 9, 2) := by decide +kernel
theorem dX2_readGuide_36 : decode cX2_readGuide 36 = .ok (.invokevirtual 70, 3) := by decide +kernel
theorem dX2_readGuide_39 : decode cX2_readGuide 39 = .ok (.iastore, 1) := by decide +kernel
theorem dX2_readGuide_40 : decode cX2_readGuide 40 = .ok (.aload_n 1, 1) := by decide +kernel
theorem dX2_readGuide_41 : decode cX2_readGuide 41 = .ok (.getfield 98, 3) := by decide +kernel
theorem dX2_readGuide_44 : decode cX2_readGuide 44 = .ok (.iload_n 2, 1) := by decide +kernel
theorem dX2_readGuide_45 : decode cX2_readGuide 45 = .ok (.aload_n 0, 1) := by decide +kernel
theorem dX2_readGuide_46 : decode cX2_readGuide 46 = .ok (.iconst 0, 1) := by decide +kernel
theorem dX2_readGuide_47 : decode cX2_readGuide 47 = .ok (.bipush 31, 2) := by decide +kernel
theorem dX2_readGuide_49 : decode cX2_readGuide 49 = .ok (.invokevirtual 70, 3) := by decide +kernel
theorem dX2_readGuide_52 : decode cX2_readGuide 52 = .ok (.iastore, 1) := by decide +kernel
theorem dX2_readGuide_53 : decode cX2_readGuide 53 = .ok (.aload_n 1, 1) := by decide +kernel
theorem dX2_readGuide_54 : decode cX2_readGuide 54 = .ok (.getfield 98, 3) := by decide +kernel
theorem dX2_readGuide_57 : decode cX2_readGuide 57 = .ok (.iload_n 2, 1) := by decide +kernel
theorem dX2_readGuide_58 : decode cX2_readGuide 58 = .ok (.dup2, 1) := by decide +kernel
theorem dX2_readGuide_59 : decode cX2_readGuide 59 = .ok (.iaload, 1) := by decide +kernel
theorem dX2_readGuide_60 : decode cX2_readGuide 60 = .ok (.aload_n 0, 1) := by decide +kernel
theorem dX2_readGuide_61 : decode cX2_readGuide 61 = .ok (.iconst 0, 1) := by decide +kernel
theorem dX2_readGuide_62 : decode cX2_readGuide 62 = .ok (.bipush 15, 2) := by decide +kernel
theorem dX2_readGuide_64 : decode cX2_readGuide 64 = .ok (.invokevirtual 70, 3) := by decide +kernel
theorem dX2_readGuide_67 : decode cX2_readGuide 67 = .ok (.iconst 5, 1) := by decide +kernel
theorem dX2_readGuide_68 : decode cX2_readGuide 68 = .ok (.ishl, 1) := by decide +kernel
theorem dX2_readGuide_69 : decode cX2_readGuide 69 = .ok (.ior, 1) := by decide +kernel
theorem dX2_readGuide_70 : decode cX2_readGuide 70 = .ok (.iastore, 1) := by decide +kernel
theorem dX2_readGuide_71 : decode cX2_readGuide 71 = .ok (.aload_n 1, 1) := by decide +kernel
theorem dX2_readGuide_72 : decode cX2_readGuide 72 = .ok (.getfield 101, 3) := by decide +kernel
theorem dX2_readGuide_75 : decode cX2_readGuide 75 = .ok (.iload_n 2, 1) := by decide +kernel
theorem dX2_readGuide_76 : decode cX2_readGuide 76 = .ok (.aload_n 0, 1) := by decide +kernel
theorem dX2_readGuide_77 : decode cX2_readGuide 77 = .ok (.iconst 0, 1) := by decide +kernel
theorem dX2_readGuide_78 : decode cX2_readGuide 78 = .ok (.bipush 31, 2) := by decide +kernel
theorem dX2_readGuide_80 : decode cX2_readGuide 80 = .ok (.invokevirtual 70, 3) := by decide +kernel
theorem dX2_readGuide_83 : decode cX2_readGuide 83 = .ok (.iastore, 1) := by decide +kernel
theorem dX2_readGuide_84 : decode cX2_readGuide 84 = .ok (.aload_n 1, 1) := by decide +kernel
theorem dX2_readGuide_85 : decode cX2_readGuide 85 = .ok (.getfield 101, 3) := by decide +kernel
theorem dX2_readGuide_88 : decode cX2_readGuide 88 = .ok (.iload_n 2, 1) := by decide +kernel
theorem dX2_readGuide_89 : decode cX2_readGuide 89 = .ok (.dup2, 1) := by decide +kernel
theorem dX2_readGuide_90 : decode cX2_readGuide 90 = .ok (.iaload, 1) := by decide +kernel
theorem dX2_readGuide_91 : decode cX2_readGuide 91 = .ok (.aload_n 0, 1) := by decide +kernel
theorem dX2_readGuide_92 : decode cX2_readGuide 92 = .ok (.iconst 0, 1) := by decide +kernel
theorem dX2_readGuide_93 : decode cX2_readGuide 93 = .ok (.iconst 3, 1) := by decide +kernel
theorem dX2_readGuide_94 : decode cX2_readGuide 94 = .ok (.invokevirtual 70, 3) := by decide +kernel
theorem dX2_readGuide_97 : decode cX2_readGuide 97 = .ok (.iconst 5, 1) := by decide +kernel
theorem dX2_readGuide_98 : decode cX2_readGuide 98 = .ok (.ishl, 1) := by decide +kernel
theorem dX2_readGuide_99 : decode cX2_readGuide 99 = .ok (.ior, 1) := by decide +kernel
theorem dX2_readGuide_100 : decode cX2_readGuide 100 = .ok (.iastore, 1) := by decide +kernel
theorem dX2_readGuide_101 : decode cX2_readGuide 101 = .ok (.aload_n 0, 1) := by decide +kernel
theorem dX2_readGuide_102 : decode cX2_readGuide 102 = .ok (.invokevirtual 74, 3) := by decide +kernel
theorem dX2_readGuide_105 : decode cX2_readGuide 105 = .ok (.aload_n 1, 1) := by decide +kernel
theorem dX2_readGuide_106 : decode cX2_readGuide 106 = .ok (.iload_n 2, 1) := by decide +kernel
theorem dX2_readGuide_107 : decode cX2_readGuide 107 = .ok (.iconst 1, 1) := by decide +kernel
theorem dX2_readGuide_108 : decode cX2_readGuide 108 = .ok (.iadd, 1) := by decide +kernel
theorem dX2_readGuide_109 : decode cX2_readGuide 109 = .ok (.putfield 89, 3) := by decide +kernel
theorem dX2_readGuide_112 : decode cX2_readGuide 112 = .ok (.return_, 1) := by decide +kernel
set_option maxRecDepth 20000 in
theorem ggX2_readFog_X2_refuseToken : GoodIn wsX2_readFog wsX2_refuseToken := goodIn_r _ [10, 3, 11, 50, 51, 52, 53, 54, 55, 56] (by decide +kernel) (by decide +kernel)
set_option maxRecDepth 20000 in
theorem gX2_readFog_X2_refuseToken : GoodIn wsX2_readFog (wsV RX2 61 RX2 yX2_refuseToken wsX2_refuseToken) := goodIn_app (goodIn_of _ (by decide +kernel)) ggX2_readFog_X2_refuseToken
set_option maxRecDepth 20000 in
theorem ggX2_readFog_X2_readNumber : GoodIn wsX2_readFog wsX2_readNumber := goodIn_r _ [15, 3, 4, 5, 16, 17, 18, 9, 19, 20, 21, 22, 11, 23, 24, 25, 26, 27, 28, 29, 30, 31, 32, 33, 34, 6, 7, 8, 10, 50, 51, 52, 53, 54, 55, 56] (by decide +kernel) (by decide +kernel)
set_option maxRecDepth 20000 in
theorem gX2_readFog_X2_readNumber : GoodIn wsX2_readFog (wsV RX2 70 RX2 yX2_readNumber wsX2_readNumber) := goodIn_app (goodIn_of _ (by decide +kernel)) ggX2_readFog_X2_readNumber
set_option maxRecDepth 20000 in
theorem ggX2_readFog_X2_nextToken : GoodIn wsX2_readFog wsX2_nextToken := goodIn_r _ [19, 20, 21, 22, 11, 4, 23, 24, 25, 9, 26, 5, 27, 28, 29, 30, 31, 32, 33, 34, 50, 51, 52, 53, 54, 55, 56] (by decide +kernel) (by decide +kernel)
set_option maxRecDepth 20000 in
theorem gX2_readFog_X2_nextToken : GoodIn wsX2_readFog (wsV RX2 30 RX2 yX2_nextToken wsX2_nextToken) := goodIn_app (goodIn_of _ (by decide +kernel)) ggX2_readFog_X2_nextToken
theorem dX2_readFog_0 : decode cX2_readFog 0 = .ok (.aload_n 1, 1) := by decide +kernel
theorem dX2_readFog_1 : decode cX2_readFog 1 = .ok (.getfield 104, 3) := by decide +kernel
theorem dX2_readFog_4 : decode cX2_readFog 4 = .ok (.ifCond .le 8, 3) := by decide +kernel
theorem dX2_readFog_7 : decode cX2_readFog 7 = .ok (.aload_n 0, 1) := by decide +kernel
theorem dX2_readFog_8 : decode cX2_readFog 8 = .ok (.invokevirtual 61, 3) := by decide +kernel
theorem dX2_readFog_11 : decode cX2_readFog 11 = .ok (.return_, 1) := by decide +kernel
theorem dX2_readFog_12 : decode cX2_readFog 12 = .ok (.aload_n 1, 1) := by decide +kernel
theorem dX2_readFog_13 : decode cX2_readFog 13 = .ok (.getfield 107, 3) := by decide +kernel
theorem dX2_readFog_16 : decode cX2_readFog 16 = .ok (.iconst 0, 1) := by decide +kernel
theorem dX2_readFog_17 : decode cX2_readFog 17 = .ok (.aload_n 0, 1) := by decide +kernel
theorem dX2_readFog_18 : decode cX2_readFog 18 = .ok (.iconst 0, 1) := by decide +kernel
theorem dX2_readFog_19 : decode cX2_readFog 19 = .ok (.iconst 1, 1) := by decide +kernel
theorem dX2_readFog_20 : decode cX2_readFog 20 = .ok (.invokevirtual 70, 3) := by decide +kernel
theorem dX2_readFog_23 : decode cX2_readFog 23 = .ok (.iastore, 1) := by decide +kernel
theorem dX2_readFog_24 : decode cX2_readFog 24 = .ok (.iconst 1, 1) := by decide +kernel
theorem dX2_readFog_25 : decode cX2_readFog 25 = .ok (.istore_n 2, 1) := by decide +kernel
theorem dX2_readFog_26 : decode cX2_readFog 26 = .ok (.aload_n 0, 1) := by decide +kernel
theorem dX2_readFog_27 : decode cX2_readFog 27 = .ok (.getfield 27, 3) := by decide +kernel
theorem dX2_readFog_30 : decode cX2_readFog 30 = .ok (.iconst (-1), 1) := by decide +kernel
theorem dX2_readFog_31 : decode cX2_readFog 31 = .ok (.if_icmp .ne 69, 3) := by decide +kernel
theorem dX2_readFog_34 : decode cX2_readFog 34 = .ok (.iload_n 2, 1) := by decide +kernel
theorem dX2_readFog_35 : decode cX2_readFog 35 = .ok (.bipush 8, 2) := by decide +kernel
theorem dX2_readFog_37 : decode cX2_readFog 37 = .ok (.if_icmp .gt 63, 3) := by decide +kernel
theorem dX2_readFog_40 : decode cX2_readFog 40 = .ok (.aload_n 0, 1) := by decide +kernel
theorem dX2_readFog_41 : decode cX2_readFog 41 = .ok (.invokevirtual 30, 3) := by decide +kernel
theorem dX2_readFog_44 : decode cX2_readFog 44 = .ok (.aload_n 0, 1) := by decide +kernel
theorem dX2_readFog_45 : decode cX2_readFog 45 = .ok (.getfield 33, 3) := by decide +kernel
theorem dX2_readFog_48 : decode cX2_readFog 48 = .ok (.iconst 3, 1) := by decide +kernel
theorem dX2_readFog_49 : decode cX2_readFog 49 = .ok (.if_icmp .ne 6, 3) := by decide +kernel
theorem dX2_readFog_52 : decode cX2_readFog 52 = .ok (.goto 48, 3) := by decide +kernel
theorem dX2_readFog_55 : decode cX2_readFog 55 = .ok (.aload_n 0, 1) := by decide +kernel
theorem dX2_readFog_56 : decode cX2_readFog 56 = .ok (.getfield 33, 3) := by decide +kernel
theorem dX2_readFog_59 : decode cX2_readFog 59 = .ok (.iconst 2, 1) := by decide +kernel
theorem dX2_readFog_60 : decode cX2_readFog 60 = .ok (.if_icmp .ne 17, 3) := by decide +kernel
theorem dX2_readFog_63 : decode cX2_readFog 63 = .ok (.aload_n 0, 1) := by decide +kernel
theorem dX2_readFog_64 : decode cX2_readFog 64 = .ok (.getfield 43, 3) := by decide +kernel
theorem dX2_readFog_67 : decode cX2_readFog 67 = .ok (.iconst 1, 1) := by decide +kernel
theorem dX2_readFog_68 : decode cX2_readFog 68 = .ok (.if_icmp .gt 9, 3) := by decide +kernel
theorem dX2_readFog_71 : decode cX2_readFog 71 = .ok (.iload_n 2, 1) := by decide +kernel
theorem dX2_readFog_72 : decode cX2_readFog 72 = .ok (.bipush 8, 2) := by decide +kernel
theorem dX2_readFog_74 : decode cX2_readFog 74 = .ok (.if_icmp .ne 10, 3) := by decide +kernel
theorem dX2_readFog_77 : decode cX2_readFog 77 = .ok (.aload_n 0, 1) := by decide +kernel
theorem dX2_readFog_78 : decode cX2_readFog 78 = .ok (.invokevirtual 61, 3) := by decide +kernel
theorem dX2_readFog_81 : decode cX2_readFog 81 = .ok (.goto 19, 3) := by decide +kernel
theorem dX2_readFog_84 : decode cX2_readFog 84 = .ok (.aload_n 1, 1) := by decide +kernel
theorem dX2_readFog_85 : decode cX2_readFog 85 = .ok (.getfield 107, 3) := by decide +kernel
theorem dX2_readFog_88 : decode cX2_readFog 88 = .ok (.iload_n 2, 1) := by decide +kernel
theorem dX2_readFog_89 : decode cX2_readFog 89 = .ok (.aload_n 0, 1) := by decide +kernel
theorem dX2_readFog_90 : decode cX2_readFog 90 = .ok (.getfield 43, 3) := by decide +kernel
theorem dX2_readFog_93 : decode cX2_readFog 93 = .ok (.iastore, 1) := by decide +kernel
theorem dX2_readFog_94 : decode cX2_readFog 94 = .ok (.iinc 2 1, 3) := by decide +kernel
theorem dX2_readFog_97 : decode cX2_readFog 97 = .ok (.goto (-71), 3) := by decide +kernel
theorem dX2_readFog_100 : decode cX2_readFog 100 = .ok (.aload_n 1, 1) := by decide +kernel
theorem dX2_readFog_101 : decode cX2_readFog 101 = .ok (.iload_n 2, 1) := by decide +kernel
theorem dX2_readFog_102 : decode cX2_readFog 102 = .ok (.putfield 104, 3) := by decide +kernel
theorem dX2_readFog_105 : decode cX2_readFog 105 = .ok (.return_, 1) := by decide +kernel
set_option maxRecDepth 20000 in
theorem ggX2_readHand_X2_refuseToken : GoodIn wsX2_readHand wsX2_refuseToken := goodIn_r _ [7, 8, 9, 54, 55, 56, 57, 58, 59, 60] (by decide +kernel) (by decide +kernel)
set_option maxRecDepth 20000 in
theorem gX2_readHand_X2_refuseToken : GoodIn wsX2_readHand (wsV RX2 61 RX2 yX2_refuseToken wsX2_refuseToken) := goodIn_app (goodIn_of _ (by decide +kernel)) ggX2_readHand_X2_refuseToken
set_option maxRecDepth 20000 in
theorem ggX2_readHand_X2_readNumber : GoodIn wsX2_readHand wsX2_readNumber := goodIn_r _ [13, 8, 14, 15, 16, 17, 18, 6, 19, 20, 21, 22, 9, 23, 24, 25, 26, 27, 28, 29, 30, 31, 32, 33, 34, 3, 4, 5, 7, 54, 55, 56, 57, 58, 59, 60] (by decide +kernel) (by decide +kernel)
set_option maxRecDepth 20000 in
theorem gX2_readHand_X2_readNumber : GoodIn wsX2_readHand (wsV RX2 70 RX2 yX2_readNumber wsX2_readNumber) := goodIn_app (goodIn_of _ (by decide +kernel)) ggX2_readHand_X2_readNumber
set_option maxRecDepth 20000 in
theorem ggX2_readHand_X2_readStop : GoodIn wsX2_readHand wsX2_readStop := goodIn_r _ [38, 8, 14, 16, 17, 18, 6, 19, 20, 21, 22, 9, 23, 24, 25, 26, 15, 27, 28, 29, 30, 31, 32, 33, 34, 3, 4, 5, 7, 54, 55, 56, 57, 58, 59, 60] (by decide +kernel) (by decide +kernel)
set_option maxRecDepth 20000 in
theorem gX2_readHand_X2_readStop : GoodIn wsX2_readHand (wsV RX2 74 RX2 yX2_readStop wsX2_readStop) := goodIn_app (goodIn_of _ (by decide +kernel)) ggX2_readHand_X2_readStop
theorem dX2_readHand_0 : decode cX2_readHand 0 = .ok (.aload_n 1, 1) := by decide +kernel
theorem dX2_readHand_1 : decode cX2_readHand 1 = .ok (.getfield 110, 3) := by decide +kernel
theorem dX2_readHand_4 : decode cX2_readHand 4 = .ok (.ifCond .eq 8, 3) := by decide +kernel
theorem dX2_readHand_7 : decode cX2_readHand 7 = .ok (.aload_n 0, 1) := by decide +kernel
theorem dX2_readHand_8 : decode cX2_readHand 8 = .ok (.invokevirtual 61, 3) := by decide +kernel
theorem dX2_readHand_11 : decode cX2_readHand 11 = .ok (.return_, 1) := by decide +kernel
theorem dX2_readHand_12 : decode cX2_readHand 12 = .ok (.aload_n 1, 1) := by decide +kernel
theorem dX2_readHand_13 : decode cX2_readHand 13 = .ok (.aload_n 0, 1) := by decide +kernel
theorem dX2_readHand_14 : decode cX2_readHand 14 = .ok (.iconst 0, 1) := by decide +kernel
theorem dX2_readHand_15 : decode cX2_readHand 15 = .ok (.bipush 9, 2) := by decide +kernel
theorem dX2_readHand_17 : decode cX2_readHand 17 = .ok (.invokevirtual 70, 3) := by decide +kernel
theorem dX2_readHand_20 : decode cX2_readHand 20 = .ok (.putfield 114, 3) := by decide +kernel
theorem dX2_readHand_23 : decode cX2_readHand 23 = .ok (.aload_n 0, 1) := by decide +kernel
theorem dX2_readHand_24 : decode cX2_readHand 24 = .ok (.invokevirtual 74, 3) := by decide +kernel
theorem dX2_readHand_27 : decode cX2_readHand 27 = .ok (.aload_n 1, 1) := by decide +kernel
theorem dX2_readHand_28 : decode cX2_readHand 28 = .ok (.iconst 1, 1) := by decide +kernel
theorem dX2_readHand_29 : decode cX2_readHand 29 = .ok (.putfield 110, 3) := by decide +kernel
theorem dX2_readHand_32 : decode cX2_readHand 32 = .ok (.return_, 1) := by decide +kernel
set_option maxRecDepth 20000 in
theorem ggX2_readNumber_X2_nextToken : GoodIn wsX2_readNumber wsX2_nextToken := goodIn_r _ [8, 9, 10, 11, 12, 2, 13, 14, 15, 7, 16, 3, 17, 18, 19, 20, 21, 22, 23, 24, 29, 30, 31, 32, 33, 34, 35] (by decide +kernel) (by decide +kernel)
set_option maxRecDepth 20000 in
theorem gX2_readNumber_X2_nextToken : GoodIn wsX2_readNumber (wsV RX2 30 RX2 yX2_nextToken wsX2_nextToken) := goodIn_app (goodIn_of _ (by decide +kernel)) ggX2_readNumber_X2_nextToken
set_option maxRecDepth 20000 in
theorem ggX2_readNumber_X2_refuseToken : GoodIn wsX2_readNumber wsX2_refuseToken := goodIn_r _ [28, 1, 12, 29, 30, 31, 32, 33, 34, 35] (by decide +kernel) (by decide +kernel)
set_option maxRecDepth 20000 in
theorem gX2_readNumber_X2_refuseToken : GoodIn wsX2_readNumber (wsV RX2 61 RX2 yX2_refuseToken wsX2_refuseToken) := goodIn_app (goodIn_of _ (by decide +kernel)) ggX2_readNumber_X2_refuseToken
theorem dX2_readNumber_0 : decode cX2_readNumber 0 = .ok (.aload_n 0, 1) := by decide +kernel
theorem dX2_readNumber_1 : decode cX2_readNumber 1 = .ok (.getfield 27, 3) := by decide +kernel
theorem dX2_readNumber_4 : decode cX2_readNumber 4 = .ok (.iconst (-1), 1) := by decide +kernel
theorem dX2_readNumber_5 : decode cX2_readNumber 5 = .ok (.if_icmp .eq 5, 3) := by decide +kernel
theorem dX2_readNumber_8 : decode cX2_readNumber 8 = .ok (.iconst 0, 1) := by decide +kernel
theorem dX2_readNumber_9 : decode cX2_readNumber 9 = .ok (.ireturn, 1) := by decide +kernel
theorem dX2_readNumber_10 : decode cX2_readNumber 10 = .ok (.aload_n 0, 1) := by decide +kernel
theorem dX2_readNumber_11 : decode cX2_readNumber 11 = .ok (.invokevirtual 30, 3) := by decide +kernel
theorem dX2_readNumber_14 : decode cX2_readNumber 14 = .ok (.aload_n 0, 1) := by decide +kernel
theorem dX2_readNumber_15 : decode cX2_readNumber 15 = .ok (.getfield 33, 3) := by decide +kernel
theorem dX2_readNumber_18 : decode cX2_readNumber 18 = .ok (.iconst 2, 1) := by decide +kernel
theorem dX2_readNumber_19 : decode cX2_readNumber 19 = .ok (.if_icmp .ne 24, 3) := by decide +kernel
theorem dX2_readNumber_22 : decode cX2_readNumber 22 = .ok (.aload_n 0, 1) := by decide +kernel
theorem dX2_readNumber_23 : decode cX2_readNumber 23 = .ok (.getfield 43, 3) := by decide +kernel
theorem dX2_readNumber_26 : decode cX2_readNumber 26 = .ok (.iload_n 1, 1) := by decide +kernel
theorem dX2_readNumber_27 : decode cX2_readNumber 27 = .ok (.if_icmp .lt 16, 3) := by decide +kernel
theorem dX2_readNumber_30 : decode cX2_readNumber 30 = .ok (.aload_n 0, 1) := by decide +kernel
theorem dX2_readNumber_31 : decode cX2_readNumber 31 = .ok (.getfield 43, 3) := by decide +kernel
theorem dX2_readNumber_34 : decode cX2_readNumber 34 = .ok (.iload_n 2, 1) := by decide +kernel
theorem dX2_readNumber_35 : decode cX2_readNumber 35 = .ok (.if_icmp .gt 8, 3) := by decide +kernel
theorem dX2_readNumber_38 : decode cX2_readNumber 38 = .ok (.aload_n 0, 1) := by decide +kernel
theorem dX2_readNumber_39 : decode cX2_readNumber 39 = .ok (.getfield 43, 3) := by decide +kernel
theorem dX2_readNumber_42 : decode cX2_readNumber 42 = .ok (.ireturn, 1) := by decide +kernel
theorem dX2_readNumber_43 : decode cX2_readNumber 43 = .ok (.aload_n 0, 1) := by decide +kernel
theorem dX2_readNumber_44 : decode cX2_readNumber 44 = .ok (.invokevirtual 61, 3) := by decide +kernel
theorem dX2_readNumber_47 : decode cX2_readNumber 47 = .ok (.iconst 0, 1) := by decide +kernel
theorem dX2_readNumber_48 : decode cX2_readNumber 48 = .ok (.ireturn, 1) := by decide +kernel
set_option maxRecDepth 20000 in
theorem ggX2_readStop_X2_nextToken : GoodIn wsX2_readStop wsX2_nextToken := goodIn_r _ [7, 8, 9, 10, 11, 2, 12, 13, 14, 6, 15, 16, 17, 18, 19, 20, 21, 22, 23, 24, 29, 30, 31, 32, 33, 34, 35] (by decide +kernel) (by decide +kernel)
set_option maxRecDepth 20000 in
theorem gX2_readStop_X2_nextToken : GoodIn wsX2_readStop (wsV RX2 30 RX2 yX2_nextToken wsX2_nextToken) := goodIn_app (goodIn_of _ (by decide +kernel)) ggX2_readStop_X2_nextToken
set_option maxRecDepth 20000 in
theorem ggX2_readStop_X2_refuseToken : GoodIn wsX2_readStop wsX2_refuseToken := goodIn_r _ [28, 1, 11, 29, 30, 31, 32, 33, 34, 35] (by decide +kernel) (by decide +kernel)
set_option maxRecDepth 20000 in
theorem gX2_readStop_X2_refuseToken : GoodIn wsX2_readStop (wsV RX2 61 RX2 yX2_refuseToken wsX2_refuseToken) := goodIn_app (goodIn_of _ (by decide +kernel)) ggX2_readStop_X2_refuseToken
theorem dX2_readStop_0 : decode cX2_readStop 0 = .ok (.aload_n 0, 1) := by decide +kernel
theorem dX2_readStop_1 : decode cX2_readStop 1 = .ok (.getfield 27, 3) := by decide +kernel
theorem dX2_readStop_4 : decode cX2_readStop 4 = .ok (.iconst (-1), 1) := by decide +kernel
theorem dX2_readStop_5 : decode cX2_readStop 5 = .ok (.if_icmp .eq 4, 3) := by decide +kernel
theorem dX2_readStop_8 : decode cX2_readStop 8 = .ok (.return_, 1) := by decide +kernel
theorem dX2_readStop_9 : decode cX2_readStop 9 = .ok (.aload_n 0, 1) := by decide +kernel
theorem dX2_readStop_10 : decode cX2_readStop 10 = .ok (.invokevirtual 30, 3) := by decide +kernel
theorem dX2_readStop_13 : decode cX2_readStop 13 = .ok (.aload_n 0, 1) := by decide +kernel
theorem dX2_readStop_14 : decode cX2_readStop 14 = .ok (.getfield 33, 3) := by decide +kernel
theorem dX2_readStop_17 : decode cX2_readStop 17 = .ok (.iconst 3, 1) := by decide +kernel
theorem dX2_readStop_18 : decode cX2_readStop 18 = .ok (.if_icmp .eq 7, 3) := by decide +kernel
theorem dX2_readStop_21 : decode cX2_readStop 21 = .ok (.aload_n 0, 1) := by decide +kernel
theorem dX2_readStop_22 : decode cX2_readStop 22 = .ok (.invokevirtual 61, 3) := by decide +kernel
theorem dX2_readStop_25 : decode cX2_readStop 25 = .ok (.return_, 1) := by decide +kernel
theorem dX2_refuseToken_0 : decode cX2_refuseToken 0 = .ok (.aload_n 0, 1) := by decide +kernel
theorem dX2_refuseToken_1 : decode cX2_refuseToken 1 = .ok (.getfield 27, 3) := by decide +kernel
theorem dX2_refuseToken_4 : decode cX2_refuseToken 4 = .ok (.iconst (-1), 1) := by decide +kernel
theorem dX2_refuseToken_5 : decode cX2_refuseToken 5 = .ok (.if_icmp .ne 11, 3) := by decide +kernel
theorem dX2_refuseToken_8 : decode cX2_refuseToken 8 = .ok (.aload_n 0, 1) := by decide +kernel
theorem dX2_refuseToken_9 : decode cX2_refuseToken 9 = .ok (.aload_n 0, 1) := by decide +kernel
theorem dX2_refuseToken_10 : decode cX2_refuseToken 10 = .ok (.getfield 117, 3) := by decide +kernel
theorem dX2_refuseToken_13 : decode cX2_refuseToken 13 = .ok (.putfield 27, 3) := by decide +kernel
theorem dX2_refuseToken_16 : decode cX2_refuseToken 16 = .ok (.return_, 1) := by decide +kernel
set_option maxRecDepth 20000 in
theorem ggX2_nextToken_X2_takeLetters : GoodIn wsX2_nextToken wsX2_takeLetters := goodIn_r _ [10, 3, 1, 11, 2, 4, 5, 20, 21, 22, 23, 24, 25, 26] (by decide +kernel) (by decide +kernel)
set_option maxRecDepth 20000 in
theorem gX2_nextToken_X2_takeLetters : GoodIn wsX2_nextToken (wsV RX2 120 RX2 yX2_takeLetters wsX2_takeLetters) := goodIn_app (goodIn_of _ (by decide +kernel)) ggX2_nextToken_X2_takeLetters
set_option maxRecDepth 20000 in
theorem ggX2_nextToken_X2_takeDigits : GoodIn wsX2_nextToken wsX2_takeDigits := goodIn_r _ [15, 3, 1, 11, 2, 4, 5, 20, 21, 22, 23, 24, 25, 26] (by decide +kernel) (by decide +kernel)
set_option maxRecDepth 20000 in
theorem gX2_nextToken_X2_takeDigits : GoodIn wsX2_nextToken (wsV RX2 123 RX2 yX2_takeDigits wsX2_takeDigits) := goodIn_app (goodIn_of _ (by decide +kernel)) ggX2_nextToken_X2_takeDigits
set_option maxRecDepth 20000 in
theorem ggX2_nextToken_X2_takeOne : GoodIn wsX2_nextToken wsX2_takeOne := goodIn_r _ [19, 3, 1, 5, 20, 21, 22, 23, 24, 25, 26] (by decide +kernel) (by decide +kernel)
set_option maxRecDepth 20000 in
theorem gX2_nextToken_X2_takeOne : GoodIn wsX2_nextToken (wsV RX2 126 RX2 yX2_takeOne wsX2_takeOne) := goodIn_app (goodIn_of _ (by decide +kernel)) ggX2_nextToken_X2_takeOne
theorem dX2_nextToken_0 : decode cX2_nextToken 0 = .ok (.aload_n 0, 1) := by decide +kernel
theorem dX2_nextToken_1 : decode cX2_nextToken 1 = .ok (.getfield 24, 3) := by decide +kernel
theorem dX2_nextToken_4 : decode cX2_nextToken 4 = .ok (.aload_n 0, 1) := by decide +kernel
theorem dX2_nextToken_5 : decode cX2_nextToken 5 = .ok (.getfield 15, 3) := by decide +kernel
theorem dX2_nextToken_8 : decode cX2_nextToken 8 = .ok (.if_icmp .ge 30, 3) := by decide +kernel
theorem dX2_nextToken_11 : decode cX2_nextToken 11 = .ok (.aload_n 0, 1) := by decide +kernel
theorem dX2_nextToken_12 : decode cX2_nextToken 12 = .ok (.getfield 9, 3) := by decide +kernel
theorem dX2_nextToken_15 : decode cX2_nextToken 15 = .ok (.aload_n 0, 1) := by decide +kernel
theorem dX2_nextToken_16 : decode cX2_nextToken 16 = .ok (.getfield 24, 3) := by decide +kernel
theorem dX2_nextToken_19 : decode cX2_nextToken 19 = .ok (.iaload, 1) := by decide +kernel
theorem dX2_nextToken_20 : decode cX2_nextToken 20 = .ok (.bipush 32, 2) := by decide +kernel
theorem dX2_nextToken_22 : decode cX2_nextToken 22 = .ok (.if_icmp .ne 16, 3) := by decide +kernel
theorem dX2_nextToken_25 : decode cX2_nextToken 25 = .ok (.aload_n 0, 1) := by decide +kernel
theorem dX2_nextToken_26 : decode cX2_nextToken 26 = .ok (.dup, 1) := by decide +kernel
theorem dX2_nextToken_27 : decode cX2_nextToken 27 = .ok (.getfield 24, 3) := by decide +kernel
theorem dX2_nextToken_30 : decode cX2_nextToken 30 = .ok (.iconst 1, 1) := by decide +kernel
theorem dX2_nextToken_31 : decode cX2_nextToken 31 = .ok (.iadd, 1) := by decide +kernel
theorem dX2_nextToken_32 : decode cX2_nextToken 32 = .ok (.putfield 24, 3) := by decide +kernel
theorem dX2_nextToken_35 : decode cX2_nextToken 35 = .ok (.goto (-35), 3) := by decide +kernel
theorem dX2_nextToken_38 : decode cX2_nextToken 38 = .ok (.aload_n 0, 1) := by decide +kernel
theorem dX2_nextToken_39 : decode cX2_nextToken 39 = .ok (.aload_n 0, 1) := by decide +kernel
theorem dX2_nextToken_40 : decode cX2_nextToken 40 = .ok (.getfield 24, 3) := by decide +kernel
theorem dX2_nextToken_43 : decode cX2_nextToken 43 = .ok (.putfield 117, 3) := by decide +kernel
theorem dX2_nextToken_46 : decode cX2_nextToken 46 = .ok (.aload_n 0, 1) := by decide +kernel
theorem dX2_nextToken_47 : decode cX2_nextToken 47 = .ok (.getfield 24, 3) := by decide +kernel
theorem dX2_nextToken_50 : decode cX2_nextToken 50 = .ok (.aload_n 0, 1) := by decide +kernel
theorem dX2_nextToken_51 : decode cX2_nextToken 51 = .ok (.getfield 15, 3) := by decide +kernel
theorem dX2_nextToken_54 : decode cX2_nextToken 54 = .ok (.if_icmp .lt 11, 3) := by decide +kernel
theorem dX2_nextToken_57 : decode cX2_nextToken 57 = .ok (.aload_n 0, 1) := by decide +kernel
theorem dX2_nextToken_58 : decode cX2_nextToken 58 = .ok (.iconst 0, 1) := by decide +kernel
theorem dX2_nextToken_59 : decode cX2_nextToken 59 = .ok (.putfield 33, 3) := by decide +kernel
theorem dX2_nextToken_62 : decode cX2_nextToken 62 = .ok (.goto 77, 3) := by decide +kernel
theorem dX2_nextToken_65 : decode cX2_nextToken 65 = .ok (.aload_n 0, 1) := by decide +kernel
theorem dX2_nextToken_66 : decode cX2_nextToken 66 = .ok (.getfield 9, 3) := by decide +kernel
theorem dX2_nextToken_69 : decode cX2_nextToken 69 = .ok (.aload_n 0, 1) := by decide +kernel
theorem dX2_nextToken_70 : decode cX2_nextToken 70 = .ok (.getfield 24, 3) := by decide +kernel
theorem dX2_nextToken_73 : decode cX2_nextToken 73 = .ok (.iaload, 1) := by decide +kernel
theorem dX2_nextToken_74 : decode cX2_nextToken 74 = .ok (.bipush 97, 2) := by decide +kernel
theorem dX2_nextToken_76 : decode cX2_nextToken 76 = .ok (.if_icmp .lt 24, 3) := by decide +kernel
theorem dX2_nextToken_79 : decode cX2_nextToken 79 = .ok (.aload_n 0, 1) := by decide +kernel
theorem dX2_nextToken_80 : decode cX2_nextToken 80 = .ok (.getfield 9, 3) := by decide +kernel
theorem dX2_nextToken_83 : decode cX2_nextToken 83 = .ok (.aload_n 0, 1) := by decide +kernel
theorem dX2_nextToken_84 : decode cX2_nextToken 84 = .ok (.getfield 24, 3) := by decide +kernel
theorem dX2_nextToken_87 : decode cX2_nextToken 87 = .ok (.iaload, 1) := by decide +kernel
theorem dX2_nextToken_88 : decode cX2_nextToken 88 = .ok (.bipush 122, 2) := by decide +kernel
theorem dX2_nextToken_90 : decode cX2_nextToken 90 = .ok (.if_icmp .gt 10, 3) := by decide +kernel
theorem dX2_nextToken_93 : decode cX2_nextToken 93 = .ok (.aload_n 0, 1) := by decide +kernel
theorem dX2_nextToken_94 : decode cX2_nextToken 94 = .ok (.invokevirtual 120, 3) := by decide +kernel
theorem dX2_nextToken_97 : decode cX2_nextToken 97 = .ok (.goto 42, 3) := by decide +kernel
theorem dX2_nextToken_100 : decode cX2_nextToken 100 = .ok (.aload_n 0, 1) := by decide +kernel
theorem dX2_nextToken_101 : decode cX2_nextToken 101 = .ok (.getfield 9, 3) := by decide +kernel
theorem dX2_nextToken_104 : decode cX2_nextToken 104 = .ok (.aload_n 0, 1) := by decide +kernel
theorem dX2_nextToken_105 : decode cX2_nextToken 105 = .ok (.getfield 24, 3) := by decide +kernel
theorem dX2_nextToken_108 : decode cX2_nextToken 108 = .ok (.iaload, 1) := by decide +kernel
theorem dX2_nextToken_109 : decode cX2_nextToken 109 = .ok (.bipush 48, 2) := by decide +kernel
theorem dX2_nextToken_111 : decode cX2_nextToken 111 = .ok (.if_icmp .lt 24, 3) := by decide +kernel
theorem dX2_nextToken_114 : decode cX2_nextToken 114 = .ok (.aload_n 0, 1) := by decide +kernel
theorem dX2_nextToken_115 : decode cX2_nextToken 115 = .ok (.getfield 9, 3) := by decide +kernel
theorem dX2_nextToken_118 : decode cX2_nextToken 118 = .ok (.aload_n 0, 1) := by decide +kernel
theorem dX2_nextToken_119 : decode cX2_nextToken 119 = .ok (.getfield 24, 3) := by decide +kernel
theorem dX2_nextToken_122 : decode cX2_nextToken 122 = .ok (.iaload, 1) := by decide +kernel
theorem dX2_nextToken_123 : decode cX2_nextToken 123 = .ok (.bipush 57, 2) := by decide +kernel
theorem dX2_nextToken_125 : decode cX2_nextToken 125 = .ok (.if_icmp .gt 10, 3) := by decide +kernel
theorem dX2_nextToken_128 : decode cX2_nextToken 128 = .ok (.aload_n 0, 1) := by decide +kernel
theorem dX2_nextToken_129 : decode cX2_nextToken 129 = .ok (.invokevirtual 123, 3) := by decide +kernel
theorem dX2_nextToken_132 : decode cX2_nextToken 132 = .ok (.goto 7, 3) := by decide +kernel
theorem dX2_nextToken_135 : decode cX2_nextToken 135 = .ok (.aload_n 0, 1) := by decide +kernel
theorem dX2_nextToken_136 : decode cX2_nextToken 136 = .ok (.invokevirtual 126, 3) := by decide +kernel
theorem dX2_nextToken_139 : decode cX2_nextToken 139 = .ok (.return_, 1) := by decide +kernel
theorem dX2_takeLetters_0 : decode cX2_takeLetters 0 = .ok (.aload_n 0, 1) := by decide +kernel
theorem dX2_takeLetters_1 : decode cX2_takeLetters 1 = .ok (.aload_n 0, 1) := by decide +kernel
theorem dX2_takeLetters_2 : decode cX2_takeLetters 2 = .ok (.getfield 9, 3) := by decide +kernel
theorem dX2_takeLetters_5 : decode cX2_takeLetters 5 = .ok (.aload_n 0, 1) := by decide +kernel
theorem dX2_takeLetters_6 : decode cX2_takeLetters 6 = .ok (.getfield 24, 3) := by decide +kernel
theorem dX2_takeLetters_9 : decode cX2_takeLetters 9 = .ok (.iaload, 1) := by decide +kernel
theorem dX2_takeLetters_10 : decode cX2_takeLetters 10 = .ok (.putfield 43, 3) := by decide +kernel
theorem dX2_takeLetters_13 : decode cX2_takeLetters 13 = .ok (.aload_n 0, 1) := by decide +kernel
theorem dX2_takeLetters_14 : decode cX2_takeLetters 14 = .ok (.getfield 24, 3) := by decide +kernel
theorem dX2_takeLetters_17 : decode cX2_takeLetters 17 = .ok (.aload_n 0, 1) := by decide +kernel
theorem dX2_takeLetters_18 : decode cX2_takeLetters 18 = .ok (.getfield 15, 3) := by decide +kernel
theorem dX2_takeLetters_21 : decode cX2_takeLetters 21 = .ok (.if_icmp .ge 44, 3) := by decide +kernel
theorem dX2_takeLetters_24 : decode cX2_takeLetters 24 = .ok (.aload_n 0, 1) := by decide +kernel
theorem dX2_takeLetters_25 : decode cX2_takeLetters 25 = .ok (.getfield 9, 3) := by decide +kernel
theorem dX2_takeLetters_28 : decode cX2_takeLetters 28 = .ok (.aload_n 0, 1) := by decide +kernel
theorem dX2_takeLetters_29 : decode cX2_takeLetters 29 = .ok (.getfield 24, 3) := by decide +kernel
theorem dX2_takeLetters_32 : decode cX2_takeLetters 32 = .ok (.iaload, 1) := by decide +kernel
theorem dX2_takeLetters_33 : decode cX2_takeLetters 33 = .ok (.bipush 97, 2) := by decide +kernel
theorem dX2_takeLetters_35 : decode cX2_takeLetters 35 = .ok (.if_icmp .lt 30, 3) := by decide +kernel
theorem dX2_takeLetters_38 : decode cX2_takeLetters 38 = .ok (.aload_n 0, 1) := by decide +kernel
theorem dX2_takeLetters_39 : decode cX2_takeLetters 39 = .ok (.getfield 9, 3) := by decide +kernel
theorem dX2_takeLetters_42 : decode cX2_takeLetters 42 = .ok (.aload_n 0, 1) := by decide +kernel
theorem dX2_takeLetters_43 : decode cX2_takeLetters 43 = .ok (.getfield 24, 3) := by decide +kernel
theorem dX2_takeLetters_46 : decode cX2_takeLetters 46 = .ok (.iaload, 1) := by decide +kernel
theorem dX2_takeLetters_47 : decode cX2_takeLetters 47 = .ok (.bipush 122, 2) := by decide +kernel
theorem dX2_takeLetters_49 : decode cX2_takeLetters 49 = .ok (.if_icmp .gt 16, 3) := by decide +kernel
theorem dX2_takeLetters_52 : decode cX2_takeLetters 52 = .ok (.aload_n 0, 1) := by decide +kernel
theorem dX2_takeLetters_53 : decode cX2_takeLetters 53 = .ok (.dup, 1) := by decide +kernel
theorem dX2_takeLetters_54 : decode cX2_takeLetters 54 = .ok (.getfield 24, 3) := by decide +kernel
theorem dX2_takeLetters_57 : decode cX2_takeLetters 57 = .ok (.iconst 1, 1) := by decide +kernel
theorem dX2_takeLetters_58 : decode cX2_takeLetters 58 = .ok (.iadd, 1) := by decide +kernel
theorem dX2_takeLetters_59 : decode cX2_takeLetters 59 = .ok (.putfield 24, 3) := by decide +kernel
theorem dX2_takeLetters_62 : decode cX2_takeLetters 62 = .ok (.goto (-49), 3) := by decide +kernel
theorem dX2_takeLetters_65 : decode cX2_takeLetters 65 = .ok (.aload_n 0, 1) := by decide +kernel
theorem dX2_takeLetters_66 : decode cX2_takeLetters 66 = .ok (.getfield 24, 3) := by decide +kernel
theorem dX2_takeLetters_69 : decode cX2_takeLetters 69 = .ok (.aload_n 0, 1) := by decide +kernel
theorem dX2_takeLetters_70 : decode cX2_takeLetters 70 = .ok (.getfield 117, 3) := by decide +kernel
theorem dX2_takeLetters_73 : decode cX2_takeLetters 73 = .ok (.isub, 1) := by decide +kernel
theorem dX2_takeLetters_74 : decode cX2_takeLetters 74 = .ok (.iconst 1, 1) := by decide +kernel
theorem dX2_takeLetters_75 : decode cX2_takeLetters 75 = .ok (.if_icmp .le 8, 3) := by decide +kernel
theorem dX2_takeLetters_78 : decode cX2_takeLetters 78 = .ok (.aload_n 0, 1) := by decide +kernel
theorem dX2_takeLetters_79 : decode cX2_takeLetters 79 = .ok (.iconst 0, 1) := by decide +kernel
theorem dX2_takeLetters_80 : decode cX2_takeLetters 80 = .ok (.putfield 43, 3) := by decide +kernel
theorem dX2_takeLetters_83 : decode cX2_takeLetters 83 = .ok (.aload_n 0, 1) := by decide +kernel
theorem dX2_takeLetters_84 : decode cX2_takeLetters 84 = .ok (.iconst 1, 1) := by decide +kernel
theorem dX2_takeLetters_85 : decode cX2_takeLetters 85 = .ok (.putfield 33, 3) := by decide +kernel
theorem dX2_takeLetters_88 : decode cX2_takeLetters 88 = .ok (.return_, 1) := by decide +kernel
theorem dX2_takeDigits_0 : decode cX2_takeDigits 0 = .ok (.aload_n 0, 1) := by decide +kernel
theorem dX2_takeDigits_1 : decode cX2_takeDigits 1 = .ok (.getfield 9, 3) := by decide +kernel
theorem dX2_takeDigits_4 : decode cX2_takeDigits 4 = .ok (.aload_n 0, 1) := by decide +kernel
theorem dX2_takeDigits_5 : decode cX2_takeDigits 5 = .ok (.getfield 24, 3) := by decide +kernel
theorem dX2_takeDigits_8 : decode cX2_takeDigits 8 = .ok (.iaload, 1) := by decide +kernel
theorem dX2_takeDigits_9 : decode cX2_takeDigits 9 = .ok (.bipush 48, 2) := by decide +kernel
theorem dX2_takeDigits_11 : decode cX2_takeDigits 11 = .ok (.if_icmp .ne 7, 3) := by decide +kernel
theorem dX2_takeDigits_14 : decode cX2_takeDigits 14 = .ok (.iconst 1, 1) := by decide +kernel
theorem dX2_takeDigits_15 : decode cX2_takeDigits 15 = .ok (.goto 4, 3) := by decide +kernel
theorem dX2_takeDigits_18 : decode cX2_takeDigits 18 = .ok (.iconst 0, 1) := by decide +kernel
theorem dX2_takeDigits_19 : decode cX2_takeDigits 19 = .ok (.istore_n 1, 1) := by decide +kernel
theorem dX2_takeDigits_20 : decode cX2_takeDigits 20 = .ok (.aload_n 0, 1) := by decide +kernel
theorem dX2_takeDigits_21 : decode cX2_takeDigits 21 = .ok (.iconst 0, 1) := by decide +kernel
theorem dX2_takeDigits_22 : decode cX2_takeDigits 22 = .ok (.putfield 43, 3) := by decide +kernel
theorem dX2_takeDigits_25 : decode cX2_takeDigits 25 = .ok (.aload_n 0, 1) := by decide +kernel
theorem dX2_takeDigits_26 : decode cX2_takeDigits 26 = .ok (.getfield 24, 3) := by decide +kernel
theorem dX2_takeDigits_29 : decode cX2_takeDigits 29 = .ok (.aload_n 0, 1) := by decide +kernel
theorem dX2_takeDigits_30 : decode cX2_takeDigits 30 = .ok (.getfield 15, 3) := by decide +kernel
theorem dX2_takeDigits_33 : decode cX2_takeDigits 33 = .ok (.if_icmp .ge 77, 3) := by decide +kernel
theorem dX2_takeDigits_36 : decode cX2_takeDigits 36 = .ok (.aload_n 0, 1) := by decide +kernel
theorem dX2_takeDigits_37 : decode cX2_takeDigits 37 = .ok (.getfield 9, 3) := by decide +kernel
theorem dX2_takeDigits_40 : decode cX2_takeDigits 40 = .ok (.aload_n 0, 1) := by decide +kernel
theorem dX2_takeDigits_41 : decode cX2_takeDigits 41 = .ok (.getfield 24, 3) := by decide +kernel
theorem dX2_takeDigits_44 : decode cX2_takeDigits 44 = .ok (.iaload, 1) := by decide +kernel
theorem dX2_takeDigits_45 : decode cX2_takeDigits 45 = .ok (.bipush 48, 2) := by decide +kernel
theorem dX2_takeDigits_47 : decode cX2_takeDigits 47 = .ok (.if_icmp .lt 63, 3) := by decide +kernel
theorem dX2_takeDigits_50 : decode cX2_takeDigits 50 = .ok (.aload_n 0, 1) := by decide +kernel
theorem dX2_takeDigits_51 : decode cX2_takeDigits 51 = .ok (.getfield 9, 3) := by decide +kernel
theorem dX2_takeDigits_54 : decode cX2_takeDigits 54 = .ok (.aload_n 0, 1) := by decide +kernel
theorem dX2_takeDigits_55 : decode cX2_takeDigits 55 = .ok (.getfield 24, 3) := by decide +kernel
theorem dX2_takeDigits_58 : decode cX2_takeDigits 58 = .ok (.iaload, 1) := by decide +kernel
theorem dX2_takeDigits_59 : decode cX2_takeDigits 59 = .ok (.bipush 57, 2) := by decide +kernel
theorem dX2_takeDigits_61 : decode cX2_takeDigits 61 = .ok (.if_icmp .gt 49, 3) := by decide +kernel
theorem dX2_takeDigits_64 : decode cX2_takeDigits 64 = .ok (.aload_n 0, 1) := by decide +kernel
theorem dX2_takeDigits_65 : decode cX2_takeDigits 65 = .ok (.getfield 43, 3) := by decide +kernel
theorem dX2_takeDigits_68 : decode cX2_takeDigits 68 = .ok (.bipush 99, 2) := by decide +kernel
theorem dX2_takeDigits_70 : decode cX2_takeDigits 70 = .ok (.if_icmp .gt 27, 3) := by decide +kernel
theorem dX2_takeDigits_73 : decode cX2_takeDigits 73 = .ok (.aload_n 0, 1) := by decide +kernel
theorem dX2_takeDigits_74 : decode cX2_takeDigits 74 = .ok (.aload_n 0, 1) := by decide +kernel
theorem dX2_takeDigits_75 : decode cX2_takeDigits 75 = .ok (.getfield 43, 3) := by decide +kernel
theorem dX2_takeDigits_78 : decode cX2_takeDigits 78 = .ok (.bipush 10, 2) := by decide +kernel
theorem dX2_takeDigits_80 : decode cX2_takeDigits 80 = .ok (.imul, 1) := by decide +kernel
theorem dX2_takeDigits_81 : decode cX2_takeDigits 81 = .ok (.aload_n 0, 1) := by decide +kernel
theorem dX2_takeDigits_82 : decode cX2_takeDigits 82 = .ok (.getfield 9, 3) := by decide +kernel
theorem dX2_takeDigits_85 : decode cX2_takeDigits 85 = .ok (.aload_n 0, 1) := by decide +kernel
theorem dX2_takeDigits_86 : decode cX2_takeDigits 86 = .ok (.getfield 24, 3) := by decide +kernel
theorem dX2_takeDigits_89 : decode cX2_takeDigits 89 = .ok (.iaload, 1) := by decide +kernel
theorem dX2_takeDigits_90 : decode cX2_takeDigits 90 = .ok (.iadd, 1) := by decide +kernel
theorem dX2_takeDigits_91 : decode cX2_takeDigits 91 = .ok (.bipush 48, 2) := by decide +kernel
theorem dX2_takeDigits_93 : decode cX2_takeDigits 93 = .ok (.isub, 1) := by decide +kernel
theorem dX2_takeDigits_94 : decode cX2_takeDigits 94 = .ok (.putfield 43, 3) := by decide +kernel
theorem dX2_takeDigits_97 : decode cX2_takeDigits 97 = .ok (.aload_n 0, 1) := by decide +kernel
theorem dX2_takeDigits_98 : decode cX2_takeDigits 98 = .ok (.dup, 1) := by decide +kernel
theorem dX2_takeDigits_99 : decode cX2_takeDigits 99 = .ok (.getfield 24, 3) := by decide +kernel
theorem dX2_takeDigits_102 : decode cX2_takeDigits 102 = .ok (.iconst 1, 1) := by decide +kernel
theorem dX2_takeDigits_103 : decode cX2_takeDigits 103 = .ok (.iadd, 1) := by decide +kernel
theorem dX2_takeDigits_104 : decode cX2_takeDigits 104 = .ok (.putfield 24, 3) := by decide +kernel
theorem dX2_takeDigits_107 : decode cX2_takeDigits 107 = .ok (.goto (-82), 3) := by decide +kernel
theorem dX2_takeDigits_110 : decode cX2_takeDigits 110 = .ok (.aload_n 0, 1) := by decide +kernel
theorem dX2_takeDigits_111 : decode cX2_takeDigits 111 = .ok (.getfield 43, 3) := by decide +kernel
theorem dX2_takeDigits_114 : decode cX2_takeDigits 114 = .ok (.bipush 99, 2) := by decide +kernel
theorem dX2_takeDigits_116 : decode cX2_takeDigits 116 = .ok (.if_icmp .gt 20, 3) := by decide +kernel
theorem dX2_takeDigits_119 : decode cX2_takeDigits 119 = .ok (.iload_n 1, 1) := by decide +kernel
theorem dX2_takeDigits_120 : decode cX2_takeDigits 120 = .ok (.ifCond .eq 20, 3) := by decide +kernel
theorem dX2_takeDigits_123 : decode cX2_takeDigits 123 = .ok (.aload_n 0, 1) := by decide +kernel
theorem dX2_takeDigits_124 : decode cX2_takeDigits 124 = .ok (.getfield 24, 3) := by decide +kernel
theorem dX2_takeDigits_127 : decode cX2_takeDigits 127 = .ok (.aload_n 0, 1) := by decide +kernel
theorem dX2_takeDigits_128 : decode cX2_takeDigits 128 = .ok (.getfield 117, 3) := by decide +kernel
theorem dX2_takeDigits_131 : decode cX2_takeDigits 131 = .ok (.isub, 1) := by decide +kernel
theorem dX2_takeDigits_132 : decode cX2_takeDigits 132 = .ok (.iconst 1, 1) := by decide +kernel
theorem dX2_takeDigits_133 : decode cX2_takeDigits 133 = .ok (.if_icmp .le 7, 3) := by decide +kernel
theorem dX2_takeDigits_136 : decode cX2_takeDigits 136 = .ok (.iconst 1, 1) := by decide +kernel
theorem dX2_takeDigits_137 : decode cX2_takeDigits 137 = .ok (.goto 4, 3) := by decide +kernel
theorem dX2_takeDigits_140 : decode cX2_takeDigits 140 = .ok (.iconst 0, 1) := by decide +kernel
theorem dX2_takeDigits_141 : decode cX2_takeDigits 141 = .ok (.istore_n 2, 1) := by decide +kernel
theorem dX2_takeDigits_142 : decode cX2_takeDigits 142 = .ok (.aload_n 0, 1) := by decide +kernel
theorem dX2_takeDigits_143 : decode cX2_takeDigits 143 = .ok (.iload_n 2, 1) := by decide +kernel
theorem dX2_takeDigits_144 : decode cX2_takeDigits 144 = .ok (.ifCond .eq 7, 3) := by decide +kernel
theorem dX2_takeDigits_147 : decode cX2_takeDigits 147 = .ok (.iconst 4, 1) := by decide +kernel
theorem dX2_takeDigits_148 : decode cX2_takeDigits 148 = .ok (.goto 4, 3) := by decide +kernel
theorem dX2_takeDigits_151 : decode cX2_takeDigits 151 = .ok (.iconst 2, 1) := by decide +kernel
theorem dX2_takeDigits_152 : decode cX2_takeDigits 152 = .ok (.putfield 33, 3) := by decide +kernel
theorem dX2_takeDigits_155 : decode cX2_takeDigits 155 = .ok (.return_, 1) := by decide +kernel
theorem dX2_takeOne_0 : decode cX2_takeOne 0 = .ok (.aload_n 0, 1) := by decide +kernel
theorem dX2_takeOne_1 : decode cX2_takeOne 1 = .ok (.aload_n 0, 1) := by decide +kernel
theorem dX2_takeOne_2 : decode cX2_takeOne 2 = .ok (.getfield 9, 3) := by decide +kernel
theorem dX2_takeOne_5 : decode cX2_takeOne 5 = .ok (.aload_n 0, 1) := by decide +kernel
theorem dX2_takeOne_6 : decode cX2_takeOne 6 = .ok (.getfield 24, 3) := by decide +kernel
theorem dX2_takeOne_9 : decode cX2_takeOne 9 = .ok (.iaload, 1) := by decide +kernel
theorem dX2_takeOne_10 : decode cX2_takeOne 10 = .ok (.bipush 59, 2) := by decide +kernel
theorem dX2_takeOne_12 : decode cX2_takeOne 12 = .ok (.if_icmp .ne 7, 3) := by decide +kernel
theorem dX2_takeOne_15 : decode cX2_takeOne 15 = .ok (.iconst 3, 1) := by decide +kernel
theorem dX2_takeOne_16 : decode cX2_takeOne 16 = .ok (.goto 4, 3) := by decide +kernel
theorem dX2_takeOne_19 : decode cX2_takeOne 19 = .ok (.iconst 4, 1) := by decide +kernel
theorem dX2_takeOne_20 : decode cX2_takeOne 20 = .ok (.putfield 33, 3) := by decide +kernel
theorem dX2_takeOne_23 : decode cX2_takeOne 23 = .ok (.aload_n 0, 1) := by decide +kernel
theorem dX2_takeOne_24 : decode cX2_takeOne 24 = .ok (.dup, 1) := by decide +kernel
theorem dX2_takeOne_25 : decode cX2_takeOne 25 = .ok (.getfield 24, 3) := by decide +kernel
theorem dX2_takeOne_28 : decode cX2_takeOne 28 = .ok (.iconst 1, 1) := by decide +kernel
theorem dX2_takeOne_29 : decode cX2_takeOne 29 = .ok (.iadd, 1) := by decide +kernel
theorem dX2_takeOne_30 : decode cX2_takeOne 30 = .ok (.putfield 24, 3) := by decide +kernel
theorem dX2_takeOne_33 : decode cX2_takeOne 33 = .ok (.return_, 1) := by decide +kernel
theorem dX3_init_0 : decode cX3_init 0 = .ok (.aload_n 0, 1) := by decide +kernel
theorem dX3_init_1 : decode cX3_init 1 = .ok (.invokespecial 3, 3) := by decide +kernel
theorem dX3_init_4 : decode cX3_init 4 = .ok (.aload_n 0, 1) := by decide +kernel
theorem dX3_init_5 : decode cX3_init 5 = .ok (.bipush 6, 2) := by decide +kernel
theorem dX3_init_7 : decode cX3_init 7 = .ok (.newarray .int, 2) := by decide +kernel
theorem dX3_init_9 : decode cX3_init 9 = .ok (.putfield 9, 3) := by decide +kernel
theorem dX3_init_12 : decode cX3_init 12 = .ok (.aload_n 0, 1) := by decide +kernel
theorem dX3_init_13 : decode cX3_init 13 = .ok (.bipush 6, 2) := by decide +kernel
theorem dX3_init_15 : decode cX3_init 15 = .ok (.newarray .int, 2) := by decide +kernel
theorem dX3_init_17 : decode cX3_init 17 = .ok (.putfield 15, 3) := by decide +kernel
theorem dX3_init_20 : decode cX3_init 20 = .ok (.aload_n 0, 1) := by decide +kernel
theorem dX3_init_21 : decode cX3_init 21 = .ok (.bipush 7, 2) := by decide +kernel
theorem dX3_init_23 : decode cX3_init 23 = .ok (.newarray .int, 2) := by decide +kernel
theorem dX3_init_25 : decode cX3_init 25 = .ok (.putfield 18, 3) := by decide +kernel
theorem dX3_init_28 : decode cX3_init 28 = .ok (.aload_n 0, 1) := by decide +kernel
theorem dX3_init_29 : decode cX3_init 29 = .ok (.bipush 7, 2) := by decide +kernel
theorem dX3_init_31 : decode cX3_init 31 = .ok (.newarray .int, 2) := by decide +kernel
theorem dX3_init_33 : decode cX3_init 33 = .ok (.putfield 21, 3) := by decide +kernel
theorem dX3_init_36 : decode cX3_init 36 = .ok (.return_, 1) := by decide +kernel
theorem dX3_forgetAll_0 : decode cX3_forgetAll 0 = .ok (.aload_n 0, 1) := by decide +kernel
theorem dX3_forgetAll_1 : decode cX3_forgetAll 1 = .ok (.iconst 0, 1) := by decide +kernel
theorem dX3_forgetAll_2 : decode cX3_forgetAll 2 = .ok (.putfield 24, 3) := by decide +kernel
theorem dX3_forgetAll_5 : decode cX3_forgetAll 5 = .ok (.aload_n 0, 1) := by decide +kernel
theorem dX3_forgetAll_6 : decode cX3_forgetAll 6 = .ok (.iconst 0, 1) := by decide +kernel
theorem dX3_forgetAll_7 : decode cX3_forgetAll 7 = .ok (.putfield 28, 3) := by decide +kernel
theorem dX3_forgetAll_10 : decode cX3_forgetAll 10 = .ok (.return_, 1) := by decide +kernel
theorem dX3_addMark_0 : decode cX3_addMark 0 = .ok (.aload_n 0, 1) := by decide +kernel
theorem dX3_addMark_1 : decode cX3_addMark 1 = .ok (.getfield 24, 3) := by decide +kernel
theorem dX3_addMark_4 : decode cX3_addMark 4 = .ok (.bipush 6, 2) := by decide +kernel
theorem dX3_addMark_6 : decode cX3_addMark 6 = .ok (.if_icmp .lt 5, 3) := by decide +kernel
theorem dX3_addMark_9 : decode cX3_addMark 9 = .ok (.iconst 0, 1) := by decide +kernel
theorem dX3_addMark_10 : decode cX3_addMark 10 = .ok (.ireturn, 1) := by decide +kernel
theorem dX3_addMark_11 : decode cX3_addMark 11 = .ok (.aload_n 0, 1) := by decide +kernel
theorem dX3_addMark_12 : decode cX3_addMark 12 = .ok (.getfield 9, 3) := by decide +kernel
theorem dX3_addMark_15 : decode cX3_addMark 15 = .ok (.aload_n 0, 1) := by decide +kernel
theorem dX3_addMark_16 : decode cX3_addMark 16 = .ok (.getfield 24, 3) := by decide +kernel
theorem dX3_addMark_19 : decode cX3_addMark 19 = .ok (.iload_n 1, 1) := by decide +kernel
theorem dX3_addMark_20 : decode cX3_addMark 20 = .ok (.iastore, 1) := by decide +kernel
theorem dX3_addMark_21 : decode cX3_addMark 21 = .ok (.aload_n 0, 1) := by decide +kernel
theorem dX3_addMark_22 : decode cX3_addMark 22 = .ok (.dup, 1) := by decide +kernel
theorem dX3_addMark_23 : decode cX3_addMark 23 = .ok (.getfield 24, 3) := by decide +kernel
theorem dX3_addMark_26 : decode cX3_addMark 26 = .ok (.iconst 1, 1) := by decide +kernel
theorem dX3_addMark_27 : decode cX3_addMark 27 = .ok (.iadd, 1) := by decide +kernel
theorem dX3_addMark_28 : decode cX3_addMark 28 = .ok (.putfield 24, 3) := by decide +kernel
theorem dX3_addMark_31 : decode cX3_addMark 31 = .ok (.iconst 1, 1) := by decide +kernel
theorem dX3_addMark_32 : decode cX3_addMark 32 = .ok (.ireturn, 1) := by decide +kernel
theorem dX3_addCorner_0 : decode cX3_addCorner 0 = .ok (.aload_n 0, 1) := by decide +kernel
theorem dX3_addCorner_1 : decode cX3_addCorner 1 = .ok (.getfield 28, 3) := by decide +kernel
theorem dX3_addCorner_4 : decode cX3_addCorner 4 = .ok (.bipush 6, 2) := by decide +kernel
theorem dX3_addCorner_6 : decode cX3_addCorner 6 = .ok (.if_icmp .lt 5, 3) := by decide +kernel
theorem dX3_addCorner_9 : decode cX3_addCorner 9 = .ok (.iconst 0, 1) := by decide +kernel
theorem dX3_addCorner_10 : decode cX3_addCorner 10 = .ok (.ireturn, 1) := by decide +kernel
theorem dX3_addCorner_11 : decode cX3_addCorner 11 = .ok (.aload_n 0, 1) := by decide +kernel
theorem dX3_addCorner_12 : decode cX3_addCorner 12 = .ok (.getfield 15, 3) := by decide +kernel
theorem dX3_addCorner_15 : decode cX3_addCorner 15 = .ok (.aload_n 0, 1) := by decide +kernel
theorem dX3_addCorner_16 : decode cX3_addCorner 16 = .ok (.getfield 28, 3) := by decide +kernel
theorem dX3_addCorner_19 : decode cX3_addCorner 19 = .ok (.iload_n 1, 1) := by decide +kernel
theorem dX3_addCorner_20 : decode cX3_addCorner 20 = .ok (.iastore, 1) := by decide +kernel
theorem dX3_addCorner_21 : decode cX3_addCorner 21 = .ok (.aload_n 0, 1) := by decide +kernel
theorem dX3_addCorner_22 : decode cX3_addCorner 22 = .ok (.dup, 1) := by decide +kernel
theorem dX3_addCorner_23 : decode cX3_addCorner 23 = .ok (.getfield 28, 3) := by decide +kernel
theorem dX3_addCorner_26 : decode cX3_addCorner 26 = .ok (.iconst 1, 1) := by decide +kernel
theorem dX3_addCorner_27 : decode cX3_addCorner 27 = .ok (.iadd, 1) := by decide +kernel
theorem dX3_addCorner_28 : decode cX3_addCorner 28 = .ok (.putfield 28, 3) := by decide +kernel
theorem dX3_addCorner_31 : decode cX3_addCorner 31 = .ok (.iconst 1, 1) := by decide +kernel
theorem dX3_addCorner_32 : decode cX3_addCorner 32 = .ok (.ireturn, 1) := by decide +kernel
theorem dX3_lastWalked_0 : decode cX3_lastWalked 0 = .ok (.aload_n 0, 1) := by decide +kernel
theorem dX3_lastWalked_1 : decode cX3_lastWalked 1 = .ok (.getfield 28, 3) := by decide +kernel
theorem dX3_lastWalked_4 : decode cX3_lastWalked 4 = .ok (.ifCond .le 17, 3) := by decide +kernel
theorem dX3_lastWalked_7 : decode cX3_lastWalked 7 = .ok (.aload_n 0, 1) := by decide +kernel
theorem dX3_lastWalked_8 : decode cX3_lastWalked 8 = .ok (.getfield 15, 3) := by decide +kernel
theorem dX3_lastWalked_11 : decode cX3_lastWalked 11 = .ok (.aload_n 0, 1) := by decide +kernel
theorem dX3_lastWalked_12 : decode cX3_lastWalked 12 = .ok (.getfield 28, 3) := by decide +kernel
theorem dX3_lastWalked_15 : decode cX3_lastWalked 15 = .ok (.iconst 1, 1) := by decide +kernel
theorem dX3_lastWalked_16 : decode cX3_lastWalked 16 = .ok (.isub, 1) := by decide +kernel
theorem dX3_lastWalked_17 : decode cX3_lastWalked 17 = .ok (.iaload, 1) := by decide +kernel
theorem dX3_lastWalked_18 : decode cX3_lastWalked 18 = .ok (.goto 5, 3) := by decide +kernel
theorem dX3_lastWalked_21 : decode cX3_lastWalked 21 = .ok (.bipush (-9), 2) := by decide +kernel
theorem dX3_lastWalked_23 : decode cX3_lastWalked 23 = .ok (.ireturn, 1) := by decide +kernel
set_option maxRecDepth 20000 in
theorem ggX3_rowCount_X3_countRows : GoodIn wsX3_rowCount wsX3_countRows := goodIn_r _ [6, 1, 7, 8, 9, 10, 11, 12, 13, 14, 15, 16, 17, 18, 5, 19, 20, 21, 22, 23, 24, 25, 26, 27, 28, 29, 30, 31, 32, 33, 34, 35, 36, 37, 38, 39, 40, 41, 42, 43, 44, 45, 46, 47, 48, 49, 50, 51, 52, 53, 54, 55, 56] (by decide +kernel) (by decide +kernel)
set_option maxRecDepth 20000 in
theorem gX3_rowCount_X3_countRows : GoodIn wsX3_rowCount (wsV RX3 31 RX3 yX3_countRows wsX3_countRows) := goodIn_app (goodIn_of _ (by decide +kernel)) ggX3_rowCount_X3_countRows
theorem dX3_rowCount_0 : decode cX3_rowCount 0 = .ok (.aload_n 0, 1) := by decide +kernel
theorem dX3_rowCount_1 : decode cX3_rowCount 1 = .ok (.aload_n 1, 1) := by decide +kernel
theorem dX3_rowCount_2 : decode cX3_rowCount 2 = .ok (.iconst 0, 1) := by decide +kernel
theorem dX3_rowCount_3 : decode cX3_rowCount 3 = .ok (.invokevirtual 31, 3) := by decide +kernel
theorem dX3_rowCount_6 : decode cX3_rowCount 6 = .ok (.iconst 0, 1) := by decide +kernel
theorem dX3_rowCount_7 : decode cX3_rowCount 7 = .ok (.istore_n 2, 1) := by decide +kernel
theorem dX3_rowCount_8 : decode cX3_rowCount 8 = .ok (.iconst 0, 1) := by decide +kernel
theorem dX3_rowCount_9 : decode cX3_rowCount 9 = .ok (.istore_n 3, 1) := by decide +kernel
theorem dX3_rowCount_10 : decode cX3_rowCount 10 = .ok (.iload_n 3, 1) := by decide +kernel
theorem dX3_rowCount_11 : decode cX3_rowCount 11 = .ok (.bipush 7, 2) := by decide +kernel
theorem dX3_rowCount_13 : decode cX3_rowCount 13 = .ok (.if_icmp .ge 18, 3) := by decide +kernel
theorem dX3_rowCount_16 : decode cX3_rowCount 16 = .ok (.iload_n 2, 1) := by decide +kernel
theorem dX3_rowCount_17 : decode cX3_rowCount 17 = .ok (.aload_n 0, 1) := by decide +kernel
theorem dX3_rowCount_18 : decode cX3_rowCount 18 = .ok (.getfield 18, 3) := by decide +kernel
theorem dX3_rowCount_21 : decode cX3_rowCount 21 = .ok (.iload_n 3, 1) := by decide +kernel
theorem dX3_rowCount_22 : decode cX3_rowCount 22 = .ok (.iaload, 1) := by decide +kernel
theorem dX3_rowCount_23 : decode cX3_rowCount 23 = .ok (.iadd, 1) := by decide +kernel
theorem dX3_rowCount_24 : decode cX3_rowCount 24 = .ok (.istore_n 2, 1) := by decide +kernel
theorem dX3_rowCount_25 : decode cX3_rowCount 25 = .ok (.iinc 3 1, 3) := by decide +kernel
theorem dX3_rowCount_28 : decode cX3_rowCount 28 = .ok (.goto (-18), 3) := by decide +kernel
theorem dX3_rowCount_31 : decode cX3_rowCount 31 = .ok (.iload_n 2, 1) := by decide +kernel
theorem dX3_rowCount_32 : decode cX3_rowCount 32 = .ok (.ireturn, 1) := by decide +kernel
set_option maxRecDepth 20000 in
theorem ggX3_lastCorners_X3_countRows : GoodIn wsX3_lastCorners wsX3_countRows := goodIn_r _ [5, 6, 7, 8, 9, 10, 11, 12, 13, 14, 15, 16, 17, 18, 4, 19, 20, 21, 22, 23, 24, 25, 26, 27, 28, 29, 30, 31, 32, 33, 34, 35, 40, 41, 42, 43, 44, 45, 46, 47, 48, 49, 50, 51, 52, 53, 54, 55, 56, 57, 58, 59, 60] (by decide +kernel) (by decide +kernel)
set_option maxRecDepth 20000 in
theorem gX3_lastCorners_X3_countRows : GoodIn wsX3_lastCorners (wsV RX3 31 RX3 yX3_countRows wsX3_countRows) := goodIn_app (goodIn_of _ (by decide +kernel)) ggX3_lastCorners_X3_countRows
set_option maxRecDepth 20000 in
theorem ggX3_lastCorners_X3_rowEnds : GoodIn wsX3_lastCorners wsX3_rowEnds := goodIn_r _ [39, 6, 40, 41, 42, 43, 44, 45] (by decide +kernel) (by decide +kernel)
set_option maxRecDepth 20000 in
theorem gX3_lastCorners_X3_rowEnds : GoodIn wsX3_lastCorners (wsV RX3 35 RX3 yX3_rowEnds wsX3_rowEnds) := goodIn_app (goodIn_of _ (by decide +kernel)) ggX3_lastCorners_X3_rowEnds
theorem dX3_lastCorners_0 : decode cX3_lastCorners 0 = .ok (.aload_n 0, 1) := by decide +kernel
theorem dX3_lastCorners_1 : decode cX3_lastCorners 1 = .ok (.aload_n 1, 1) := by decide +kernel
theorem dX3_lastCorners_2 : decode cX3_lastCorners 2 = .ok (.iconst 0, 1) := by decide +kernel
theorem dX3_lastCorners_3 : decode cX3_lastCorners 3 = .ok (.invokevirtual 31, 3) := by decide +kernel
theorem dX3_lastCorners_6 : decode cX3_lastCorners 6 = .ok (.aload_n 0, 1) := by decide +kernel
theorem dX3_lastCorners_7 : decode cX3_lastCorners 7 = .ok (.invokevirtual 35, 3) := by decide +kernel
theorem dX3_lastCorners_10 : decode cX3_lastCorners 10 = .ok (.ireturn, 1) := by decide +kernel
set_option maxRecDepth 20000 in
theorem ggX3_firstCorners_X3_countRows : GoodIn wsX3_firstCorners wsX3_countRows := goodIn_r _ [5, 6, 7, 8, 9, 10, 11, 12, 13, 14, 15, 16, 17, 18, 4, 19, 20, 21, 22, 23, 24, 25, 26, 27, 28, 29, 30, 31, 32, 33, 34, 35, 40, 41, 42, 43, 44, 45, 46, 47, 48, 49, 50, 51, 52, 53, 54, 55, 56, 57, 58, 59, 60] (by decide +kernel) (by decide +kernel)
set_option maxRecDepth 20000 in
theorem gX3_firstCorners_X3_countRows : GoodIn wsX3_firstCorners (wsV RX3 31 RX3 yX3_countRows wsX3_countRows) := goodIn_app (goodIn_of _ (by decide +kernel)) ggX3_firstCorners_X3_countRows
set_option maxRecDepth 20000 in
theorem ggX3_firstCorners_X3_rowEnds : GoodIn wsX3_firstCorners wsX3_rowEnds := goodIn_r _ [39, 6, 40, 41, 42, 43, 44, 45] (by decide +kernel) (by decide +kernel)
set_option maxRecDepth 20000 in
theorem gX3_firstCorners_X3_rowEnds : GoodIn wsX3_firstCorners (wsV RX3 35 RX3 yX3_rowEnds wsX3_rowEnds) := goodIn_app (goodIn_of _ (by decide +kernel)) ggX3_firstCorners_X3_rowEnds
theorem dX3_firstCorners_0 : decode cX3_firstCorners 0 = .ok (.aload_n 0, 1) := by decide +kernel
theorem dX3_firstCorners_1 : decode cX3_firstCorners 1 = .ok (.aload_n 1, 1) := by decide +kernel
theorem dX3_firstCorners_2 : decode cX3_firstCorners 2 = .ok (.iconst 1, 1) := by decide +kernel
theorem dX3_firstCorners_3 : decode cX3_firstCorners 3 = .ok (.invokevirtual 31, 3) := by decide +kernel
theorem dX3_firstCorners_6 : decode cX3_firstCorners 6 = .ok (.aload_n 0, 1) := by decide +kernel
theorem dX3_firstCorners_7 : decode cX3_firstCorners 7 = .ok (.invokevirtual 35, 3) := by decide +kernel
theorem dX3_firstCorners_10 : decode cX3_firstCorners 10 = .ok (.ireturn, 1) := by decide +kernel
theorem dX3_rowEnds_0 : decode cX3_rowEnds 0 = .ok (.iconst 0, 1) := by decide +kernel
theorem dX3_rowEnds_1 : decode cX3_rowEnds 1 = .ok (.istore_n 1, 1) := by decide +kernel
theorem dX3_rowEnds_2 : decode cX3_rowEnds 2 = .ok (.iconst 0, 1) := by decide +kernel
theorem dX3_rowEnds_3 : decode cX3_rowEnds 3 = .ok (.istore_n 2, 1) := by decide +kernel
theorem dX3_rowEnds_4 : decode cX3_rowEnds 4 = .ok (.iload_n 2, 1) := by decide +kernel
theorem dX3_rowEnds_5 : decode cX3_rowEnds 5 = .ok (.bipush 7, 2) := by decide +kernel
theorem dX3_rowEnds_7 : decode cX3_rowEnds 7 = .ok (.if_icmp .ge 24, 3) := by decide +kernel
theorem dX3_rowEnds_10 : decode cX3_rowEnds 10 = .ok (.aload_n 0, 1) := by decide +kernel
theorem dX3_rowEnds_11 : decode cX3_rowEnds 11 = .ok (.getfield 18, 3) := by decide +kernel
theorem dX3_rowEnds_14 : decode cX3_rowEnds 14 = .ok (.iload_n 2, 1) := by decide +kernel
theorem dX3_rowEnds_15 : decode cX3_rowEnds 15 = .ok (.iaload, 1) := by decide +kernel
theorem dX3_rowEnds_16 : decode cX3_rowEnds 16 = .ok (.ifCond .le 9, 3) := by decide +kernel
theorem dX3_rowEnds_19 : decode cX3_rowEnds 19 = .ok (.iload_n 1, 1) := by decide +kernel
theorem dX3_rowEnds_20 : decode cX3_rowEnds 20 = .ok (.iconst 1, 1) := by decide +kernel
theorem dX3_rowEnds_21 : decode cX3_rowEnds 21 = .ok (.iload_n 2, 1) := by decide +kernel
theorem dX3_rowEnds_22 : decode cX3_rowEnds 22 = .ok (.ishl, 1) := by decide +kernel
theorem dX3_rowEnds_23 : decode cX3_rowEnds 23 = .ok (.ior, 1) := by decide +kernel
theorem dX3_rowEnds_24 : decode cX3_rowEnds 24 = .ok (.istore_n 1, 1) := by decide +kernel
theorem dX3_rowEnds_25 : decode cX3_rowEnds 25 = .ok (.iinc 2 1, 3) := by decide +kernel
theorem dX3_rowEnds_28 : decode cX3_rowEnds 28 = .ok (.goto (-24), 3) := by decide +kernel
theorem dX3_rowEnds_31 : decode cX3_rowEnds 31 = .ok (.iload_n 1, 1) := by decide +kernel
theorem dX3_rowEnds_32 : decode cX3_rowEnds 32 = .ok (.ireturn, 1) := by decide +kernel
set_option maxRecDepth 20000 in
theorem ggX3_countRows_X3_rowsInto : GoodIn wsX3_countRows wsX3_rowsInto := goodIn_r _ [15, 4, 1, 16, 17, 18, 19, 20, 21, 22, 23, 24, 25, 26, 27, 28, 29, 30, 31, 38, 39, 40, 41, 42, 43, 44, 45, 46, 47, 48, 49, 50, 51, 52, 32, 33, 34, 35, 36, 37] (by decide +kernel) (by decide +kernel)
set_option maxRecDepth 20000 in
theorem gX3_countRows_X3_rowsInto : GoodIn wsX3_countRows (wsV RX3 47 RX3 yX3_rowsInto wsX3_rowsInto) := goodIn_app (goodIn_of _ (by decide +kernel)) ggX3_countRows_X3_rowsInto
theorem dX3_countRows_0 : decode cX3_countRows 0 = .ok (.iconst 0, 1) := by decide +kernel
theorem dX3_countRows_1 : decode cX3_countRows 1 = .ok (.istore_n 3, 1) := by decide +kernel
theorem dX3_countRows_2 : decode cX3_countRows 2 = .ok (.iload_n 3, 1) := by decide +kernel
theorem dX3_countRows_3 : decode cX3_countRows 3 = .ok (.bipush 7, 2) := by decide +kernel
theorem dX3_countRows_5 : decode cX3_countRows 5 = .ok (.if_icmp .ge 16, 3) := by decide +kernel
theorem dX3_countRows_8 : decode cX3_countRows 8 = .ok (.aload_n 0, 1) := by decide +kernel
theorem dX3_countRows_9 : decode cX3_countRows 9 = .ok (.getfield 18, 3) := by decide +kernel
theorem dX3_countRows_12 : decode cX3_countRows 12 = .ok (.iload_n 3, 1) := by decide +kernel
theorem dX3_countRows_13 : decode cX3_countRows 13 = .ok (.iconst 0, 1) := by decide +kernel
theorem dX3_countRows_14 : decode cX3_countRows 14 = .ok (.iastore, 1) := by decide +kernel
theorem dX3_countRows_15 : decode cX3_countRows 15 = .ok (.iinc 3 1, 3) := by decide +kernel
theorem dX3_countRows_18 : decode cX3_countRows 18 = .ok (.goto (-16), 3) := by decide +kernel
theorem dX3_countRows_21 : decode cX3_countRows 21 = .ok (.iconst 0, 1) := by decide +kernel
theorem dX3_countRows_22 : decode cX3_countRows 22 = .ok (.istore_n 3, 1) := by decide +kernel
theorem dX3_countRows_23 : decode cX3_countRows 23 = .ok (.iload_n 3, 1) := by decide +kernel
theorem dX3_countRows_24 : decode cX3_countRows 24 = .ok (.aload_n 0, 1) := by decide +kernel
theorem dX3_countRows_25 : decode cX3_countRows 25 = .ok (.getfield 24, 3) := by decide +kernel
theorem dX3_countRows_28 : decode cX3_countRows 28 = .ok (.if_icmp .ge 105, 3) := by decide +kernel
theorem dX3_countRows_31 : decode cX3_countRows 31 = .ok (.aload_n 0, 1) := by decide +kernel
theorem dX3_countRows_32 : decode cX3_countRows 32 = .ok (.getfield 9, 3) := by decide +kernel
theorem dX3_countRows_35 : decode cX3_countRows 35 = .ok (.iload_n 2, 1) := by decide +kernel
theorem dX3_countRows_36 : decode cX3_countRows 36 = .ok (.ifCond .eq 14, 3) := by decide +kernel
theorem dX3_countRows_39 : decode cX3_countRows 39 = .ok (.aload_n 0, 1) := by decide +kernel
theorem dX3_countRows_40 : decode cX3_countRows 40 = .ok (.getfield 24, 3) := by decide +kernel
theorem dX3_countRows_43 : decode cX3_countRows 43 = .ok (.iconst 1, 1) := by decide +kernel
theorem dX3_countRows_44 : decode cX3_countRows 44 = .ok (.isub, 1) := by decide +kernel
theorem dX3_countRows_45 : decode cX3_countRows 45 = .ok (.iload_n 3, 1) := by decide +kernel
theorem dX3_countRows_46 : decode cX3_countRows 46 = .ok (.isub, 1) := by decide +kernel
theorem dX3_countRows_47 : decode cX3_countRows 47 = .ok (.goto 4, 3) := by decide +kernel
theorem dX3_countRows_50 : decode cX3_countRows 50 = .ok (.iload_n 3, 1) := by decide +kernel
theorem dX3_countRows_51 : decode cX3_countRows 51 = .ok (.iaload, 1) := by decide +kernel
theorem dX3_countRows_52 : decode cX3_countRows 52 = .ok (.istore 4, 2) := by decide +kernel
theorem dX3_countRows_54 : decode cX3_countRows 54 = .ok (.iconst 0, 1) := by decide +kernel
theorem dX3_countRows_55 : decode cX3_countRows 55 = .ok (.istore 5, 2) := by decide +kernel
theorem dX3_countRows_57 : decode cX3_countRows 57 = .ok (.iload 5, 2) := by decide +kernel
theorem dX3_countRows_59 : decode cX3_countRows 59 = .ok (.aload_n 1, 1) := by decide +kernel
theorem dX3_countRows_60 : decode cX3_countRows 60 = .ok (.getfield 39, 3) := by decide +kernel
theorem dX3_countRows_63 : decode cX3_countRows 63 = .ok (.if_icmp .ge 47, 3) := by decide +kernel
theorem dX3_countRows_66 : decode cX3_countRows 66 = .ok (.aload_n 0, 1) := by decide +kernel
theorem dX3_countRows_67 : decode cX3_countRows 67 = .ok (.getfield 21, 3) := by decide +kernel
theorem dX3_countRows_70 : decode cX3_countRows 70 = .ok (.iload 5, 2) := by decide +kernel
theorem dX3_countRows_72 : decode cX3_countRows 72 = .ok (.aload_n 1, 1) := by decide +kernel
theorem dX3_countRows_73 : decode cX3_countRows 73 = .ok (.getfield 44, 3) := by decide +kernel
theorem dX3_countRows_76 : decode cX3_countRows 76 = .ok (.iload 5, 2) := by decide +kernel
theorem dX3_countRows_78 : decode cX3_countRows 78 = .ok (.iaload, 1) := by decide +kernel
theorem dX3_countRows_79 : decode cX3_countRows 79 = .ok (.iload 4, 2) := by decide +kernel
theorem dX3_countRows_81 : decode cX3_countRows 81 = .ok (.if_icmp .eq 7, 3) := by decide +kernel
theorem dX3_countRows_84 : decode cX3_countRows 84 = .ok (.iconst 0, 1) := by decide +kernel
theorem dX3_countRows_85 : decode cX3_countRows 85 = .ok (.goto 18, 3) := by decide +kernel
theorem dX3_countRows_88 : decode cX3_countRows 88 = .ok (.iload_n 3, 1) := by decide +kernel
theorem dX3_countRows_89 : decode cX3_countRows 89 = .ok (.ifCond .ne 7, 3) := by decide +kernel
theorem dX3_countRows_92 : decode cX3_countRows 92 = .ok (.iconst 1, 1) := by decide +kernel
theorem dX3_countRows_93 : decode cX3_countRows 93 = .ok (.goto 10, 3) := by decide +kernel
theorem dX3_countRows_96 : decode cX3_countRows 96 = .ok (.aload_n 0, 1) := by decide +kernel
theorem dX3_countRows_97 : decode cX3_countRows 97 = .ok (.aload_n 1, 1) := by decide +kernel
theorem dX3_countRows_98 : decode cX3_countRows 98 = .ok (.iload 5, 2) := by decide +kernel
theorem dX3_countRows_100 : decode cX3_countRows 100 = .ok (.invokevirtual 47, 3) := by decide +kernel
theorem dX3_countRows_103 : decode cX3_countRows 103 = .ok (.iastore, 1) := by decide +kernel
theorem dX3_countRows_104 : decode cX3_countRows 104 = .ok (.iinc 5 1, 3) := by decide +kernel
theorem dX3_countRows_107 : decode cX3_countRows 107 = .ok (.goto (-50), 3) := by decide +kernel
theorem dX3_countRows_110 : decode cX3_countRows 110 = .ok (.aload_n 0, 1) := by decide +kernel
theorem dX3_countRows_111 : decode cX3_countRows 111 = .ok (.getfield 21, 3) := by decide +kernel
theorem dX3_countRows_114 : decode cX3_countRows 114 = .ok (.iconst 0, 1) := by decide +kernel
theorem dX3_countRows_115 : decode cX3_countRows 115 = .ok (.aload_n 0, 1) := by decide +kernel
theorem dX3_countRows_116 : decode cX3_countRows 116 = .ok (.getfield 18, 3) := by decide +kernel
theorem dX3_countRows_119 : decode cX3_countRows 119 = .ok (.iconst 0, 1) := by decide +kernel
theorem dX3_countRows_120 : decode cX3_countRows 120 = .ok (.aload_n 1, 1) := by decide +kernel
theorem dX3_countRows_121 : decode cX3_countRows 121 = .ok (.getfield 39, 3) := by decide +kernel
theorem dX3_countRows_124 : decode cX3_countRows 124 = .ok (.invokestatic 51, 3) := by decide +kernel
theorem dX3_countRows_127 : decode cX3_countRows 127 = .ok (.iinc 3 1, 3) := by decide +kernel
theorem dX3_countRows_130 : decode cX3_countRows 130 = .ok (.goto (-107), 3) := by decide +kernel
theorem dX3_countRows_133 : decode cX3_countRows 133 = .ok (.return_, 1) := by decide +kernel
set_option maxRecDepth 20000 in
theorem ggX3_rowsInto_X4_nextTo : GoodIn wsX3_rowsInto wsX4_nextTo := goodIn_r _ [7, 8, 9, 10, 11, 6, 12, 13, 14, 15, 16, 17, 18, 19, 20, 21, 22, 23, 24, 25, 26, 27, 28, 29, 30, 31, 32, 33] (by decide +kernel) (by decide +kernel)
set_option maxRecDepth 20000 in
theorem gX3_rowsInto_X4_nextTo : GoodIn wsX3_rowsInto (wsV RX3 57 RX4 yX4_nextTo wsX4_nextTo) := goodIn_app (goodIn_of _ (by decide +kernel)) ggX3_rowsInto_X4_nextTo
theorem dX3_rowsInto_0 : decode cX3_rowsInto 0 = .ok (.aload_n 1, 1) := by decide +kernel
theorem dX3_rowsInto_1 : decode cX3_rowsInto 1 = .ok (.iload_n 2, 1) := by decide +kernel
theorem dX3_rowsInto_2 : decode cX3_rowsInto 2 = .ok (.invokevirtual 57, 3) := by decide +kernel
theorem dX3_rowsInto_5 : decode cX3_rowsInto 5 = .ok (.istore_n 3, 1) := by decide +kernel
theorem dX3_rowsInto_6 : decode cX3_rowsInto 6 = .ok (.iconst 0, 1) := by decide +kernel
theorem dX3_rowsInto_7 : decode cX3_rowsInto 7 = .ok (.istore 4, 2) := by decide +kernel
theorem dX3_rowsInto_9 : decode cX3_rowsInto 9 = .ok (.iconst 0, 1) := by decide +kernel
theorem dX3_rowsInto_10 : decode cX3_rowsInto 10 = .ok (.istore 5, 2) := by decide +kernel
theorem dX3_rowsInto_12 : decode cX3_rowsInto 12 = .ok (.iload 5, 2) := by decide +kernel
theorem dX3_rowsInto_14 : decode cX3_rowsInto 14 = .ok (.aload_n 1, 1) := by decide +kernel
theorem dX3_rowsInto_15 : decode cX3_rowsInto 15 = .ok (.getfield 39, 3) := by decide +kernel
theorem dX3_rowsInto_18 : decode cX3_rowsInto 18 = .ok (.if_icmp .ge 31, 3) := by decide +kernel
theorem dX3_rowsInto_21 : decode cX3_rowsInto 21 = .ok (.iload_n 3, 1) := by decide +kernel
theorem dX3_rowsInto_22 : decode cX3_rowsInto 22 = .ok (.iload 5, 2) := by decide +kernel
theorem dX3_rowsInto_24 : decode cX3_rowsInto 24 = .ok (.ishr, 1) := by decide +kernel
theorem dX3_rowsInto_25 : decode cX3_rowsInto 25 = .ok (.iconst 1, 1) := by decide +kernel
theorem dX3_rowsInto_26 : decode cX3_rowsInto 26 = .ok (.iand, 1) := by decide +kernel
theorem dX3_rowsInto_27 : decode cX3_rowsInto 27 = .ok (.iconst 1, 1) := by decide +kernel
theorem dX3_rowsInto_28 : decode cX3_rowsInto 28 = .ok (.if_icmp .ne 15, 3) := by decide +kernel
theorem dX3_rowsInto_31 : decode cX3_rowsInto 31 = .ok (.iload 4, 2) := by decide +kernel
theorem dX3_rowsInto_33 : decode cX3_rowsInto 33 = .ok (.aload_n 0, 1) := by decide +kernel
theorem dX3_rowsInto_34 : decode cX3_rowsInto 34 = .ok (.getfield 18, 3) := by decide +kernel
theorem dX3_rowsInto_37 : decode cX3_rowsInto 37 = .ok (.iload 5, 2) := by decide +kernel
theorem dX3_rowsInto_39 : decode cX3_rowsInto 39 = .ok (.iaload, 1) := by decide +kernel
theorem dX3_rowsInto_40 : decode cX3_rowsInto 40 = .ok (.iadd, 1) := by decide +kernel
theorem dX3_rowsInto_41 : decode cX3_rowsInto 41 = .ok (.istore 4, 2) := by decide +kernel
theorem dX3_rowsInto_43 : decode cX3_rowsInto 43 = .ok (.iinc 5 1, 3) := by decide +kernel
theorem dX3_rowsInto_46 : decode cX3_rowsInto 46 = .ok (.goto (-34), 3) := by decide +kernel
theorem dX3_rowsInto_49 : decode cX3_rowsInto 49 = .ok (.iload 4, 2) := by decide +kernel
theorem dX3_rowsInto_51 : decode cX3_rowsInto 51 = .ok (.ireturn, 1) := by decide +kernel
theorem dX3_isOnlyFalse_0 : decode cX3_isOnlyFalse 0 = .ok (.bipush (-9), 2) := by decide +kernel
theorem dX3_isOnlyFalse_2 : decode cX3_isOnlyFalse 2 = .ok (.istore_n 3, 1) := by decide +kernel
theorem dX3_isOnlyFalse_3 : decode cX3_isOnlyFalse 3 = .ok (.iconst 0, 1) := by decide +kernel
theorem dX3_isOnlyFalse_4 : decode cX3_isOnlyFalse 4 = .ok (.istore 4, 2) := by decide +kernel
theorem dX3_isOnlyFalse_6 : decode cX3_isOnlyFalse 6 = .ok (.iload 4, 2) := by decide +kernel
theorem dX3_isOnlyFalse_8 : decode cX3_isOnlyFalse 8 = .ok (.aload_n 0, 1) := by decide +kernel
theorem dX3_isOnlyFalse_9 : decode cX3_isOnlyFalse 9 = .ok (.getfield 24, 3) := by decide +kernel
theorem dX3_isOnlyFalse_12 : decode cX3_isOnlyFalse 12 = .ok (.if_icmp .ge 96, 3) := by decide +kernel
theorem dX3_isOnlyFalse_15 : decode cX3_isOnlyFalse 15 = .ok (.iload 4, 2) := by decide +kernel
theorem dX3_isOnlyFalse_17 : decode cX3_isOnlyFalse 17 = .ok (.aload_n 0, 1) := by decide +kernel
theorem dX3_isOnlyFalse_18 : decode cX3_isOnlyFalse 18 = .ok (.getfield 28, 3) := by decide +kernel
theorem dX3_isOnlyFalse_21 : decode cX3_isOnlyFalse 21 = .ok (.if_icmp .ge 87, 3) := by decide +kernel
theorem dX3_isOnlyFalse_24 : decode cX3_isOnlyFalse 24 = .ok (.aload_n 1, 1) := by decide +kernel
theorem dX3_isOnlyFalse_25 : decode cX3_isOnlyFalse 25 = .ok (.getfield 44, 3) := by decide +kernel
theorem dX3_isOnlyFalse_28 : decode cX3_isOnlyFalse 28 = .ok (.aload_n 0, 1) := by decide +kernel
theorem dX3_isOnlyFalse_29 : decode cX3_isOnlyFalse 29 = .ok (.getfield 15, 3) := by decide +kernel
theorem dX3_isOnlyFalse_32 : decode cX3_isOnlyFalse 32 = .ok (.iload 4, 2) := by decide +kernel
theorem dX3_isOnlyFalse_34 : decode cX3_isOnlyFalse 34 = .ok (.iaload, 1) := by decide +kernel
theorem dX3_isOnlyFalse_35 : decode cX3_isOnlyFalse 35 = .ok (.iaload, 1) := by decide +kernel
theorem dX3_isOnlyFalse_36 : decode cX3_isOnlyFalse 36 = .ok (.istore 5, 2) := by decide +kernel
theorem dX3_isOnlyFalse_38 : decode cX3_isOnlyFalse 38 = .ok (.aload_n 0, 1) := by decide +kernel
theorem dX3_isOnlyFalse_39 : decode cX3_isOnlyFalse 39 = .ok (.getfield 15, 3) := by decide +kernel
theorem dX3_isOnlyFalse_42 : decode cX3_isOnlyFalse 42 = .ok (.iload 4, 2) := by decide +kernel
theorem dX3_isOnlyFalse_44 : decode cX3_isOnlyFalse 44 = .ok (.iaload, 1) := by decide +kernel
theorem dX3_isOnlyFalse_45 : decode cX3_isOnlyFalse 45 = .ok (.iload_n 2, 1) := by decide +kernel
theorem dX3_isOnlyFalse_46 : decode cX3_isOnlyFalse 46 = .ok (.if_icmp .eq 17, 3) := by decide +kernel
theorem dX3_isOnlyFalse_49 : decode cX3_isOnlyFalse 49 = .ok (.aload_n 0, 1) := by decide +kernel
theorem dX3_isOnlyFalse_50 : decode cX3_isOnlyFalse 50 = .ok (.getfield 9, 3) := by decide +kernel
theorem dX3_isOnlyFalse_53 : decode cX3_isOnlyFalse 53 = .ok (.iload 4, 2) := by decide +kernel
theorem dX3_isOnlyFalse_55 : decode cX3_isOnlyFalse 55 = .ok (.iaload, 1) := by decide +kernel
theorem dX3_isOnlyFalse_56 : decode cX3_isOnlyFalse 56 = .ok (.iload 5, 2) := by decide +kernel
theorem dX3_isOnlyFalse_58 : decode cX3_isOnlyFalse 58 = .ok (.if_icmp .eq 44, 3) := by decide +kernel
theorem dX3_isOnlyFalse_61 : decode cX3_isOnlyFalse 61 = .ok (.iconst 0, 1) := by decide +kernel
theorem dX3_isOnlyFalse_62 : decode cX3_isOnlyFalse 62 = .ok (.ireturn, 1) := by decide +kernel
theorem dX3_isOnlyFalse_63 : decode cX3_isOnlyFalse 63 = .ok (.aload_n 0, 1) := by decide +kernel
theorem dX3_isOnlyFalse_64 : decode cX3_isOnlyFalse 64 = .ok (.getfield 9, 3) := by decide +kernel
theorem dX3_isOnlyFalse_67 : decode cX3_isOnlyFalse 67 = .ok (.iload 4, 2) := by decide +kernel
theorem dX3_isOnlyFalse_69 : decode cX3_isOnlyFalse 69 = .ok (.iaload, 1) := by decide +kernel
theorem dX3_isOnlyFalse_70 : decode cX3_isOnlyFalse 70 = .ok (.iload 5, 2) := by decide +kernel
theorem dX3_isOnlyFalse_72 : decode cX3_isOnlyFalse 72 = .ok (.if_icmp .eq 20, 3) := by decide +kernel
theorem dX3_isOnlyFalse_75 : decode cX3_isOnlyFalse 75 = .ok (.iload_n 3, 1) := by decide +kernel
theorem dX3_isOnlyFalse_76 : decode cX3_isOnlyFalse 76 = .ok (.bipush (-9), 2) := by decide +kernel
theorem dX3_isOnlyFalse_78 : decode cX3_isOnlyFalse 78 = .ok (.if_icmp .eq 16, 3) := by decide +kernel
theorem dX3_isOnlyFalse_81 : decode cX3_isOnlyFalse 81 = .ok (.aload_n 0, 1) := by decide +kernel
theorem dX3_isOnlyFalse_82 : decode cX3_isOnlyFalse 82 = .ok (.getfield 9, 3) := by decide +kernel
theorem dX3_isOnlyFalse_85 : decode cX3_isOnlyFalse 85 = .ok (.iload 4, 2) := by decide +kernel
theorem dX3_isOnlyFalse_87 : decode cX3_isOnlyFalse 87 = .ok (.iaload, 1) := by decide +kernel
theorem dX3_isOnlyFalse_88 : decode cX3_isOnlyFalse 88 = .ok (.iload_n 3, 1) := by decide +kernel
theorem dX3_isOnlyFalse_89 : decode cX3_isOnlyFalse 89 = .ok (.if_icmp .eq 5, 3) := by decide +kernel
theorem dX3_isOnlyFalse_92 : decode cX3_isOnlyFalse 92 = .ok (.iconst 0, 1) := by decide +kernel
theorem dX3_isOnlyFalse_93 : decode cX3_isOnlyFalse 93 = .ok (.ireturn, 1) := by decide +kernel

theorem dX3_isOnlyFalse_94 : decode cX3_isOnlyFalse 94 = .ok (.aload_n 0, 1) := by decide +kernel
theorem dX3_isOnlyFalse_95 : decode cX3_isOnlyFalse 95 = .ok (.getfield 9, 3) := by decide +kernel
theorem dX3_isOnlyFalse_98 : decode cX3_isOnlyFalse 98 = .ok (.iload 4, 2) := by decide +kernel
theorem dX3_isOnlyFalse_100 : decode cX3_isOnlyFalse 100 = .ok (.iaload, 1) := by decide +kernel
theorem dX3_isOnlyFalse_101 : decode cX3_isOnlyFalse 101 = .ok (.istore_n 3, 1) := by decide +kernel
theorem dX3_isOnlyFalse_102 : decode cX3_isOnlyFalse 102 = .ok (.iinc 4 1, 3) := by decide +kernel
theorem dX3_isOnlyFalse_105 : decode cX3_isOnlyFalse 105 = .ok (.goto (-99), 3) := by decide +kernel
theorem dX3_isOnlyFalse_108 : decode cX3_isOnlyFalse 108 = .ok (.iload_n 3, 1) := by decide +kernel
theorem dX3_isOnlyFalse_109 : decode cX3_isOnlyFalse 109 = .ok (.bipush (-9), 2) := by decide +kernel
theorem dX3_isOnlyFalse_111 : decode cX3_isOnlyFalse 111 = .ok (.if_icmp .eq 7, 3) := by decide +kernel
theorem dX3_isOnlyFalse_114 : decode cX3_isOnlyFalse 114 = .ok (.iconst 1, 1) := by decide +kernel
theorem dX3_isOnlyFalse_115 : decode cX3_isOnlyFalse 115 = .ok (.goto 4, 3) := by decide +kernel
theorem dX3_isOnlyFalse_118 : decode cX3_isOnlyFalse 118 = .ok (.iconst 0, 1) := by decide +kernel
theorem dX3_isOnlyFalse_119 : decode cX3_isOnlyFalse 119 = .ok (.ireturn, 1) := by decide +kernel
theorem dX4_init_0 : decode cX4_init 0 = .ok (.aload_n 0, 1) := by decide +kernel
theorem dX4_init_1 : decode cX4_init 1 = .ok (.invokespecial 3, 3) := by decide +kernel
theorem dX4_init_4 : decode cX4_init 4 = .ok (.aload_n 0, 1) := by decide +kernel
theorem dX4_init_5 : decode cX4_init 5 = .ok (.bipush 7, 2) := by decide +kernel
theorem dX4_init_7 : decode cX4_init 7 = .ok (.newarray .int, 2) := by decide +kernel
theorem dX4_init_9 : decode cX4_init 9 = .ok (.putfield 9, 3) := by decide +kernel
theorem dX4_init_12 : decode cX4_init 12 = .ok (.aload_n 0, 1) := by decide +kernel
theorem dX4_init_13 : decode cX4_init 13 = .ok (.bipush 9, 2) := by decide +kernel
theorem dX4_init_15 : decode cX4_init 15 = .ok (.newarray .int, 2) := by decide +kernel
theorem dX4_init_17 : decode cX4_init 17 = .ok (.putfield 15, 3) := by decide +kernel
theorem dX4_init_20 : decode cX4_init 20 = .ok (.aload_n 0, 1) := by decide +kernel
theorem dX4_init_21 : decode cX4_init 21 = .ok (.bipush 9, 2) := by decide +kernel
theorem dX4_init_23 : decode cX4_init 23 = .ok (.newarray .int, 2) := by decide +kernel
theorem dX4_init_25 : decode cX4_init 25 = .ok (.putfield 18, 3) := by decide +kernel
theorem dX4_init_28 : decode cX4_init 28 = .ok (.aload_n 0, 1) := by decide +kernel
theorem dX4_init_29 : decode cX4_init 29 = .ok (.bipush 9, 2) := by decide +kernel
theorem dX4_init_31 : decode cX4_init 31 = .ok (.newarray .int, 2) := by decide +kernel
theorem dX4_init_33 : decode cX4_init 33 = .ok (.putfield 21, 3) := by decide +kernel
theorem dX4_init_36 : decode cX4_init 36 = .ok (.aload_n 0, 1) := by decide +kernel
theorem dX4_init_37 : decode cX4_init 37 = .ok (.iconst 4, 1) := by decide +kernel
theorem dX4_init_38 : decode cX4_init 38 = .ok (.newarray .int, 2) := by decide +kernel
theorem dX4_init_40 : decode cX4_init 40 = .ok (.putfield 24, 3) := by decide +kernel
theorem dX4_init_43 : decode cX4_init 43 = .ok (.aload_n 0, 1) := by decide +kernel
theorem dX4_init_44 : decode cX4_init 44 = .ok (.iconst 4, 1) := by decide +kernel
theorem dX4_init_45 : decode cX4_init 45 = .ok (.newarray .int, 2) := by decide +kernel
theorem dX4_init_47 : decode cX4_init 47 = .ok (.putfield 27, 3) := by decide +kernel
theorem dX4_init_50 : decode cX4_init 50 = .ok (.aload_n 0, 1) := by decide +kernel
theorem dX4_init_51 : decode cX4_init 51 = .ok (.iconst 4, 1) := by decide +kernel
theorem dX4_init_52 : decode cX4_init 52 = .ok (.newarray .int, 2) := by decide +kernel
theorem dX4_init_54 : decode cX4_init 54 = .ok (.putfield 30, 3) := by decide +kernel
theorem dX4_init_57 : decode cX4_init 57 = .ok (.aload_n 0, 1) := by decide +kernel
theorem dX4_init_58 : decode cX4_init 58 = .ok (.iconst 4, 1) := by decide +kernel
theorem dX4_init_59 : decode cX4_init 59 = .ok (.newarray .int, 2) := by decide +kernel
theorem dX4_init_61 : decode cX4_init 61 = .ok (.putfield 33, 3) := by decide +kernel
theorem dX4_init_64 : decode cX4_init 64 = .ok (.aload_n 0, 1) := by decide +kernel
theorem dX4_init_65 : decode cX4_init 65 = .ok (.bipush 8, 2) := by decide +kernel
theorem dX4_init_67 : decode cX4_init 67 = .ok (.newarray .int, 2) := by decide +kernel
theorem dX4_init_69 : decode cX4_init 69 = .ok (.putfield 36, 3) := by decide +kernel
theorem dX4_init_72 : decode cX4_init 72 = .ok (.aload_n 0, 1) := by decide +kernel
theorem dX4_init_73 : decode cX4_init 73 = .ok (.iconst 1, 1) := by decide +kernel
theorem dX4_init_74 : decode cX4_init 74 = .ok (.putfield 39, 3) := by decide +kernel
theorem dX4_init_77 : decode cX4_init 77 = .ok (.return_, 1) := by decide +kernel
theorem dX4_empty_0 : decode cX4_empty 0 = .ok (.aload_n 0, 1) := by decide +kernel
theorem dX4_empty_1 : decode cX4_empty 1 = .ok (.iconst 0, 1) := by decide +kernel
theorem dX4_empty_2 : decode cX4_empty 2 = .ok (.putfield 43, 3) := by decide +kernel
theorem dX4_empty_5 : decode cX4_empty 5 = .ok (.aload_n 0, 1) := by decide +kernel
theorem dX4_empty_6 : decode cX4_empty 6 = .ok (.iconst 0, 1) := by decide +kernel
theorem dX4_empty_7 : decode cX4_empty 7 = .ok (.putfield 46, 3) := by decide +kernel
theorem dX4_empty_10 : decode cX4_empty 10 = .ok (.aload_n 0, 1) := by decide +kernel
theorem dX4_empty_11 : decode cX4_empty 11 = .ok (.iconst 0, 1) := by decide +kernel
theorem dX4_empty_12 : decode cX4_empty 12 = .ok (.putfield 49, 3) := by decide +kernel
theorem dX4_empty_15 : decode cX4_empty 15 = .ok (.aload_n 0, 1) := by decide +kernel
theorem dX4_empty_16 : decode cX4_empty 16 = .ok (.iconst 0, 1) := by decide +kernel
theorem dX4_empty_17 : decode cX4_empty 17 = .ok (.putfield 52, 3) := by decide +kernel
theorem dX4_empty_20 : decode cX4_empty 20 = .ok (.aload_n 0, 1) := by decide +kernel
theorem dX4_empty_21 : decode cX4_empty 21 = .ok (.iconst 1, 1) := by decide +kernel
theorem dX4_empty_22 : decode cX4_empty 22 = .ok (.putfield 39, 3) := by decide +kernel
theorem dX4_empty_25 : decode cX4_empty 25 = .ok (.aload_n 0, 1) := by decide +kernel
theorem dX4_empty_26 : decode cX4_empty 26 = .ok (.iconst 0, 1) := by decide +kernel
theorem dX4_empty_27 : decode cX4_empty 27 = .ok (.putfield 55, 3) := by decide +kernel
theorem dX4_empty_30 : decode cX4_empty 30 = .ok (.return_, 1) := by decide +kernel
theorem dX4_dropWhatIsNotThere_0 : decode cX4_dropWhatIsNotThere 0 = .ok (.iconst 0, 1) := by decide +kernel
theorem dX4_dropWhatIsNotThere_1 : decode cX4_dropWhatIsNotThere 1 = .ok (.istore_n 1, 1) := by decide +kernel
theorem dX4_dropWhatIsNotThere_2 : decode cX4_dropWhatIsNotThere 2 = .ok (.iload_n 1, 1) := by decide +kernel
theorem dX4_dropWhatIsNotThere_3 : decode cX4_dropWhatIsNotThere 3 = .ok (.aload_n 0, 1) := by decide +kernel
theorem dX4_dropWhatIsNotThere_4 : decode cX4_dropWhatIsNotThere 4 = .ok (.getfield 49, 3) := by decide +kernel
theorem dX4_dropWhatIsNotThere_7 : decode cX4_dropWhatIsNotThere 7 = .ok (.if_icmp .ge 43, 3) := by decide +kernel
theorem dX4_dropWhatIsNotThere_10 : decode cX4_dropWhatIsNotThere 10 = .ok (.aload_n 0, 1) := by decide +kernel
theorem dX4_dropWhatIsNotThere_11 : decode cX4_dropWhatIsNotThere 11 = .ok (.getfield 30, 3) := by decide +kernel
theorem dX4_dropWhatIsNotThere_14 : decode cX4_dropWhatIsNotThere 14 = .ok (.iload_n 1, 1) := by decide +kernel
theorem dX4_dropWhatIsNotThere_15 : decode cX4_dropWhatIsNotThere 15 = .ok (.dup2, 1) := by decide +kernel
theorem dX4_dropWhatIsNotThere_16 : decode cX4_dropWhatIsNotThere 16 = .ok (.iaload, 1) := by decide +kernel
theorem dX4_dropWhatIsNotThere_17 : decode cX4_dropWhatIsNotThere 17 = .ok (.iconst 1, 1) := by decide +kernel
theorem dX4_dropWhatIsNotThere_18 : decode cX4_dropWhatIsNotThere 18 = .ok (.aload_n 0, 1) := by decide +kernel
theorem dX4_dropWhatIsNotThere_19 : decode cX4_dropWhatIsNotThere 19 = .ok (.getfield 46, 3) := by decide +kernel
theorem dX4_dropWhatIsNotThere_22 : decode cX4_dropWhatIsNotThere 22 = .ok (.ishl, 1) := by decide +kernel
theorem dX4_dropWhatIsNotThere_23 : decode cX4_dropWhatIsNotThere 23 = .ok (.iconst 1, 1) := by decide +kernel
theorem dX4_dropWhatIsNotThere_24 : decode cX4_dropWhatIsNotThere 24 = .ok (.isub, 1) := by decide +kernel
theorem dX4_dropWhatIsNotThere_25 : decode cX4_dropWhatIsNotThere 25 = .ok (.iand, 1) := by decide +kernel
theorem dX4_dropWhatIsNotThere_26 : decode cX4_dropWhatIsNotThere 26 = .ok (.iastore, 1) := by decide +kernel
theorem dX4_dropWhatIsNotThere_27 : decode cX4_dropWhatIsNotThere 27 = .ok (.aload_n 0, 1) := by decide +kernel
theorem dX4_dropWhatIsNotThere_28 : decode cX4_dropWhatIsNotThere 28 = .ok (.getfield 33, 3) := by decide +kernel
theorem dX4_dropWhatIsNotThere_31 : decode cX4_dropWhatIsNotThere 31 = .ok (.iload_n 1, 1) := by decide +kernel
theorem dX4_dropWhatIsNotThere_32 : decode cX4_dropWhatIsNotThere 32 = .ok (.dup2, 1) := by decide +kernel
theorem dX4_dropWhatIsNotThere_33 : decode cX4_dropWhatIsNotThere 33 = .ok (.iaload, 1) := by decide +kernel
theorem dX4_dropWhatIsNotThere_34 : decode cX4_dropWhatIsNotThere 34 = .ok (.iconst 1, 1) := by decide +kernel
theorem dX4_dropWhatIsNotThere_35 : decode cX4_dropWhatIsNotThere 35 = .ok (.aload_n 0, 1) := by decide +kernel
theorem dX4_dropWhatIsNotThere_36 : decode cX4_dropWhatIsNotThere 36 = .ok (.getfield 43, 3) := by decide +kernel
theorem dX4_dropWhatIsNotThere_39 : decode cX4_dropWhatIsNotThere 39 = .ok (.ishl, 1) := by decide +kernel
theorem dX4_dropWhatIsNotThere_40 : decode cX4_dropWhatIsNotThere 40 = .ok (.iconst 1, 1) := by decide +kernel
theorem dX4_dropWhatIsNotThere_41 : decode cX4_dropWhatIsNotThere 41 = .ok (.isub, 1) := by decide +kernel
theorem dX4_dropWhatIsNotThere_42 : decode cX4_dropWhatIsNotThere 42 = .ok (.iand, 1) := by decide +kernel
theorem dX4_dropWhatIsNotThere_43 : decode cX4_dropWhatIsNotThere 43 = .ok (.iastore, 1) := by decide +kernel
theorem dX4_dropWhatIsNotThere_44 : decode cX4_dropWhatIsNotThere 44 = .ok (.iinc 1 1, 3) := by decide +kernel
theorem dX4_dropWhatIsNotThere_47 : decode cX4_dropWhatIsNotThere 47 = .ok (.goto (-45), 3) := by decide +kernel
theorem dX4_dropWhatIsNotThere_50 : decode cX4_dropWhatIsNotThere 50 = .ok (.return_, 1) := by decide +kernel
theorem dX4_hasCorner_0 : decode cX4_hasCorner 0 = .ok (.iload_n 1, 1) := by decide +kernel
theorem dX4_hasCorner_1 : decode cX4_hasCorner 1 = .ok (.ifCond .lt 15, 3) := by decide +kernel
theorem dX4_hasCorner_4 : decode cX4_hasCorner 4 = .ok (.iload_n 1, 1) := by decide +kernel
theorem dX4_hasCorner_5 : decode cX4_hasCorner 5 = .ok (.aload_n 0, 1) := by decide +kernel
theorem dX4_hasCorner_6 : decode cX4_hasCorner 6 = .ok (.getfield 43, 3) := by decide +kernel
theorem dX4_hasCorner_9 : decode cX4_hasCorner 9 = .ok (.if_icmp .ge 7, 3) := by decide +kernel
theorem dX4_hasCorner_12 : decode cX4_hasCorner 12 = .ok (.iconst 1, 1) := by decide +kernel
theorem dX4_hasCorner_13 : decode cX4_hasCorner 13 = .ok (.goto 4, 3) := by decide +kernel
theorem dX4_hasCorner_16 : decode cX4_hasCorner 16 = .ok (.iconst 0, 1) := by decide +kernel
theorem dX4_hasCorner_17 : decode cX4_hasCorner 17 = .ok (.ireturn, 1) := by decide +kernel
theorem dX4_hasStreet_0 : decode cX4_hasStreet 0 = .ok (.iload_n 1, 1) := by decide +kernel
theorem dX4_hasStreet_1 : decode cX4_hasStreet 1 = .ok (.ifCond .lt 15, 3) := by decide +kernel
theorem dX4_hasStreet_4 : decode cX4_hasStreet 4 = .ok (.iload_n 1, 1) := by decide +kernel
theorem dX4_hasStreet_5 : decode cX4_hasStreet 5 = .ok (.aload_n 0, 1) := by decide +kernel
theorem dX4_hasStreet_6 : decode cX4_hasStreet 6 = .ok (.getfield 46, 3) := by decide +kernel
theorem dX4_hasStreet_9 : decode cX4_hasStreet 9 = .ok (.if_icmp .ge 7, 3) := by decide +kernel
theorem dX4_hasStreet_12 : decode cX4_hasStreet 12 = .ok (.iconst 1, 1) := by decide +kernel
theorem dX4_hasStreet_13 : decode cX4_hasStreet 13 = .ok (.goto 4, 3) := by decide +kernel
theorem dX4_hasStreet_16 : decode cX4_hasStreet 16 = .ok (.iconst 0, 1) := by decide +kernel
theorem dX4_hasStreet_17 : decode cX4_hasStreet 17 = .ok (.ireturn, 1) := by decide +kernel
theorem dX4_hasGuide_0 : decode cX4_hasGuide 0 = .ok (.iload_n 1, 1) := by decide +kernel
theorem dX4_hasGuide_1 : decode cX4_hasGuide 1 = .ok (.ifCond .lt 15, 3) := by decide +kernel
theorem dX4_hasGuide_4 : decode cX4_hasGuide 4 = .ok (.iload_n 1, 1) := by decide +kernel
theorem dX4_hasGuide_5 : decode cX4_hasGuide 5 = .ok (.aload_n 0, 1) := by decide +kernel
theorem dX4_hasGuide_6 : decode cX4_hasGuide 6 = .ok (.getfield 49, 3) := by decide +kernel
theorem dX4_hasGuide_9 : decode cX4_hasGuide 9 = .ok (.if_icmp .ge 7, 3) := by decide +kernel
theorem dX4_hasGuide_12 : decode cX4_hasGuide 12 = .ok (.iconst 1, 1) := by decide +kernel
theorem dX4_hasGuide_13 : decode cX4_hasGuide 13 = .ok (.goto 4, 3) := by decide +kernel
theorem dX4_hasGuide_16 : decode cX4_hasGuide 16 = .ok (.iconst 0, 1) := by decide +kernel
theorem dX4_hasGuide_17 : decode cX4_hasGuide 17 = .ok (.ireturn, 1) := by decide +kernel
set_option maxRecDepth 20000 in
theorem ggX4_isHis_X4_hasGuide : GoodIn wsX4_isHis wsX4_hasGuide := goodIn_r _ [6, 7, 13, 14, 15, 16, 17, 18, 19, 20, 21, 22, 23, 24, 25, 26, 27] (by decide +kernel) (by decide +kernel)
set_option maxRecDepth 20000 in
theorem gX4_isHis_X4_hasGuide : GoodIn wsX4_isHis (wsV RX4 59 RX4 yX4_hasGuide wsX4_hasGuide) := goodIn_app (goodIn_of _ (by decide +kernel)) ggX4_isHis_X4_hasGuide
set_option maxRecDepth 20000 in
theorem ggX4_isHis_X4_hasCorner : GoodIn wsX4_isHis wsX4_hasCorner := goodIn_r _ [11, 12, 13, 14, 15, 16, 17, 18, 19, 20, 21, 22, 23, 24, 25, 26, 27] (by decide +kernel) (by decide +kernel)
set_option maxRecDepth 20000 in
theorem gX4_isHis_X4_hasCorner : GoodIn wsX4_isHis (wsV RX4 63 RX4 yX4_hasCorner wsX4_hasCorner) := goodIn_app (goodIn_of _ (by decide +kernel)) ggX4_isHis_X4_hasCorner
theorem dX4_isHis_0 : decode cX4_isHis 0 = .ok (.aload_n 0, 1) := by decide +kernel
theorem dX4_isHis_1 : decode cX4_isHis 1 = .ok (.iload_n 1, 1) := by decide +kernel
theorem dX4_isHis_2 : decode cX4_isHis 2 = .ok (.invokevirtual 59, 3) := by decide +kernel
theorem dX4_isHis_5 : decode cX4_isHis 5 = .ok (.ifCond .eq 29, 3) := by decide +kernel
theorem dX4_isHis_8 : decode cX4_isHis 8 = .ok (.aload_n 0, 1) := by decide +kernel
theorem dX4_isHis_9 : decode cX4_isHis 9 = .ok (.iload_n 2, 1) := by decide +kernel
theorem dX4_isHis_10 : decode cX4_isHis 10 = .ok (.invokevirtual 63, 3) := by decide +kernel
theorem dX4_isHis_13 : decode cX4_isHis 13 = .ok (.ifCond .eq 21, 3) := by decide +kernel
theorem dX4_isHis_16 : decode cX4_isHis 16 = .ok (.aload_n 0, 1) := by decide +kernel
theorem dX4_isHis_17 : decode cX4_isHis 17 = .ok (.getfield 33, 3) := by decide +kernel
theorem dX4_isHis_20 : decode cX4_isHis 20 = .ok (.iload_n 1, 1) := by decide +kernel
theorem dX4_isHis_21 : decode cX4_isHis 21 = .ok (.iaload, 1) := by decide +kernel
theorem dX4_isHis_22 : decode cX4_isHis 22 = .ok (.iload_n 2, 1) := by decide +kernel
theorem dX4_isHis_23 : decode cX4_isHis 23 = .ok (.ishr, 1) := by decide +kernel
theorem dX4_isHis_24 : decode cX4_isHis 24 = .ok (.iconst 1, 1) := by decide +kernel
theorem dX4_isHis_25 : decode cX4_isHis 25 = .ok (.iand, 1) := by decide +kernel
theorem dX4_isHis_26 : decode cX4_isHis 26 = .ok (.iconst 1, 1) := by decide +kernel
theorem dX4_isHis_27 : decode cX4_isHis 27 = .ok (.if_icmp .ne 7, 3) := by decide +kernel
theorem dX4_isHis_30 : decode cX4_isHis 30 = .ok (.iconst 1, 1) := by decide +kernel
theorem dX4_isHis_31 : decode cX4_isHis 31 = .ok (.goto 4, 3) := by decide +kernel
theorem dX4_isHis_34 : decode cX4_isHis 34 = .ok (.iconst 0, 1) := by decide +kernel
theorem dX4_isHis_35 : decode cX4_isHis 35 = .ok (.ireturn, 1) := by decide +kernel
set_option maxRecDepth 20000 in
theorem ggX4_knowsStreet_X4_hasGuide : GoodIn wsX4_knowsStreet wsX4_hasGuide := goodIn_r _ [6, 7, 13, 14, 15, 16, 17, 18, 19, 20, 21, 22, 23, 24, 25, 26, 27] (by decide +kernel) (by decide +kernel)
set_option maxRecDepth 20000 in
theorem gX4_knowsStreet_X4_hasGuide : GoodIn wsX4_knowsStreet (wsV RX4 59 RX4 yX4_hasGuide wsX4_hasGuide) := goodIn_app (goodIn_of _ (by decide +kernel)) ggX4_knowsStreet_X4_hasGuide
set_option maxRecDepth 20000 in
theorem ggX4_knowsStreet_X4_hasStreet : GoodIn wsX4_knowsStreet wsX4_hasStreet := goodIn_r _ [11, 12, 13, 14, 15, 16, 17, 18, 19, 20, 21, 22, 23, 24, 25, 26, 27] (by decide +kernel) (by decide +kernel)
set_option maxRecDepth 20000 in
theorem gX4_knowsStreet_X4_hasStreet : GoodIn wsX4_knowsStreet (wsV RX4 66 RX4 yX4_hasStreet wsX4_hasStreet) := goodIn_app (goodIn_of _ (by decide +kernel)) ggX4_knowsStreet_X4_hasStreet
theorem dX4_knowsStreet_0 : decode cX4_knowsStreet 0 = .ok (.aload_n 0, 1) := by decide +kernel
theorem dX4_knowsStreet_1 : decode cX4_knowsStreet 1 = .ok (.iload_n 1, 1) := by decide +kernel
theorem dX4_knowsStreet_2 : decode cX4_knowsStreet 2 = .ok (.invokevirtual 59, 3) := by decide +kernel
theorem dX4_knowsStreet_5 : decode cX4_knowsStreet 5 = .ok (.ifCond .eq 29, 3) := by decide +kernel
theorem dX4_knowsStreet_8 : decode cX4_knowsStreet 8 = .ok (.aload_n 0, 1) := by decide +kernel
theorem dX4_knowsStreet_9 : decode cX4_knowsStreet 9 = .ok (.iload_n 2, 1) := by decide +kernel
theorem dX4_knowsStreet_10 : decode cX4_knowsStreet 10 = .ok (.invokevirtual 66, 3) := by decide +kernel
theorem dX4_knowsStreet_13 : decode cX4_knowsStreet 13 = .ok (.ifCond .eq 21, 3) := by decide +kernel
theorem dX4_knowsStreet_16 : decode cX4_knowsStreet 16 = .ok (.aload_n 0, 1) := by decide +kernel
theorem dX4_knowsStreet_17 : decode cX4_knowsStreet 17 = .ok (.getfield 30, 3) := by decide +kernel
theorem dX4_knowsStreet_20 : decode cX4_knowsStreet 20 = .ok (.iload_n 1, 1) := by decide +kernel
theorem dX4_knowsStreet_21 : decode cX4_knowsStreet 21 = .ok (.iaload, 1) := by decide +kernel
theorem dX4_knowsStreet_22 : decode cX4_knowsStreet 22 = .ok (.iload_n 2, 1) := by decide +kernel
theorem dX4_knowsStreet_23 : decode cX4_knowsStreet 23 = .ok (.ishr, 1) := by decide +kernel
theorem dX4_knowsStreet_24 : decode cX4_knowsStreet 24 = .ok (.iconst 1, 1) := by decide +kernel
theorem dX4_knowsStreet_25 : decode cX4_knowsStreet 25 = .ok (.iand, 1) := by decide +kernel
theorem dX4_knowsStreet_26 : decode cX4_knowsStreet 26 = .ok (.iconst 1, 1) := by decide +kernel
theorem dX4_knowsStreet_27 : decode cX4_knowsStreet 27 = .ok (.if_icmp .ne 7, 3) := by decide +kernel
theorem dX4_knowsStreet_30 : decode cX4_knowsStreet 30 = .ok (.iconst 1, 1) := by decide +kernel
theorem dX4_knowsStreet_31 : decode cX4_knowsStreet 31 = .ok (.goto 4, 3) := by decide +kernel
theorem dX4_knowsStreet_34 : decode cX4_knowsStreet 34 = .ok (.iconst 0, 1) := by decide +kernel
theorem dX4_knowsStreet_35 : decode cX4_knowsStreet 35 = .ok (.ireturn, 1) := by decide +kernel
theorem dX4_isAt_0 : decode cX4_isAt 0 = .ok (.aload_n 0, 1) := by decide +kernel
theorem dX4_isAt_1 : decode cX4_isAt 1 = .ok (.getfield 15, 3) := by decide +kernel
theorem dX4_isAt_4 : decode cX4_isAt 4 = .ok (.iload_n 1, 1) := by decide +kernel
theorem dX4_isAt_5 : decode cX4_isAt 5 = .ok (.iaload, 1) := by decide +kernel
theorem dX4_isAt_6 : decode cX4_isAt 6 = .ok (.iload_n 2, 1) := by decide +kernel
theorem dX4_isAt_7 : decode cX4_isAt 7 = .ok (.if_icmp .eq 13, 3) := by decide +kernel
theorem dX4_isAt_10 : decode cX4_isAt 10 = .ok (.aload_n 0, 1) := by decide +kernel
theorem dX4_isAt_11 : decode cX4_isAt 11 = .ok (.getfield 18, 3) := by decide +kernel
theorem dX4_isAt_14 : decode cX4_isAt 14 = .ok (.iload_n 1, 1) := by decide +kernel
theorem dX4_isAt_15 : decode cX4_isAt 15 = .ok (.iaload, 1) := by decide +kernel
theorem dX4_isAt_16 : decode cX4_isAt 16 = .ok (.iload_n 2, 1) := by decide +kernel
theorem dX4_isAt_17 : decode cX4_isAt 17 = .ok (.if_icmp .ne 7, 3) := by decide +kernel
theorem dX4_isAt_20 : decode cX4_isAt 20 = .ok (.iconst 1, 1) := by decide +kernel
theorem dX4_isAt_21 : decode cX4_isAt 21 = .ok (.goto 4, 3) := by decide +kernel
theorem dX4_isAt_24 : decode cX4_isAt 24 = .ok (.iconst 0, 1) := by decide +kernel
theorem dX4_isAt_25 : decode cX4_isAt 25 = .ok (.ireturn, 1) := by decide +kernel
theorem dX4_acrossFrom_0 : decode cX4_acrossFrom 0 = .ok (.aload_n 0, 1) := by decide +kernel
theorem dX4_acrossFrom_1 : decode cX4_acrossFrom 1 = .ok (.getfield 15, 3) := by decide +kernel
theorem dX4_acrossFrom_4 : decode cX4_acrossFrom 4 = .ok (.iload_n 1, 1) := by decide +kernel
theorem dX4_acrossFrom_5 : decode cX4_acrossFrom 5 = .ok (.iaload, 1) := by decide +kernel
theorem dX4_acrossFrom_6 : decode cX4_acrossFrom 6 = .ok (.iload_n 2, 1) := by decide +kernel
theorem dX4_acrossFrom_7 : decode cX4_acrossFrom 7 = .ok (.if_icmp .ne 12, 3) := by decide +kernel
theorem dX4_acrossFrom_10 : decode cX4_acrossFrom 10 = .ok (.aload_n 0, 1) := by decide +kernel
theorem dX4_acrossFrom_11 : decode cX4_acrossFrom 11 = .ok (.getfield 18, 3) := by decide +kernel
theorem dX4_acrossFrom_14 : decode cX4_acrossFrom 14 = .ok (.iload_n 1, 1) := by decide +kernel
theorem dX4_acrossFrom_15 : decode cX4_acrossFrom 15 = .ok (.iaload, 1) := by decide +kernel
theorem dX4_acrossFrom_16 : decode cX4_acrossFrom 16 = .ok (.goto 9, 3) := by decide +kernel
theorem dX4_acrossFrom_19 : decode cX4_acrossFrom 19 = .ok (.aload_n 0, 1) := by decide +kernel
theorem dX4_acrossFrom_20 : decode cX4_acrossFrom 20 = .ok (.getfield 15, 3) := by decide +kernel
theorem dX4_acrossFrom_23 : decode cX4_acrossFrom 23 = .ok (.iload_n 1, 1) := by decide +kernel
theorem dX4_acrossFrom_24 : decode cX4_acrossFrom 24 = .ok (.iaload, 1) := by decide +kernel
theorem dX4_acrossFrom_25 : decode cX4_acrossFrom 25 = .ok (.ireturn, 1) := by decide +kernel
theorem dX4_ledMinutes_0 : decode cX4_ledMinutes 0 = .ok (.aload_n 0, 1) := by decide +kernel
theorem dX4_ledMinutes_1 : decode cX4_ledMinutes 1 = .ok (.getfield 21, 3) := by decide +kernel
theorem dX4_ledMinutes_4 : decode cX4_ledMinutes 4 = .ok (.iload_n 2, 1) := by decide +kernel
theorem dX4_ledMinutes_5 : decode cX4_ledMinutes 5 = .ok (.iaload, 1) := by decide +kernel
theorem dX4_ledMinutes_6 : decode cX4_ledMinutes 6 = .ok (.aload_n 0, 1) := by decide +kernel
theorem dX4_ledMinutes_7 : decode cX4_ledMinutes 7 = .ok (.getfield 24, 3) := by decide +kernel
theorem dX4_ledMinutes_10 : decode cX4_ledMinutes 10 = .ok (.iload_n 1, 1) := by decide +kernel
theorem dX4_ledMinutes_11 : decode cX4_ledMinutes 11 = .ok (.iaload, 1) := by decide +kernel
theorem dX4_ledMinutes_12 : decode cX4_ledMinutes 12 = .ok (.iadd, 1) := by decide +kernel
theorem dX4_ledMinutes_13 : decode cX4_ledMinutes 13 = .ok (.ireturn, 1) := by decide +kernel
theorem dX4_isThick_0 : decode cX4_isThick 0 = .ok (.aload_n 0, 1) := by decide +kernel
theorem dX4_isThick_1 : decode cX4_isThick 1 = .ok (.getfield 52, 3) := by decide +kernel
theorem dX4_isThick_4 : decode cX4_isThick 4 = .ok (.iconst 1, 1) := by decide +kernel
theorem dX4_isThick_5 : decode cX4_isThick 5 = .ok (.if_icmp .lt 7, 3) := by decide +kernel
theorem dX4_isThick_8 : decode cX4_isThick 8 = .ok (.iload_n 1, 1) := by decide +kernel
theorem dX4_isThick_9 : decode cX4_isThick 9 = .ok (.ifCond .ge 5, 3) := by decide +kernel
theorem dX4_isThick_12 : decode cX4_isThick 12 = .ok (.iconst 1, 1) := by decide +kernel
theorem dX4_isThick_13 : decode cX4_isThick 13 = .ok (.ireturn, 1) := by decide +kernel
theorem dX4_isThick_14 : decode cX4_isThick 14 = .ok (.aload_n 0, 1) := by decide +kernel
theorem dX4_isThick_15 : decode cX4_isThick 15 = .ok (.getfield 36, 3) := by decide +kernel
theorem dX4_isThick_18 : decode cX4_isThick 18 = .ok (.iload_n 1, 1) := by decide +kernel
theorem dX4_isThick_19 : decode cX4_isThick 19 = .ok (.bipush 10, 2) := by decide +kernel
theorem dX4_isThick_21 : decode cX4_isThick 21 = .ok (.idiv, 1) := by decide +kernel
theorem dX4_isThick_22 : decode cX4_isThick 22 = .ok (.aload_n 0, 1) := by decide +kernel
theorem dX4_isThick_23 : decode cX4_isThick 23 = .ok (.getfield 52, 3) := by decide +kernel
theorem dX4_isThick_26 : decode cX4_isThick 26 = .ok (.irem, 1) := by decide +kernel
theorem dX4_isThick_27 : decode cX4_isThick 27 = .ok (.iaload, 1) := by decide +kernel
theorem dX4_isThick_28 : decode cX4_isThick 28 = .ok (.iconst 1, 1) := by decide +kernel
theorem dX4_isThick_29 : decode cX4_isThick 29 = .ok (.if_icmp .ne 7, 3) := by decide +kernel
theorem dX4_isThick_32 : decode cX4_isThick 32 = .ok (.iconst 1, 1) := by decide +kernel
theorem dX4_isThick_33 : decode cX4_isThick 33 = .ok (.goto 4, 3) := by decide +kernel
theorem dX4_isThick_36 : decode cX4_isThick 36 = .ok (.iconst 0, 1) := by decide +kernel
theorem dX4_isThick_37 : decode cX4_isThick 37 = .ok (.ireturn, 1) := by decide +kernel
set_option maxRecDepth 20000 in
theorem ggX4_thinFrom_X4_isThick : GoodIn wsX4_thinFrom wsX4_isThick := goodIn_r _ [5, 6, 7, 8, 9, 10, 11, 12, 13, 14, 15, 16, 17, 18, 19, 20, 21, 22] (by decide +kernel) (by decide +kernel)
set_option maxRecDepth 20000 in
theorem gX4_thinFrom_X4_isThick : GoodIn wsX4_thinFrom (wsV RX4 69 RX4 yX4_isThick wsX4_isThick) := goodIn_app (goodIn_of _ (by decide +kernel)) ggX4_thinFrom_X4_isThick
theorem dX4_thinFrom_0 : decode cX4_thinFrom 0 = .ok (.iconst 0, 1) := by decide +kernel
theorem dX4_thinFrom_1 : decode cX4_thinFrom 1 = .ok (.istore_n 2, 1) := by decide +kernel
theorem dX4_thinFrom_2 : decode cX4_thinFrom 2 = .ok (.iload_n 2, 1) := by decide +kernel
theorem dX4_thinFrom_3 : decode cX4_thinFrom 3 = .ok (.bipush 9, 2) := by decide +kernel
theorem dX4_thinFrom_5 : decode cX4_thinFrom 5 = .ok (.if_icmp .ge 19, 3) := by decide +kernel
theorem dX4_thinFrom_8 : decode cX4_thinFrom 8 = .ok (.aload_n 0, 1) := by decide +kernel
theorem dX4_thinFrom_9 : decode cX4_thinFrom 9 = .ok (.iload_n 1, 1) := by decide +kernel
theorem dX4_thinFrom_10 : decode cX4_thinFrom 10 = .ok (.iload_n 2, 1) := by decide +kernel
theorem dX4_thinFrom_11 : decode cX4_thinFrom 11 = .ok (.iadd, 1) := by decide +kernel
theorem dX4_thinFrom_12 : decode cX4_thinFrom 12 = .ok (.invokevirtual 69, 3) := by decide +kernel
theorem dX4_thinFrom_15 : decode cX4_thinFrom 15 = .ok (.ifCond .ne 9, 3) := by decide +kernel
theorem dX4_thinFrom_18 : decode cX4_thinFrom 18 = .ok (.iinc 2 1, 3) := by decide +kernel
theorem dX4_thinFrom_21 : decode cX4_thinFrom 21 = .ok (.goto (-19), 3) := by decide +kernel
theorem dX4_thinFrom_24 : decode cX4_thinFrom 24 = .ok (.iload_n 2, 1) := by decide +kernel
theorem dX4_thinFrom_25 : decode cX4_thinFrom 25 = .ok (.ireturn, 1) := by decide +kernel
set_option maxRecDepth 20000 in
theorem ggX4_nextTo_X4_isAt : GoodIn wsX4_nextTo wsX4_isAt := goodIn_r _ [6, 7, 8, 13, 14, 15, 16, 17, 18, 19, 20, 21, 22, 23, 24, 25, 26, 27] (by decide +kernel) (by decide +kernel)
set_option maxRecDepth 20000 in
theorem gX4_nextTo_X4_isAt : GoodIn wsX4_nextTo (wsV RX4 72 RX4 yX4_isAt wsX4_isAt) := goodIn_app (goodIn_of _ (by decide +kernel)) ggX4_nextTo_X4_isAt
set_option maxRecDepth 20000 in
theorem ggX4_nextTo_X4_acrossFrom : GoodIn wsX4_nextTo wsX4_acrossFrom := goodIn_r _ [12, 7, 8, 13, 14, 15, 16, 17, 18, 19, 20, 21, 22, 23, 24, 25, 26, 27] (by decide +kernel) (by decide +kernel)
set_option maxRecDepth 20000 in
theorem gX4_nextTo_X4_acrossFrom : GoodIn wsX4_nextTo (wsV RX4 76 RX4 yX4_acrossFrom wsX4_acrossFrom) := goodIn_app (goodIn_of _ (by decide +kernel)) ggX4_nextTo_X4_acrossFrom
theorem dX4_nextTo_0 : decode cX4_nextTo 0 = .ok (.iconst 0, 1) := by decide +kernel
theorem dX4_nextTo_1 : decode cX4_nextTo 1 = .ok (.istore_n 2, 1) := by decide +kernel
theorem dX4_nextTo_2 : decode cX4_nextTo 2 = .ok (.iconst 0, 1) := by decide +kernel
theorem dX4_nextTo_3 : decode cX4_nextTo 3 = .ok (.istore_n 3, 1) := by decide +kernel
theorem dX4_nextTo_4 : decode cX4_nextTo 4 = .ok (.iload_n 3, 1) := by decide +kernel
theorem dX4_nextTo_5 : decode cX4_nextTo 5 = .ok (.aload_n 0, 1) := by decide +kernel
theorem dX4_nextTo_6 : decode cX4_nextTo 6 = .ok (.getfield 46, 3) := by decide +kernel
theorem dX4_nextTo_9 : decode cX4_nextTo 9 = .ok (.if_icmp .ge 29, 3) := by decide +kernel
theorem dX4_nextTo_12 : decode cX4_nextTo 12 = .ok (.aload_n 0, 1) := by decide +kernel
theorem dX4_nextTo_13 : decode cX4_nextTo 13 = .ok (.iload_n 3, 1) := by decide +kernel
theorem dX4_nextTo_14 : decode cX4_nextTo 14 = .ok (.iload_n 1, 1) := by decide +kernel
theorem dX4_nextTo_15 : decode cX4_nextTo 15 = .ok (.invokevirtual 72, 3) := by decide +kernel
theorem dX4_nextTo_18 : decode cX4_nextTo 18 = .ok (.ifCond .eq 14, 3) := by decide +kernel
theorem dX4_nextTo_21 : decode cX4_nextTo 21 = .ok (.iload_n 2, 1) := by decide +kernel
theorem dX4_nextTo_22 : decode cX4_nextTo 22 = .ok (.iconst 1, 1) := by decide +kernel
theorem dX4_nextTo_23 : decode cX4_nextTo 23 = .ok (.aload_n 0, 1) := by decide +kernel
theorem dX4_nextTo_24 : decode cX4_nextTo 24 = .ok (.iload_n 3, 1) := by decide +kernel
theorem dX4_nextTo_25 : decode cX4_nextTo 25 = .ok (.iload_n 1, 1) := by decide +kernel
theorem dX4_nextTo_26 : decode cX4_nextTo 26 = .ok (.invokevirtual 76, 3) := by decide +kernel
theorem dX4_nextTo_29 : decode cX4_nextTo 29 = .ok (.ishl, 1) := by decide +kernel
theorem dX4_nextTo_30 : decode cX4_nextTo 30 = .ok (.ior, 1) := by decide +kernel
theorem dX4_nextTo_31 : decode cX4_nextTo 31 = .ok (.istore_n 2, 1) := by decide +kernel
theorem dX4_nextTo_32 : decode cX4_nextTo 32 = .ok (.iinc 3 1, 3) := by decide +kernel
theorem dX4_nextTo_35 : decode cX4_nextTo 35 = .ok (.goto (-31), 3) := by decide +kernel
theorem dX4_nextTo_38 : decode cX4_nextTo 38 = .ok (.iload_n 2, 1) := by decide +kernel
theorem dX4_nextTo_39 : decode cX4_nextTo 39 = .ok (.ireturn, 1) := by decide +kernel
theorem dX4_reachedBy_0 : decode cX4_reachedBy 0 = .ok (.iload_n 2, 1) := by decide +kernel
theorem dX4_reachedBy_1 : decode cX4_reachedBy 1 = .ok (.istore_n 3, 1) := by decide +kernel
theorem dX4_reachedBy_2 : decode cX4_reachedBy 2 = .ok (.iconst 0, 1) := by decide +kernel
theorem dX4_reachedBy_3 : decode cX4_reachedBy 3 = .ok (.istore 4, 2) := by decide +kernel
theorem dX4_reachedBy_5 : decode cX4_reachedBy 5 = .ok (.iload 4, 2) := by decide +kernel
theorem dX4_reachedBy_7 : decode cX4_reachedBy 7 = .ok (.bipush 7, 2) := by decide +kernel
theorem dX4_reachedBy_9 : decode cX4_reachedBy 9 = .ok (.if_icmp .ge 70, 3) := by decide +kernel
theorem dX4_reachedBy_12 : decode cX4_reachedBy 12 = .ok (.iconst 0, 1) := by decide +kernel
theorem dX4_reachedBy_13 : decode cX4_reachedBy 13 = .ok (.istore 5, 2) := by decide +kernel
theorem dX4_reachedBy_15 : decode cX4_reachedBy 15 = .ok (.iload 5, 2) := by decide +kernel
theorem dX4_reachedBy_17 : decode cX4_reachedBy 17 = .ok (.aload_n 0, 1) := by decide +kernel
theorem dX4_reachedBy_18 : decode cX4_reachedBy 18 = .ok (.getfield 46, 3) := by decide +kernel
theorem dX4_reachedBy_21 : decode cX4_reachedBy 21 = .ok (.if_icmp .ge 52, 3) := by decide +kernel
theorem dX4_reachedBy_24 : decode cX4_reachedBy 24 = .ok (.iconst 1, 1) := by decide +kernel
theorem dX4_reachedBy_25 : decode cX4_reachedBy 25 = .ok (.aload_n 0, 1) := by decide +kernel
theorem dX4_reachedBy_26 : decode cX4_reachedBy 26 = .ok (.getfield 15, 3) := by decide +kernel
theorem dX4_reachedBy_29 : decode cX4_reachedBy 29 = .ok (.iload 5, 2) := by decide +kernel
theorem dX4_reachedBy_31 : decode cX4_reachedBy 31 = .ok (.iaload, 1) := by decide +kernel
theorem dX4_reachedBy_32 : decode cX4_reachedBy 32 = .ok (.ishl, 1) := by decide +kernel
theorem dX4_reachedBy_33 : decode cX4_reachedBy 33 = .ok (.iconst 1, 1) := by decide +kernel
theorem dX4_reachedBy_34 : decode cX4_reachedBy 34 = .ok (.aload_n 0, 1) := by decide +kernel
theorem dX4_reachedBy_35 : decode cX4_reachedBy 35 = .ok (.getfield 18, 3) := by decide +kernel
theorem dX4_reachedBy_38 : decode cX4_reachedBy 38 = .ok (.iload 5, 2) := by decide +kernel
theorem dX4_reachedBy_40 : decode cX4_reachedBy 40 = .ok (.iaload, 1) := by decide +kernel
theorem dX4_reachedBy_41 : decode cX4_reachedBy 41 = .ok (.ishl, 1) := by decide +kernel
theorem dX4_reachedBy_42 : decode cX4_reachedBy 42 = .ok (.ior, 1) := by decide +kernel
theorem dX4_reachedBy_43 : decode cX4_reachedBy 43 = .ok (.istore 6, 2) := by decide +kernel
theorem dX4_reachedBy_45 : decode cX4_reachedBy 45 = .ok (.iload_n 1, 1) := by decide +kernel
theorem dX4_reachedBy_46 : decode cX4_reachedBy 46 = .ok (.iload 5, 2) := by decide +kernel
theorem dX4_reachedBy_48 : decode cX4_reachedBy 48 = .ok (.ishr, 1) := by decide +kernel
theorem dX4_reachedBy_49 : decode cX4_reachedBy 49 = .ok (.iconst 1, 1) := by decide +kernel
theorem dX4_reachedBy_50 : decode cX4_reachedBy 50 = .ok (.iand, 1) := by decide +kernel
theorem dX4_reachedBy_51 : decode cX4_reachedBy 51 = .ok (.iconst 1, 1) := by decide +kernel
theorem dX4_reachedBy_52 : decode cX4_reachedBy 52 = .ok (.if_icmp .ne 15, 3) := by decide +kernel
theorem dX4_reachedBy_55 : decode cX4_reachedBy 55 = .ok (.iload_n 3, 1) := by decide +kernel
theorem dX4_reachedBy_56 : decode cX4_reachedBy 56 = .ok (.iload 6, 2) := by decide +kernel
theorem dX4_reachedBy_58 : decode cX4_reachedBy 58 = .ok (.iand, 1) := by decide +kernel
theorem dX4_reachedBy_59 : decode cX4_reachedBy 59 = .ok (.ifCond .eq 8, 3) := by decide +kernel
theorem dX4_reachedBy_62 : decode cX4_reachedBy 62 = .ok (.iload_n 3, 1) := by decide +kernel
theorem dX4_reachedBy_63 : decode cX4_reachedBy 63 = .ok (.iload 6, 2) := by decide +kernel
theorem dX4_reachedBy_65 : decode cX4_reachedBy 65 = .ok (.ior, 1) := by decide +kernel
theorem dX4_reachedBy_66 : decode cX4_reachedBy 66 = .ok (.istore_n 3, 1) := by decide +kernel
theorem dX4_reachedBy_67 : decode cX4_reachedBy 67 = .ok (.iinc 5 1, 3) := by decide +kernel
theorem dX4_reachedBy_70 : decode cX4_reachedBy 70 = .ok (.goto (-55), 3) := by decide +kernel
theorem dX4_reachedBy_73 : decode cX4_reachedBy 73 = .ok (.iinc 4 1, 3) := by decide +kernel
theorem dX4_reachedBy_76 : decode cX4_reachedBy 76 = .ok (.goto (-71), 3) := by decide +kernel
theorem dX4_reachedBy_79 : decode cX4_reachedBy 79 = .ok (.iload_n 3, 1) := by decide +kernel
theorem dX4_reachedBy_80 : decode cX4_reachedBy 80 = .ok (.ireturn, 1) := by decide +kernel
set_option maxRecDepth 20000 in
theorem ggX4_canLeadFor_X4_leadsFor : GoodIn wsX4_canLeadFor wsX4_leadsFor := goodIn_r _ [5, 6, 7, 8, 9, 10, 4, 11, 12, 13, 14, 15, 16, 17, 18, 19, 20, 21, 22, 23, 24, 25, 26, 27, 28, 29, 30, 31, 32, 33, 34, 35, 36, 37, 1, 2, 3, 38, 39, 40, 41, 42, 43, 44, 45, 46, 47, 48, 49, 50, 51, 52] (by decide +kernel) (by decide +kernel)
set_option maxRecDepth 20000 in
theorem gX4_canLeadFor_X4_leadsFor : GoodIn wsX4_canLeadFor (wsV RX4 80 RX4 yX4_leadsFor wsX4_leadsFor) := goodIn_app (goodIn_of _ (by decide +kernel)) ggX4_canLeadFor_X4_leadsFor
theorem dX4_canLeadFor_0 : decode cX4_canLeadFor 0 = .ok (.aload_n 0, 1) := by decide +kernel
theorem dX4_canLeadFor_1 : decode cX4_canLeadFor 1 = .ok (.iload_n 1, 1) := by decide +kernel
theorem dX4_canLeadFor_2 : decode cX4_canLeadFor 2 = .ok (.iload_n 2, 1) := by decide +kernel
theorem dX4_canLeadFor_3 : decode cX4_canLeadFor 3 = .ok (.iload_n 3, 1) := by decide +kernel
theorem dX4_canLeadFor_4 : decode cX4_canLeadFor 4 = .ok (.iload 4, 2) := by decide +kernel
theorem dX4_canLeadFor_6 : decode cX4_canLeadFor 6 = .ok (.iconst 0, 1) := by decide +kernel
theorem dX4_canLeadFor_7 : decode cX4_canLeadFor 7 = .ok (.iconst 0, 1) := by decide +kernel
theorem dX4_canLeadFor_8 : decode cX4_canLeadFor 8 = .ok (.invokevirtual 80, 3) := by decide +kernel
theorem dX4_canLeadFor_11 : decode cX4_canLeadFor 11 = .ok (.ireturn, 1) := by decide +kernel
set_option maxRecDepth 20000 in
theorem ggX4_leadsFor_X4_knowsStreet : GoodIn wsX4_leadsFor wsX4_knowsStreet := goodIn_r _ [7, 8, 9, 10, 11, 6, 12, 13, 14, 15, 16, 17, 1, 37, 38, 39, 40, 41, 42, 43, 44, 45, 46, 47, 48, 49, 50, 51] (by decide +kernel) (by decide +kernel)
set_option maxRecDepth 20000 in
theorem gX4_leadsFor_X4_knowsStreet : GoodIn wsX4_leadsFor (wsV RX4 84 RX4 yX4_knowsStreet wsX4_knowsStreet) := goodIn_app (goodIn_of _ (by decide +kernel)) ggX4_leadsFor_X4_knowsStreet
set_option maxRecDepth 20000 in
theorem ggX4_leadsFor_X4_isAt : GoodIn wsX4_leadsFor wsX4_isAt := goodIn_r _ [21, 22, 23, 37, 38, 39, 40, 41, 42, 43, 44, 45, 46, 47, 48, 49, 50, 51] (by decide +kernel) (by decide +kernel)
set_option maxRecDepth 20000 in
theorem gX4_leadsFor_X4_isAt : GoodIn wsX4_leadsFor (wsV RX4 72 RX4 yX4_isAt wsX4_isAt) := goodIn_app (goodIn_of _ (by decide +kernel)) ggX4_leadsFor_X4_isAt
set_option maxRecDepth 20000 in
theorem ggX4_leadsFor_X4_acrossFrom : GoodIn wsX4_leadsFor wsX4_acrossFrom := goodIn_r _ [27, 22, 23, 37, 38, 39, 40, 41, 42, 43, 44, 45, 46, 47, 48, 49, 50, 51] (by decide +kernel) (by decide +kernel)
set_option maxRecDepth 20000 in
theorem gX4_leadsFor_X4_acrossFrom : GoodIn wsX4_leadsFor (wsV RX4 76 RX4 yX4_acrossFrom wsX4_acrossFrom) := goodIn_app (goodIn_of _ (by decide +kernel)) ggX4_leadsFor_X4_acrossFrom
set_option maxRecDepth 20000 in
theorem ggX4_leadsFor_X4_ledMinutes : GoodIn wsX4_leadsFor wsX4_ledMinutes := goodIn_r _ [31, 32, 33, 37, 38, 39, 40, 41, 42, 43, 44, 45, 46, 47, 48, 49, 50, 51] (by decide +kernel) (by decide +kernel)
set_option maxRecDepth 20000 in
theorem gX4_leadsFor_X4_ledMinutes : GoodIn wsX4_leadsFor (wsV RX4 87 RX4 yX4_ledMinutes wsX4_ledMinutes) := goodIn_app (goodIn_of _ (by decide +kernel)) ggX4_leadsFor_X4_ledMinutes
set_option maxRecDepth 20000 in
theorem ggX4_leadsFor_X4_leadsFor : GoodIn wsX4_leadsFor wsX4_leadsFor := goodIn_r _ [0, 1, 2, 3, 4, 5, 6, 7, 8, 9, 10, 11, 12, 13, 14, 15, 16, 17, 18, 19, 20, 21, 22, 23, 24, 25, 26, 27, 28, 29, 30, 31, 32, 33, 34, 35, 36, 37, 38, 39, 40, 41, 42, 43, 44, 45, 46, 47, 48, 49, 50, 51] (by decide +kernel) (by decide +kernel)
set_option maxRecDepth 20000 in
theorem gX4_leadsFor_X4_leadsFor : GoodIn wsX4_leadsFor (wsV RX4 80 RX4 yX4_leadsFor wsX4_leadsFor) := goodIn_app (goodIn_of _ (by decide +kernel)) ggX4_leadsFor_X4_leadsFor
theorem dX4_leadsFor_0 : decode cX4_leadsFor 0 = .ok (.iload 4, 2) := by decide +kernel
theorem dX4_leadsFor_2 : decode cX4_leadsFor 2 = .ok (.ifCond .lt 10, 3) := by decide +kernel
theorem dX4_leadsFor_5 : decode cX4_leadsFor 5 = .ok (.iload 6, 2) := by decide +kernel
theorem dX4_leadsFor_7 : decode cX4_leadsFor 7 = .ok (.bipush 7, 2) := by decide +kernel
theorem dX4_leadsFor_9 : decode cX4_leadsFor 9 = .ok (.if_icmp .lt 5, 3) := by decide +kernel
theorem dX4_leadsFor_12 : decode cX4_leadsFor 12 = .ok (.iconst 0, 1) := by decide +kernel
theorem dX4_leadsFor_13 : decode cX4_leadsFor 13 = .ok (.ireturn, 1) := by decide +kernel
theorem dX4_leadsFor_14 : decode cX4_leadsFor 14 = .ok (.iload_n 2, 1) := by decide +kernel
theorem dX4_leadsFor_15 : decode cX4_leadsFor 15 = .ok (.iload_n 3, 1) := by decide +kernel
theorem dX4_leadsFor_16 : decode cX4_leadsFor 16 = .ok (.if_icmp .ne 14, 3) := by decide +kernel
theorem dX4_leadsFor_19 : decode cX4_leadsFor 19 = .ok (.iload 4, 2) := by decide +kernel
theorem dX4_leadsFor_21 : decode cX4_leadsFor 21 = .ok (.ifCond .ne 7, 3) := by decide +kernel
theorem dX4_leadsFor_24 : decode cX4_leadsFor 24 = .ok (.iconst 1, 1) := by decide +kernel
theorem dX4_leadsFor_25 : decode cX4_leadsFor 25 = .ok (.goto 4, 3) := by decide +kernel
theorem dX4_leadsFor_28 : decode cX4_leadsFor 28 = .ok (.iconst 0, 1) := by decide +kernel
theorem dX4_leadsFor_29 : decode cX4_leadsFor 29 = .ok (.ireturn, 1) := by decide +kernel
theorem dX4_leadsFor_30 : decode cX4_leadsFor 30 = .ok (.iload 5, 2) := by decide +kernel
theorem dX4_leadsFor_32 : decode cX4_leadsFor 32 = .ok (.iconst 1, 1) := by decide +kernel
theorem dX4_leadsFor_33 : decode cX4_leadsFor 33 = .ok (.iload_n 2, 1) := by decide +kernel
theorem dX4_leadsFor_34 : decode cX4_leadsFor 34 = .ok (.ishl, 1) := by decide +kernel
theorem dX4_leadsFor_35 : decode cX4_leadsFor 35 = .ok (.ior, 1) := by decide +kernel
theorem dX4_leadsFor_36 : decode cX4_leadsFor 36 = .ok (.istore 7, 2) := by decide +kernel
theorem dX4_leadsFor_38 : decode cX4_leadsFor 38 = .ok (.iconst 0, 1) := by decide +kernel
theorem dX4_leadsFor_39 : decode cX4_leadsFor 39 = .ok (.istore 8, 2) := by decide +kernel
theorem dX4_leadsFor_41 : decode cX4_leadsFor 41 = .ok (.iload 8, 2) := by decide +kernel
theorem dX4_leadsFor_43 : decode cX4_leadsFor 43 = .ok (.aload_n 0, 1) := by decide +kernel
theorem dX4_leadsFor_44 : decode cX4_leadsFor 44 = .ok (.getfield 46, 3) := by decide +kernel
theorem dX4_leadsFor_47 : decode cX4_leadsFor 47 = .ok (.if_icmp .ge 91, 3) := by decide +kernel
theorem dX4_leadsFor_50 : decode cX4_leadsFor 50 = .ok (.aload_n 0, 1) := by decide +kernel
theorem dX4_leadsFor_51 : decode cX4_leadsFor 51 = .ok (.iload_n 1, 1) := by decide +kernel
theorem dX4_leadsFor_52 : decode cX4_leadsFor 52 = .ok (.iload 8, 2) := by decide +kernel
theorem dX4_leadsFor_54 : decode cX4_leadsFor 54 = .ok (.invokevirtual 84, 3) := by decide +kernel
theorem dX4_leadsFor_57 : decode cX4_leadsFor 57 = .ok (.ifCond .eq 75, 3) := by decide +kernel
theorem dX4_leadsFor_60 : decode cX4_leadsFor 60 = .ok (.aload_n 0, 1) := by decide +kernel
theorem dX4_leadsFor_61 : decode cX4_leadsFor 61 = .ok (.iload 8, 2) := by decide +kernel
theorem dX4_leadsFor_63 : decode cX4_leadsFor 63 = .ok (.iload_n 2, 1) := by decide +kernel
theorem dX4_leadsFor_64 : decode cX4_leadsFor 64 = .ok (.invokevirtual 72, 3) := by decide +kernel
theorem dX4_leadsFor_67 : decode cX4_leadsFor 67 = .ok (.ifCond .ne 6, 3) := by decide +kernel
theorem dX4_leadsFor_70 : decode cX4_leadsFor 70 = .ok (.goto 62, 3) := by decide +kernel
theorem dX4_leadsFor_73 : decode cX4_leadsFor 73 = .ok (.aload_n 0, 1) := by decide +kernel
theorem dX4_leadsFor_74 : decode cX4_leadsFor 74 = .ok (.iload 8, 2) := by decide +kernel
theorem dX4_leadsFor_76 : decode cX4_leadsFor 76 = .ok (.iload_n 2, 1) := by decide +kernel
theorem dX4_leadsFor_77 : decode cX4_leadsFor 77 = .ok (.invokevirtual 76, 3) := by decide +kernel
theorem dX4_leadsFor_80 : decode cX4_leadsFor 80 = .ok (.istore 9, 2) := by decide +kernel
theorem dX4_leadsFor_82 : decode cX4_leadsFor 82 = .ok (.iload 7, 2) := by decide +kernel
theorem dX4_leadsFor_84 : decode cX4_leadsFor 84 = .ok (.iload 9, 2) := by decide +kernel
theorem dX4_leadsFor_86 : decode cX4_leadsFor 86 = .ok (.ishr, 1) := by decide +kernel
theorem dX4_leadsFor_87 : decode cX4_leadsFor 87 = .ok (.iconst 1, 1) := by decide +kernel
theorem dX4_leadsFor_88 : decode cX4_leadsFor 88 = .ok (.iand, 1) := by decide +kernel
theorem dX4_leadsFor_89 : decode cX4_leadsFor 89 = .ok (.iconst 1, 1) := by decide +kernel
theorem dX4_leadsFor_90 : decode cX4_leadsFor 90 = .ok (.if_icmp .ne 6, 3) := by decide +kernel
theorem dX4_leadsFor_93 : decode cX4_leadsFor 93 = .ok (.goto 39, 3) := by decide +kernel
theorem dX4_leadsFor_96 : decode cX4_leadsFor 96 = .ok (.aload_n 0, 1) := by decide +kernel
theorem dX4_leadsFor_97 : decode cX4_leadsFor 97 = .ok (.iload_n 1, 1) := by decide +kernel
theorem dX4_leadsFor_98 : decode cX4_leadsFor 98 = .ok (.iload 9, 2) := by decide +kernel
theorem dX4_leadsFor_100 : decode cX4_leadsFor 100 = .ok (.iload_n 3, 1) := by decide +kernel
theorem dX4_leadsFor_101 : decode cX4_leadsFor 101 = .ok (.iload 4, 2) := by decide +kernel
theorem dX4_leadsFor_103 : decode cX4_leadsFor 103 = .ok (.aload_n 0, 1) := by decide +kernel
theorem dX4_leadsFor_104 : decode cX4_leadsFor 104 = .ok (.getfield 27, 3) := by decide +kernel
theorem dX4_leadsFor_107 : decode cX4_leadsFor 107 = .ok (.iload_n 1, 1) := by decide +kernel
theorem dX4_leadsFor_108 : decode cX4_leadsFor 108 = .ok (.iaload, 1) := by decide +kernel
theorem dX4_leadsFor_109 : decode cX4_leadsFor 109 = .ok (.aload_n 0, 1) := by decide +kernel
theorem dX4_leadsFor_110 : decode cX4_leadsFor 110 = .ok (.iload_n 1, 1) := by decide +kernel
theorem dX4_leadsFor_111 : decode cX4_leadsFor 111 = .ok (.iload 8, 2) := by decide +kernel
theorem dX4_leadsFor_113 : decode cX4_leadsFor 113 = .ok (.invokevirtual 87, 3) := by decide +kernel
theorem dX4_leadsFor_116 : decode cX4_leadsFor 116 = .ok (.imul, 1) := by decide +kernel
theorem dX4_leadsFor_117 : decode cX4_leadsFor 117 = .ok (.isub, 1) := by decide +kernel
theorem dX4_leadsFor_118 : decode cX4_leadsFor 118 = .ok (.iload 7, 2) := by decide +kernel
theorem dX4_leadsFor_120 : decode cX4_leadsFor 120 = .ok (.iload 6, 2) := by decide +kernel
theorem dX4_leadsFor_122 : decode cX4_leadsFor 122 = .ok (.iconst 1, 1) := by decide +kernel
theorem dX4_leadsFor_123 : decode cX4_leadsFor 123 = .ok (.iadd, 1) := by decide +kernel
theorem dX4_leadsFor_124 : decode cX4_leadsFor 124 = .ok (.invokevirtual 80, 3) := by decide +kernel
theorem dX4_leadsFor_127 : decode cX4_leadsFor 127 = .ok (.ifCond .eq 5, 3) := by decide +kernel
theorem dX4_leadsFor_130 : decode cX4_leadsFor 130 = .ok (.iconst 1, 1) := by decide +kernel
theorem dX4_leadsFor_131 : decode cX4_leadsFor 131 = .ok (.ireturn, 1) := by decide +kernel
theorem dX4_leadsFor_132 : decode cX4_leadsFor 132 = .ok (.iinc 8 1, 3) := by decide +kernel
theorem dX4_leadsFor_135 : decode cX4_leadsFor 135 = .ok (.goto (-94), 3) := by decide +kernel
theorem dX4_leadsFor_138 : decode cX4_leadsFor 138 = .ok (.iconst 0, 1) := by decide +kernel
theorem dX4_leadsFor_139 : decode cX4_leadsFor 139 = .ok (.ireturn, 1) := by decide +kernel
set_option maxRecDepth 20000 in
theorem ggX4_marksAround_X4_nextTo : GoodIn wsX4_marksAround wsX4_nextTo := goodIn_r _ [7, 8, 9, 10, 11, 6, 12, 13, 14, 15, 16, 17, 18, 26, 27, 28, 29, 30, 31, 32, 33, 34, 35, 36, 37, 38, 39, 40] (by decide +kernel) (by decide +kernel)
set_option maxRecDepth 20000 in
theorem gX4_marksAround_X4_nextTo : GoodIn wsX4_marksAround (wsV RX4 90 RX4 yX4_nextTo wsX4_nextTo) := goodIn_app (goodIn_of _ (by decide +kernel)) ggX4_marksAround_X4_nextTo
set_option maxRecDepth 20000 in
theorem ggX4_marksAround_J6_bitCount_0f7a4 : GoodIn wsX4_marksAround wsJ6_bitCount_0f7a4 := goodIn_r _ [22, 23, 24, 25] (by decide +kernel) (by decide +kernel)
set_option maxRecDepth 20000 in
theorem gX4_marksAround_J6_bitCount_0f7a4 : GoodIn wsX4_marksAround (va_wsS RX4 94 yJ6_bitCount_0f7a4 wsJ6_bitCount_0f7a4) := goodIn_app (goodIn_of _ (by decide +kernel)) ggX4_marksAround_J6_bitCount_0f7a4
theorem dX4_marksAround_0 : decode cX4_marksAround 0 = .ok (.iconst 0, 1) := by decide +kernel
theorem dX4_marksAround_1 : decode cX4_marksAround 1 = .ok (.istore_n 2, 1) := by decide +kernel
theorem dX4_marksAround_2 : decode cX4_marksAround 2 = .ok (.iconst 0, 1) := by decide +kernel
theorem dX4_marksAround_3 : decode cX4_marksAround 3 = .ok (.istore_n 3, 1) := by decide +kernel
theorem dX4_marksAround_4 : decode cX4_marksAround 4 = .ok (.iload_n 3, 1) := by decide +kernel
theorem dX4_marksAround_5 : decode cX4_marksAround 5 = .ok (.aload_n 0, 1) := by decide +kernel
theorem dX4_marksAround_6 : decode cX4_marksAround 6 = .ok (.getfield 43, 3) := by decide +kernel
theorem dX4_marksAround_9 : decode cX4_marksAround 9 = .ok (.if_icmp .ge 26, 3) := by decide +kernel
theorem dX4_marksAround_12 : decode cX4_marksAround 12 = .ok (.iload_n 1, 1) := by decide +kernel
theorem dX4_marksAround_13 : decode cX4_marksAround 13 = .ok (.iload_n 3, 1) := by decide +kernel
theorem dX4_marksAround_14 : decode cX4_marksAround 14 = .ok (.ishr, 1) := by decide +kernel
theorem dX4_marksAround_15 : decode cX4_marksAround 15 = .ok (.iconst 1, 1) := by decide +kernel
theorem dX4_marksAround_16 : decode cX4_marksAround 16 = .ok (.iand, 1) := by decide +kernel
theorem dX4_marksAround_17 : decode cX4_marksAround 17 = .ok (.iconst 1, 1) := by decide +kernel
theorem dX4_marksAround_18 : decode cX4_marksAround 18 = .ok (.if_icmp .ne 11, 3) := by decide +kernel
theorem dX4_marksAround_21 : decode cX4_marksAround 21 = .ok (.iload_n 2, 1) := by decide +kernel
theorem dX4_marksAround_22 : decode cX4_marksAround 22 = .ok (.aload_n 0, 1) := by decide +kernel
theorem dX4_marksAround_23 : decode cX4_marksAround 23 = .ok (.iload_n 3, 1) := by decide +kernel
theorem dX4_marksAround_24 : decode cX4_marksAround 24 = .ok (.invokevirtual 90, 3) := by decide +kernel
theorem dX4_marksAround_27 : decode cX4_marksAround 27 = .ok (.ior, 1) := by decide +kernel
theorem dX4_marksAround_28 : decode cX4_marksAround 28 = .ok (.istore_n 2, 1) := by decide +kernel
theorem dX4_marksAround_29 : decode cX4_marksAround 29 = .ok (.iinc 3 1, 3) := by decide +kernel
theorem dX4_marksAround_32 : decode cX4_marksAround 32 = .ok (.goto (-28), 3) := by decide +kernel
theorem dX4_marksAround_35 : decode cX4_marksAround 35 = .ok (.iconst 0, 1) := by decide +kernel
theorem dX4_marksAround_36 : decode cX4_marksAround 36 = .ok (.istore_n 3, 1) := by decide +kernel
theorem dX4_marksAround_37 : decode cX4_marksAround 37 = .ok (.iconst 0, 1) := by decide +kernel
theorem dX4_marksAround_38 : decode cX4_marksAround 38 = .ok (.istore 4, 2) := by decide +kernel
theorem dX4_marksAround_40 : decode cX4_marksAround 40 = .ok (.iload 4, 2) := by decide +kernel
theorem dX4_marksAround_42 : decode cX4_marksAround 42 = .ok (.aload_n 0, 1) := by decide +kernel
theorem dX4_marksAround_43 : decode cX4_marksAround 43 = .ok (.getfield 43, 3) := by decide +kernel
theorem dX4_marksAround_46 : decode cX4_marksAround 46 = .ok (.if_icmp .ge 31, 3) := by decide +kernel
theorem dX4_marksAround_49 : decode cX4_marksAround 49 = .ok (.iload_n 2, 1) := by decide +kernel
theorem dX4_marksAround_50 : decode cX4_marksAround 50 = .ok (.iload 4, 2) := by decide +kernel
theorem dX4_marksAround_52 : decode cX4_marksAround 52 = .ok (.ishr, 1) := by decide +kernel
theorem dX4_marksAround_53 : decode cX4_marksAround 53 = .ok (.iconst 1, 1) := by decide +kernel
theorem dX4_marksAround_54 : decode cX4_marksAround 54 = .ok (.iand, 1) := by decide +kernel
theorem dX4_marksAround_55 : decode cX4_marksAround 55 = .ok (.iconst 1, 1) := by decide +kernel
theorem dX4_marksAround_56 : decode cX4_marksAround 56 = .ok (.if_icmp .ne 15, 3) := by decide +kernel
theorem dX4_marksAround_59 : decode cX4_marksAround 59 = .ok (.iload_n 3, 1) := by decide +kernel
theorem dX4_marksAround_60 : decode cX4_marksAround 60 = .ok (.iconst 1, 1) := by decide +kernel
theorem dX4_marksAround_61 : decode cX4_marksAround 61 = .ok (.aload_n 0, 1) := by decide +kernel
theorem dX4_marksAround_62 : decode cX4_marksAround 62 = .ok (.getfield 9, 3) := by decide +kernel
theorem dX4_marksAround_65 : decode cX4_marksAround 65 = .ok (.iload 4, 2) := by decide +kernel
theorem dX4_marksAround_67 : decode cX4_marksAround 67 = .ok (.iaload, 1) := by decide +kernel
theorem dX4_marksAround_68 : decode cX4_marksAround 68 = .ok (.ishl, 1) := by decide +kernel
theorem dX4_marksAround_69 : decode cX4_marksAround 69 = .ok (.ior, 1) := by decide +kernel
theorem dX4_marksAround_70 : decode cX4_marksAround 70 = .ok (.istore_n 3, 1) := by decide +kernel
theorem dX4_marksAround_71 : decode cX4_marksAround 71 = .ok (.iinc 4 1, 3) := by decide +kernel
theorem dX4_marksAround_74 : decode cX4_marksAround 74 = .ok (.goto (-34), 3) := by decide +kernel
theorem dX4_marksAround_77 : decode cX4_marksAround 77 = .ok (.iload_n 3, 1) := by decide +kernel
theorem dX4_marksAround_78 : decode cX4_marksAround 78 = .ok (.invokestatic 94, 3) := by decide +kernel
theorem dX4_marksAround_81 : decode cX4_marksAround 81 = .ok (.ireturn, 1) := by decide +kernel
theorem dX5_init_0 : decode cX5_init 0 = .ok (.aload_n 0, 1) := by decide +kernel
theorem dX5_init_1 : decode cX5_init 1 = .ok (.invokespecial 3, 3) := by decide +kernel
theorem dX5_init_4 : decode cX5_init 4 = .ok (.aload_n 0, 1) := by decide +kernel
theorem dX5_init_5 : decode cX5_init 5 = .ok (.iconst 4, 1) := by decide +kernel
theorem dX5_init_6 : decode cX5_init 6 = .ok (.newarray .int, 2) := by decide +kernel
theorem dX5_init_8 : decode cX5_init 8 = .ok (.putfield 9, 3) := by decide +kernel
theorem dX5_init_11 : decode cX5_init 11 = .ok (.aload_n 0, 1) := by decide +kernel
theorem dX5_init_12 : decode cX5_init 12 = .ok (.iconst 4, 1) := by decide +kernel
theorem dX5_init_13 : decode cX5_init 13 = .ok (.newarray .int, 2) := by decide +kernel
theorem dX5_init_15 : decode cX5_init 15 = .ok (.putfield 15, 3) := by decide +kernel
theorem dX5_init_18 : decode cX5_init 18 = .ok (.aload_n 0, 1) := by decide +kernel
theorem dX5_init_19 : decode cX5_init 19 = .ok (.iconst 4, 1) := by decide +kernel
theorem dX5_init_20 : decode cX5_init 20 = .ok (.newarray .int, 2) := by decide +kernel
theorem dX5_init_22 : decode cX5_init 22 = .ok (.putfield 18, 3) := by decide +kernel
theorem dX5_init_25 : decode cX5_init 25 = .ok (.aload_n 0, 1) := by decide +kernel
theorem dX5_init_26 : decode cX5_init 26 = .ok (.bipush 49, 2) := by decide +kernel
theorem dX5_init_28 : decode cX5_init 28 = .ok (.newarray .int, 2) := by decide +kernel
theorem dX5_init_30 : decode cX5_init 30 = .ok (.putfield 21, 3) := by decide +kernel
theorem dX5_init_33 : decode cX5_init 33 = .ok (.return_, 1) := by decide +kernel
theorem dX5_add_0 : decode cX5_add 0 = .ok (.aload_n 0, 1) := by decide +kernel
theorem dX5_add_1 : decode cX5_add 1 = .ok (.getfield 24, 3) := by decide +kernel
theorem dX5_add_4 : decode cX5_add 4 = .ok (.iconst 4, 1) := by decide +kernel
theorem dX5_add_5 : decode cX5_add 5 = .ok (.if_icmp .lt 5, 3) := by decide +kernel
theorem dX5_add_8 : decode cX5_add 8 = .ok (.iconst 0, 1) := by decide +kernel
theorem dX5_add_9 : decode cX5_add 9 = .ok (.ireturn, 1) := by decide +kernel
theorem dX5_add_10 : decode cX5_add 10 = .ok (.aload_n 0, 1) := by decide +kernel
theorem dX5_add_11 : decode cX5_add 11 = .ok (.getfield 9, 3) := by decide +kernel
theorem dX5_add_14 : decode cX5_add 14 = .ok (.aload_n 0, 1) := by decide +kernel
theorem dX5_add_15 : decode cX5_add 15 = .ok (.getfield 24, 3) := by decide +kernel
theorem dX5_add_18 : decode cX5_add 18 = .ok (.iload_n 1, 1) := by decide +kernel
theorem dX5_add_19 : decode cX5_add 19 = .ok (.iastore, 1) := by decide +kernel
theorem dX5_add_20 : decode cX5_add 20 = .ok (.aload_n 0, 1) := by decide +kernel
theorem dX5_add_21 : decode cX5_add 21 = .ok (.getfield 15, 3) := by decide +kernel
theorem dX5_add_24 : decode cX5_add 24 = .ok (.aload_n 0, 1) := by decide +kernel
theorem dX5_add_25 : decode cX5_add 25 = .ok (.getfield 24, 3) := by decide +kernel
theorem dX5_add_28 : decode cX5_add 28 = .ok (.iload_n 2, 1) := by decide +kernel
theorem dX5_add_29 : decode cX5_add 29 = .ok (.iastore, 1) := by decide +kernel
theorem dX5_add_30 : decode cX5_add 30 = .ok (.aload_n 0, 1) := by decide +kernel
theorem dX5_add_31 : decode cX5_add 31 = .ok (.getfield 18, 3) := by decide +kernel
theorem dX5_add_34 : decode cX5_add 34 = .ok (.aload_n 0, 1) := by decide +kernel
theorem dX5_add_35 : decode cX5_add 35 = .ok (.getfield 24, 3) := by decide +kernel
theorem dX5_add_38 : decode cX5_add 38 = .ok (.iload_n 3, 1) := by decide +kernel
theorem dX5_add_39 : decode cX5_add 39 = .ok (.iastore, 1) := by decide +kernel
theorem dX5_add_40 : decode cX5_add 40 = .ok (.aload_n 0, 1) := by decide +kernel
theorem dX5_add_41 : decode cX5_add 41 = .ok (.dup, 1) := by decide +kernel
theorem dX5_add_42 : decode cX5_add 42 = .ok (.getfield 24, 3) := by decide +kernel
theorem dX5_add_45 : decode cX5_add 45 = .ok (.iconst 1, 1) := by decide +kernel
theorem dX5_add_46 : decode cX5_add 46 = .ok (.iadd, 1) := by decide +kernel
theorem dX5_add_47 : decode cX5_add 47 = .ok (.putfield 24, 3) := by decide +kernel
theorem dX5_add_50 : decode cX5_add 50 = .ok (.iconst 1, 1) := by decide +kernel
theorem dX5_add_51 : decode cX5_add 51 = .ok (.ireturn, 1) := by decide +kernel
set_option maxRecDepth 20000 in
theorem ggX5_findBestDay_X5_takeStreets : GoodIn wsX5_findBestDay wsX5_takeStreets := goodIn_r _ [7, 8, 9, 10, 11, 12, 13, 14, 15, 16, 17, 18, 19, 20, 21, 22, 23, 24, 25, 26, 27, 28, 29, 30, 31, 32, 33, 34, 35, 36, 37, 50, 51, 52, 53, 54, 55, 56, 57, 58, 59, 60, 61, 62, 63, 64, 65, 66, 67, 68, 69, 70, 71] (by decide +kernel) (by decide +kernel)
set_option maxRecDepth 20000 in
theorem gX5_findBestDay_X5_takeStreets : GoodIn wsX5_findBestDay (wsV RX5 28 RX5 yX5_takeStreets wsX5_takeStreets) := goodIn_app (goodIn_of _ (by decide +kernel)) ggX5_findBestDay_X5_takeStreets
set_option maxRecDepth 20000 in
theorem ggX5_findBestDay_X5_shortenWays : GoodIn wsX5_findBestDay wsX5_shortenWays := goodIn_r _ [41, 8, 12, 13, 14, 15, 50, 51, 52, 53, 54, 55, 56] (by decide +kernel) (by decide +kernel)
set_option maxRecDepth 20000 in
theorem gX5_findBestDay_X5_shortenWays : GoodIn wsX5_findBestDay (wsV RX5 32 RX5 yX5_shortenWays wsX5_shortenWays) := goodIn_app (goodIn_of _ (by decide +kernel)) ggX5_findBestDay_X5_shortenWays
set_option maxRecDepth 20000 in
theorem ggX5_findBestDay_X5_tryOn : GoodIn wsX5_findBestDay wsX5_tryOn := goodIn_r _ [45, 1, 2, 46, 8, 47, 48, 49, 42, 43, 44, 6, 50, 51, 52, 53, 54, 55, 56] (by decide +kernel) (by decide +kernel)
set_option maxRecDepth 20000 in
theorem gX5_findBestDay_X5_tryOn : GoodIn wsX5_findBestDay (wsV RX5 41 RX5 yX5_tryOn wsX5_tryOn) := goodIn_app (goodIn_of _ (by decide +kernel)) ggX5_findBestDay_X5_tryOn
theorem dX5_findBestDay_0 : decode cX5_findBestDay 0 = .ok (.aload_n 0, 1) := by decide +kernel
theorem dX5_findBestDay_1 : decode cX5_findBestDay 1 = .ok (.aload_n 1, 1) := by decide +kernel
theorem dX5_findBestDay_2 : decode cX5_findBestDay 2 = .ok (.iload_n 2, 1) := by decide +kernel
theorem dX5_findBestDay_3 : decode cX5_findBestDay 3 = .ok (.invokevirtual 28, 3) := by decide +kernel
theorem dX5_findBestDay_6 : decode cX5_findBestDay 6 = .ok (.aload_n 0, 1) := by decide +kernel
theorem dX5_findBestDay_7 : decode cX5_findBestDay 7 = .ok (.invokevirtual 32, 3) := by decide +kernel
theorem dX5_findBestDay_10 : decode cX5_findBestDay 10 = .ok (.aload_n 0, 1) := by decide +kernel
theorem dX5_findBestDay_11 : decode cX5_findBestDay 11 = .ok (.iconst 0, 1) := by decide +kernel
theorem dX5_findBestDay_12 : decode cX5_findBestDay 12 = .ok (.putfield 35, 3) := by decide +kernel
theorem dX5_findBestDay_15 : decode cX5_findBestDay 15 = .ok (.aload_n 0, 1) := by decide +kernel
theorem dX5_findBestDay_16 : decode cX5_findBestDay 16 = .ok (.iconst 0, 1) := by decide +kernel
theorem dX5_findBestDay_17 : decode cX5_findBestDay 17 = .ok (.putfield 38, 3) := by decide +kernel
theorem dX5_findBestDay_20 : decode cX5_findBestDay 20 = .ok (.aload_n 0, 1) := by decide +kernel
theorem dX5_findBestDay_21 : decode cX5_findBestDay 21 = .ok (.iload_n 3, 1) := by decide +kernel
theorem dX5_findBestDay_22 : decode cX5_findBestDay 22 = .ok (.iload 4, 2) := by decide +kernel
theorem dX5_findBestDay_24 : decode cX5_findBestDay 24 = .ok (.iconst 0, 1) := by decide +kernel
theorem dX5_findBestDay_25 : decode cX5_findBestDay 25 = .ok (.iconst 0, 1) := by decide +kernel
theorem dX5_findBestDay_26 : decode cX5_findBestDay 26 = .ok (.iconst 0, 1) := by decide +kernel
theorem dX5_findBestDay_27 : decode cX5_findBestDay 27 = .ok (.invokevirtual 41, 3) := by decide +kernel
theorem dX5_findBestDay_30 : decode cX5_findBestDay 30 = .ok (.return_, 1) := by decide +kernel
set_option maxRecDepth 20000 in
theorem ggX5_takeStreets_X4_knowsStreet : GoodIn wsX5_takeStreets wsX4_knowsStreet := goodIn_r _ [13, 14, 15, 16, 17, 12, 18, 19, 20, 21, 22, 23, 24, 38, 39, 40, 41, 42, 43, 44, 45, 46, 47, 48, 49, 50, 51, 52] (by decide +kernel) (by decide +kernel)
set_option maxRecDepth 20000 in
theorem gX5_takeStreets_X4_knowsStreet : GoodIn wsX5_takeStreets (wsV RX5 50 RX4 yX4_knowsStreet wsX4_knowsStreet) := goodIn_app (goodIn_of _ (by decide +kernel)) ggX5_takeStreets_X4_knowsStreet
set_option maxRecDepth 20000 in
theorem ggX5_takeStreets_X4_ledMinutes : GoodIn wsX5_takeStreets wsX4_ledMinutes := goodIn_r _ [28, 29, 30, 38, 39, 40, 41, 42, 43, 44, 45, 46, 47, 48, 49, 50, 51, 52] (by decide +kernel) (by decide +kernel)
set_option maxRecDepth 20000 in
theorem gX5_takeStreets_X4_ledMinutes : GoodIn wsX5_takeStreets (wsV RX5 54 RX4 yX4_ledMinutes wsX4_ledMinutes) := goodIn_app (goodIn_of _ (by decide +kernel)) ggX5_takeStreets_X4_ledMinutes
theorem dX5_takeStreets_0 : decode cX5_takeStreets 0 = .ok (.iconst 0, 1) := by decide +kernel
theorem dX5_takeStreets_1 : decode cX5_takeStreets 1 = .ok (.istore_n 3, 1) := by decide +kernel
theorem dX5_takeStreets_2 : decode cX5_takeStreets 2 = .ok (.iload_n 3, 1) := by decide +kernel
theorem dX5_takeStreets_3 : decode cX5_takeStreets 3 = .ok (.aload_n 0, 1) := by decide +kernel
theorem dX5_takeStreets_4 : decode cX5_takeStreets 4 = .ok (.getfield 21, 3) := by decide +kernel
theorem dX5_takeStreets_7 : decode cX5_takeStreets 7 = .ok (.arraylength, 1) := by decide +kernel
theorem dX5_takeStreets_8 : decode cX5_takeStreets 8 = .ok (.if_icmp .ge 33, 3) := by decide +kernel
theorem dX5_takeStreets_11 : decode cX5_takeStreets 11 = .ok (.aload_n 0, 1) := by decide +kernel
theorem dX5_takeStreets_12 : decode cX5_takeStreets 12 = .ok (.getfield 21, 3) := by decide +kernel
theorem dX5_takeStreets_15 : decode cX5_takeStreets 15 = .ok (.iload_n 3, 1) := by decide +kernel
theorem dX5_takeStreets_16 : decode cX5_takeStreets 16 = .ok (.iload_n 3, 1) := by decide +kernel
theorem dX5_takeStreets_17 : decode cX5_takeStreets 17 = .ok (.bipush 7, 2) := by decide +kernel
theorem dX5_takeStreets_19 : decode cX5_takeStreets 19 = .ok (.idiv, 1) := by decide +kernel
theorem dX5_takeStreets_20 : decode cX5_takeStreets 20 = .ok (.iload_n 3, 1) := by decide +kernel
theorem dX5_takeStreets_21 : decode cX5_takeStreets 21 = .ok (.bipush 7, 2) := by decide +kernel
theorem dX5_takeStreets_23 : decode cX5_takeStreets 23 = .ok (.irem, 1) := by decide +kernel
theorem dX5_takeStreets_24 : decode cX5_takeStreets 24 = .ok (.if_icmp .ne 7, 3) := by decide +kernel
theorem dX5_takeStreets_27 : decode cX5_takeStreets 27 = .ok (.iconst 0, 1) := by decide +kernel
theorem dX5_takeStreets_28 : decode cX5_takeStreets 28 = .ok (.goto 6, 3) := by decide +kernel
theorem dX5_takeStreets_31 : decode cX5_takeStreets 31 = .ok (.sipush 10000, 3) := by decide +kernel
theorem dX5_takeStreets_34 : decode cX5_takeStreets 34 = .ok (.iastore, 1) := by decide +kernel
theorem dX5_takeStreets_35 : decode cX5_takeStreets 35 = .ok (.iinc 3 1, 3) := by decide +kernel
theorem dX5_takeStreets_38 : decode cX5_takeStreets 38 = .ok (.goto (-36), 3) := by decide +kernel
theorem dX5_takeStreets_41 : decode cX5_takeStreets 41 = .ok (.iconst 0, 1) := by decide +kernel
theorem dX5_takeStreets_42 : decode cX5_takeStreets 42 = .ok (.istore_n 3, 1) := by decide +kernel
theorem dX5_takeStreets_43 : decode cX5_takeStreets 43 = .ok (.iload_n 3, 1) := by decide +kernel
theorem dX5_takeStreets_44 : decode cX5_takeStreets 44 = .ok (.aload_n 1, 1) := by decide +kernel
theorem dX5_takeStreets_45 : decode cX5_takeStreets 45 = .ok (.getfield 45, 3) := by decide +kernel
theorem dX5_takeStreets_48 : decode cX5_takeStreets 48 = .ok (.if_icmp .ge 103, 3) := by decide +kernel
theorem dX5_takeStreets_51 : decode cX5_takeStreets 51 = .ok (.aload_n 1, 1) := by decide +kernel
theorem dX5_takeStreets_52 : decode cX5_takeStreets 52 = .ok (.iload_n 2, 1) := by decide +kernel
theorem dX5_takeStreets_53 : decode cX5_takeStreets 53 = .ok (.iload_n 3, 1) := by decide +kernel
theorem dX5_takeStreets_54 : decode cX5_takeStreets 54 = .ok (.invokevirtual 50, 3) := by decide +kernel
theorem dX5_takeStreets_57 : decode cX5_takeStreets 57 = .ok (.ifCond .ne 6, 3) := by decide +kernel
theorem dX5_takeStreets_60 : decode cX5_takeStreets 60 = .ok (.goto 85, 3) := by decide +kernel
theorem dX5_takeStreets_63 : decode cX5_takeStreets 63 = .ok (.aload_n 1, 1) := by decide +kernel
theorem dX5_takeStreets_64 : decode cX5_takeStreets 64 = .ok (.iload_n 2, 1) := by decide +kernel
theorem dX5_takeStreets_65 : decode cX5_takeStreets 65 = .ok (.iload_n 3, 1) := by decide +kernel
theorem dX5_takeStreets_66 : decode cX5_takeStreets 66 = .ok (.invokevirtual 54, 3) := by decide +kernel
theorem dX5_takeStreets_69 : decode cX5_takeStreets 69 = .ok (.istore 4, 2) := by decide +kernel
theorem dX5_takeStreets_71 : decode cX5_takeStreets 71 = .ok (.aload_n 1, 1) := by decide +kernel
theorem dX5_takeStreets_72 : decode cX5_takeStreets 72 = .ok (.getfield 58, 3) := by decide +kernel
theorem dX5_takeStreets_75 : decode cX5_takeStreets 75 = .ok (.iload_n 3, 1) := by decide +kernel
theorem dX5_takeStreets_76 : decode cX5_takeStreets 76 = .ok (.iaload, 1) := by decide +kernel
theorem dX5_takeStreets_77 : decode cX5_takeStreets 77 = .ok (.bipush 7, 2) := by decide +kernel
theorem dX5_takeStreets_79 : decode cX5_takeStreets 79 = .ok (.imul, 1) := by decide +kernel
theorem dX5_takeStreets_80 : decode cX5_takeStreets 80 = .ok (.aload_n 1, 1) := by decide +kernel
theorem dX5_takeStreets_81 : decode cX5_takeStreets 81 = .ok (.getfield 61, 3) := by decide +kernel
theorem dX5_takeStreets_84 : decode cX5_takeStreets 84 = .ok (.iload_n 3, 1) := by decide +kernel
theorem dX5_takeStreets_85 : decode cX5_takeStreets 85 = .ok (.iaload, 1) := by decide +kernel
theorem dX5_takeStreets_86 : decode cX5_takeStreets 86 = .ok (.iadd, 1) := by decide +kernel
theorem dX5_takeStreets_87 : decode cX5_takeStreets 87 = .ok (.istore 5, 2) := by decide +kernel
theorem dX5_takeStreets_89 : decode cX5_takeStreets 89 = .ok (.aload_n 1, 1) := by decide +kernel
theorem dX5_takeStreets_90 : decode cX5_takeStreets 90 = .ok (.getfield 61, 3) := by decide +kernel
theorem dX5_takeStreets_93 : decode cX5_takeStreets 93 = .ok (.iload_n 3, 1) := by decide +kernel
theorem dX5_takeStreets_94 : decode cX5_takeStreets 94 = .ok (.iaload, 1) := by decide +kernel
theorem dX5_takeStreets_95 : decode cX5_takeStreets 95 = .ok (.bipush 7, 2) := by decide +kernel
theorem dX5_takeStreets_97 : decode cX5_takeStreets 97 = .ok (.imul, 1) := by decide +kernel
theorem dX5_takeStreets_98 : decode cX5_takeStreets 98 = .ok (.aload_n 1, 1) := by decide +kernel
theorem dX5_takeStreets_99 : decode cX5_takeStreets 99 = .ok (.getfield 58, 3) := by decide +kernel
theorem dX5_takeStreets_102 : decode cX5_takeStreets 102 = .ok (.iload_n 3, 1) := by decide +kernel
theorem dX5_takeStreets_103 : decode cX5_takeStreets 103 = .ok (.iaload, 1) := by decide +kernel
theorem dX5_takeStreets_104 : decode cX5_takeStreets 104 = .ok (.iadd, 1) := by decide +kernel
theorem dX5_takeStreets_105 : decode cX5_takeStreets 105 = .ok (.istore 6, 2) := by decide +kernel
theorem dX5_takeStreets_107 : decode cX5_takeStreets 107 = .ok (.aload_n 0, 1) := by decide +kernel
theorem dX5_takeStreets_108 : decode cX5_takeStreets 108 = .ok (.getfield 21, 3) := by decide +kernel
theorem dX5_takeStreets_111 : decode cX5_takeStreets 111 = .ok (.iload 5, 2) := by decide +kernel
theorem dX5_takeStreets_113 : decode cX5_takeStreets 113 = .ok (.aload_n 0, 1) := by decide +kernel
theorem dX5_takeStreets_114 : decode cX5_takeStreets 114 = .ok (.getfield 21, 3) := by decide +kernel
theorem dX5_takeStreets_117 : decode cX5_takeStreets 117 = .ok (.iload 5, 2) := by decide +kernel
theorem dX5_takeStreets_119 : decode cX5_takeStreets 119 = .ok (.iaload, 1) := by decide +kernel
theorem dX5_takeStreets_120 : decode cX5_takeStreets 120 = .ok (.iload 4, 2) := by decide +kernel
theorem dX5_takeStreets_122 : decode cX5_takeStreets 122 = .ok (.invokestatic 64, 3) := by decide +kernel
theorem dX5_takeStreets_125 : decode cX5_takeStreets 125 = .ok (.iastore, 1) := by decide +kernel
theorem dX5_takeStreets_126 : decode cX5_takeStreets 126 = .ok (.aload_n 0, 1) := by decide +kernel
theorem dX5_takeStreets_127 : decode cX5_takeStreets 127 = .ok (.getfield 21, 3) := by decide +kernel
theorem dX5_takeStreets_130 : decode cX5_takeStreets 130 = .ok (.iload 6, 2) := by decide +kernel
theorem dX5_takeStreets_132 : decode cX5_takeStreets 132 = .ok (.aload_n 0, 1) := by decide +kernel
theorem dX5_takeStreets_133 : decode cX5_takeStreets 133 = .ok (.getfield 21, 3) := by decide +kernel
theorem dX5_takeStreets_136 : decode cX5_takeStreets 136 = .ok (.iload 6, 2) := by decide +kernel
theorem dX5_takeStreets_138 : decode cX5_takeStreets 138 = .ok (.iaload, 1) := by decide +kernel
theorem dX5_takeStreets_139 : decode cX5_takeStreets 139 = .ok (.iload 4, 2) := by decide +kernel
theorem dX5_takeStreets_141 : decode cX5_takeStreets 141 = .ok (.invokestatic 64, 3) := by decide +kernel
theorem dX5_takeStreets_144 : decode cX5_takeStreets 144 = .ok (.iastore, 1) := by decide +kernel
theorem dX5_takeStreets_145 : decode cX5_takeStreets 145 = .ok (.iinc 3 1, 3) := by decide +kernel
theorem dX5_takeStreets_148 : decode cX5_takeStreets 148 = .ok (.goto (-105), 3) := by decide +kernel
theorem dX5_takeStreets_151 : decode cX5_takeStreets 151 = .ok (.return_, 1) := by decide +kernel
theorem dX5_shortenWays_0 : decode cX5_shortenWays 0 = .ok (.iconst 0, 1) := by decide +kernel
theorem dX5_shortenWays_1 : decode cX5_shortenWays 1 = .ok (.istore_n 1, 1) := by decide +kernel
theorem dX5_shortenWays_2 : decode cX5_shortenWays 2 = .ok (.iload_n 1, 1) := by decide +kernel
theorem dX5_shortenWays_3 : decode cX5_shortenWays 3 = .ok (.bipush 7, 2) := by decide +kernel
theorem dX5_shortenWays_5 : decode cX5_shortenWays 5 = .ok (.if_icmp .ge 76, 3) := by decide +kernel
theorem dX5_shortenWays_8 : decode cX5_shortenWays 8 = .ok (.iconst 0, 1) := by decide +kernel
theorem dX5_shortenWays_9 : decode cX5_shortenWays 9 = .ok (.istore_n 2, 1) := by decide +kernel
theorem dX5_shortenWays_10 : decode cX5_shortenWays 10 = .ok (.iload_n 2, 1) := by decide +kernel
theorem dX5_shortenWays_11 : decode cX5_shortenWays 11 = .ok (.aload_n 0, 1) := by decide +kernel
theorem dX5_shortenWays_12 : decode cX5_shortenWays 12 = .ok (.getfield 21, 3) := by decide +kernel
theorem dX5_shortenWays_15 : decode cX5_shortenWays 15 = .ok (.arraylength, 1) := by decide +kernel
theorem dX5_shortenWays_16 : decode cX5_shortenWays 16 = .ok (.if_icmp .ge 59, 3) := by decide +kernel
theorem dX5_shortenWays_19 : decode cX5_shortenWays 19 = .ok (.aload_n 0, 1) := by decide +kernel
theorem dX5_shortenWays_20 : decode cX5_shortenWays 20 = .ok (.getfield 21, 3) := by decide +kernel
theorem dX5_shortenWays_23 : decode cX5_shortenWays 23 = .ok (.iload_n 2, 1) := by decide +kernel
theorem dX5_shortenWays_24 : decode cX5_shortenWays 24 = .ok (.bipush 7, 2) := by decide +kernel
theorem dX5_shortenWays_26 : decode cX5_shortenWays 26 = .ok (.idiv, 1) := by decide +kernel
theorem dX5_shortenWays_27 : decode cX5_shortenWays 27 = .ok (.bipush 7, 2) := by decide +kernel
theorem dX5_shortenWays_29 : decode cX5_shortenWays 29 = .ok (.imul, 1) := by decide +kernel
theorem dX5_shortenWays_30 : decode cX5_shortenWays 30 = .ok (.iload_n 1, 1) := by decide +kernel
theorem dX5_shortenWays_31 : decode cX5_shortenWays 31 = .ok (.iadd, 1) := by decide +kernel
theorem dX5_shortenWays_32 : decode cX5_shortenWays 32 = .ok (.iaload, 1) := by decide +kernel
theorem dX5_shortenWays_33 : decode cX5_shortenWays 33 = .ok (.istore_n 3, 1) := by decide +kernel
theorem dX5_shortenWays_34 : decode cX5_shortenWays 34 = .ok (.aload_n 0, 1) := by decide +kernel
theorem dX5_shortenWays_35 : decode cX5_shortenWays 35 = .ok (.getfield 21, 3) := by decide +kernel
theorem dX5_shortenWays_38 : decode cX5_shortenWays 38 = .ok (.iload_n 1, 1) := by decide +kernel
theorem dX5_shortenWays_39 : decode cX5_shortenWays 39 = .ok (.bipush 7, 2) := by decide +kernel
theorem dX5_shortenWays_41 : decode cX5_shortenWays 41 = .ok (.imul, 1) := by decide +kernel
theorem dX5_shortenWays_42 : decode cX5_shortenWays 42 = .ok (.iload_n 2, 1) := by decide +kernel
theorem dX5_shortenWays_43 : decode cX5_shortenWays 43 = .ok (.bipush 7, 2) := by decide +kernel
theorem dX5_shortenWays_45 : decode cX5_shortenWays 45 = .ok (.irem, 1) := by decide +kernel
theorem dX5_shortenWays_46 : decode cX5_shortenWays 46 = .ok (.iadd, 1) := by decide +kernel
theorem dX5_shortenWays_47 : decode cX5_shortenWays 47 = .ok (.iaload, 1) := by decide +kernel
theorem dX5_shortenWays_48 : decode cX5_shortenWays 48 = .ok (.istore 4, 2) := by decide +kernel
theorem dX5_shortenWays_50 : decode cX5_shortenWays 50 = .ok (.aload_n 0, 1) := by decide +kernel
theorem dX5_shortenWays_51 : decode cX5_shortenWays 51 = .ok (.getfield 21, 3) := by decide +kernel
theorem dX5_shortenWays_54 : decode cX5_shortenWays 54 = .ok (.iload_n 2, 1) := by decide +kernel
theorem dX5_shortenWays_55 : decode cX5_shortenWays 55 = .ok (.aload_n 0, 1) := by decide +kernel
theorem dX5_shortenWays_56 : decode cX5_shortenWays 56 = .ok (.getfield 21, 3) := by decide +kernel
theorem dX5_shortenWays_59 : decode cX5_shortenWays 59 = .ok (.iload_n 2, 1) := by decide +kernel
theorem dX5_shortenWays_60 : decode cX5_shortenWays 60 = .ok (.iaload, 1) := by decide +kernel
theorem dX5_shortenWays_61 : decode cX5_shortenWays 61 = .ok (.iload_n 3, 1) := by decide +kernel
theorem dX5_shortenWays_62 : decode cX5_shortenWays 62 = .ok (.iload 4, 2) := by decide +kernel
theorem dX5_shortenWays_64 : decode cX5_shortenWays 64 = .ok (.iadd, 1) := by decide +kernel
theorem dX5_shortenWays_65 : decode cX5_shortenWays 65 = .ok (.invokestatic 64, 3) := by decide +kernel
theorem dX5_shortenWays_68 : decode cX5_shortenWays 68 = .ok (.iastore, 1) := by decide +kernel
theorem dX5_shortenWays_69 : decode cX5_shortenWays 69 = .ok (.iinc 2 1, 3) := by decide +kernel
theorem dX5_shortenWays_72 : decode cX5_shortenWays 72 = .ok (.goto (-62), 3) := by decide +kernel
theorem dX5_shortenWays_75 : decode cX5_shortenWays 75 = .ok (.iinc 1 1, 3) := by decide +kernel
theorem dX5_shortenWays_78 : decode cX5_shortenWays 78 = .ok (.goto (-76), 3) := by decide +kernel
theorem dX5_shortenWays_81 : decode cX5_shortenWays 81 = .ok (.return_, 1) := by decide +kernel
set_option maxRecDepth 20000 in
theorem ggX5_tryOn_X5_tryOn : GoodIn wsX5_tryOn wsX5_tryOn := goodIn_r _ [0, 1, 2, 3, 4, 5, 6, 7, 8, 9, 10, 11, 12, 13, 14, 15, 16, 17, 18] (by decide +kernel) (by decide +kernel)
set_option maxRecDepth 20000 in
theorem gX5_tryOn_X5_tryOn : GoodIn wsX5_tryOn (wsV RX5 41 RX5 yX5_tryOn wsX5_tryOn) := goodIn_app (goodIn_of _ (by decide +kernel)) ggX5_tryOn_X5_tryOn
theorem dX5_tryOn_0 : decode cX5_tryOn 0 = .ok (.iload 4, 2) := by decide +kernel
theorem dX5_tryOn_2 : decode cX5_tryOn 2 = .ok (.aload_n 0, 1) := by decide +kernel
theorem dX5_tryOn_3 : decode cX5_tryOn 3 = .ok (.getfield 35, 3) := by decide +kernel
theorem dX5_tryOn_6 : decode cX5_tryOn 6 = .ok (.if_icmp .gt 20, 3) := by decide +kernel
theorem dX5_tryOn_9 : decode cX5_tryOn 9 = .ok (.iload 4, 2) := by decide +kernel
theorem dX5_tryOn_11 : decode cX5_tryOn 11 = .ok (.aload_n 0, 1) := by decide +kernel
theorem dX5_tryOn_12 : decode cX5_tryOn 12 = .ok (.getfield 35, 3) := by decide +kernel
theorem dX5_tryOn_15 : decode cX5_tryOn 15 = .ok (.if_icmp .ne 22, 3) := by decide +kernel
theorem dX5_tryOn_18 : decode cX5_tryOn 18 = .ok (.iload_n 3, 1) := by decide +kernel
theorem dX5_tryOn_19 : decode cX5_tryOn 19 = .ok (.aload_n 0, 1) := by decide +kernel
theorem dX5_tryOn_20 : decode cX5_tryOn 20 = .ok (.getfield 38, 3) := by decide +kernel
theorem dX5_tryOn_23 : decode cX5_tryOn 23 = .ok (.if_icmp .ge 14, 3) := by decide +kernel
theorem dX5_tryOn_26 : decode cX5_tryOn 26 = .ok (.aload_n 0, 1) := by decide +kernel
theorem dX5_tryOn_27 : decode cX5_tryOn 27 = .ok (.iload 4, 2) := by decide +kernel
theorem dX5_tryOn_29 : decode cX5_tryOn 29 = .ok (.putfield 35, 3) := by decide +kernel
theorem dX5_tryOn_32 : decode cX5_tryOn 32 = .ok (.aload_n 0, 1) := by decide +kernel
theorem dX5_tryOn_33 : decode cX5_tryOn 33 = .ok (.iload_n 3, 1) := by decide +kernel
theorem dX5_tryOn_34 : decode cX5_tryOn 34 = .ok (.putfield 38, 3) := by decide +kernel
theorem dX5_tryOn_37 : decode cX5_tryOn 37 = .ok (.iload 5, 2) := by decide +kernel
theorem dX5_tryOn_39 : decode cX5_tryOn 39 = .ok (.iconst 4, 1) := by decide +kernel
theorem dX5_tryOn_40 : decode cX5_tryOn 40 = .ok (.if_icmp .lt 4, 3) := by decide +kernel
theorem dX5_tryOn_43 : decode cX5_tryOn 43 = .ok (.return_, 1) := by decide +kernel
theorem dX5_tryOn_44 : decode cX5_tryOn 44 = .ok (.iconst 0, 1) := by decide +kernel
theorem dX5_tryOn_45 : decode cX5_tryOn 45 = .ok (.istore 6, 2) := by decide +kernel
theorem dX5_tryOn_47 : decode cX5_tryOn 47 = .ok (.iload 6, 2) := by decide +kernel
theorem dX5_tryOn_49 : decode cX5_tryOn 49 = .ok (.aload_n 0, 1) := by decide +kernel
theorem dX5_tryOn_50 : decode cX5_tryOn 50 = .ok (.getfield 24, 3) := by decide +kernel
theorem dX5_tryOn_53 : decode cX5_tryOn 53 = .ok (.if_icmp .ge 106, 3) := by decide +kernel
theorem dX5_tryOn_56 : decode cX5_tryOn 56 = .ok (.iload_n 3, 1) := by decide +kernel
theorem dX5_tryOn_57 : decode cX5_tryOn 57 = .ok (.iload 6, 2) := by decide +kernel
theorem dX5_tryOn_59 : decode cX5_tryOn 59 = .ok (.ishr, 1) := by decide +kernel
theorem dX5_tryOn_60 : decode cX5_tryOn 60 = .ok (.iconst 1, 1) := by decide +kernel
theorem dX5_tryOn_61 : decode cX5_tryOn 61 = .ok (.iand, 1) := by decide +kernel
theorem dX5_tryOn_62 : decode cX5_tryOn 62 = .ok (.iconst 1, 1) := by decide +kernel
theorem dX5_tryOn_63 : decode cX5_tryOn 63 = .ok (.if_icmp .ne 6, 3) := by decide +kernel
theorem dX5_tryOn_66 : decode cX5_tryOn 66 = .ok (.goto 87, 3) := by decide +kernel
theorem dX5_tryOn_69 : decode cX5_tryOn 69 = .ok (.aload_n 0, 1) := by decide +kernel
theorem dX5_tryOn_70 : decode cX5_tryOn 70 = .ok (.getfield 21, 3) := by decide +kernel
theorem dX5_tryOn_73 : decode cX5_tryOn 73 = .ok (.iload_n 1, 1) := by decide +kernel
theorem dX5_tryOn_74 : decode cX5_tryOn 74 = .ok (.bipush 7, 2) := by decide +kernel
theorem dX5_tryOn_76 : decode cX5_tryOn 76 = .ok (.imul, 1) := by decide +kernel
theorem dX5_tryOn_77 : decode cX5_tryOn 77 = .ok (.aload_n 0, 1) := by decide +kernel
theorem dX5_tryOn_78 : decode cX5_tryOn 78 = .ok (.getfield 9, 3) := by decide +kernel
theorem dX5_tryOn_81 : decode cX5_tryOn 81 = .ok (.iload 6, 2) := by decide +kernel
theorem dX5_tryOn_83 : decode cX5_tryOn 83 = .ok (.iaload, 1) := by decide +kernel
theorem dX5_tryOn_84 : decode cX5_tryOn 84 = .ok (.iadd, 1) := by decide +kernel
theorem dX5_tryOn_85 : decode cX5_tryOn 85 = .ok (.iaload, 1) := by decide +kernel
theorem dX5_tryOn_86 : decode cX5_tryOn 86 = .ok (.aload_n 0, 1) := by decide +kernel
theorem dX5_tryOn_87 : decode cX5_tryOn 87 = .ok (.getfield 21, 3) := by decide +kernel
theorem dX5_tryOn_90 : decode cX5_tryOn 90 = .ok (.aload_n 0, 1) := by decide +kernel
theorem dX5_tryOn_91 : decode cX5_tryOn 91 = .ok (.getfield 9, 3) := by decide +kernel
theorem dX5_tryOn_94 : decode cX5_tryOn 94 = .ok (.iload 6, 2) := by decide +kernel
theorem dX5_tryOn_96 : decode cX5_tryOn 96 = .ok (.iaload, 1) := by decide +kernel
theorem dX5_tryOn_97 : decode cX5_tryOn 97 = .ok (.bipush 7, 2) := by decide +kernel
theorem dX5_tryOn_99 : decode cX5_tryOn 99 = .ok (.imul, 1) := by decide +kernel
theorem dX5_tryOn_100 : decode cX5_tryOn 100 = .ok (.aload_n 0, 1) := by decide +kernel
theorem dX5_tryOn_101 : decode cX5_tryOn 101 = .ok (.getfield 15, 3) := by decide +kernel
theorem dX5_tryOn_104 : decode cX5_tryOn 104 = .ok (.iload 6, 2) := by decide +kernel
theorem dX5_tryOn_106 : decode cX5_tryOn 106 = .ok (.iaload, 1) := by decide +kernel
theorem dX5_tryOn_107 : decode cX5_tryOn 107 = .ok (.iadd, 1) := by decide +kernel
theorem dX5_tryOn_108 : decode cX5_tryOn 108 = .ok (.iaload, 1) := by decide +kernel
theorem dX5_tryOn_109 : decode cX5_tryOn 109 = .ok (.iadd, 1) := by decide +kernel
theorem dX5_tryOn_110 : decode cX5_tryOn 110 = .ok (.istore 7, 2) := by decide +kernel
theorem dX5_tryOn_112 : decode cX5_tryOn 112 = .ok (.iload 7, 2) := by decide +kernel
theorem dX5_tryOn_114 : decode cX5_tryOn 114 = .ok (.iload_n 2, 1) := by decide +kernel
theorem dX5_tryOn_115 : decode cX5_tryOn 115 = .ok (.if_icmp .gt 38, 3) := by decide +kernel
theorem dX5_tryOn_118 : decode cX5_tryOn 118 = .ok (.aload_n 0, 1) := by decide +kernel
theorem dX5_tryOn_119 : decode cX5_tryOn 119 = .ok (.aload_n 0, 1) := by decide +kernel
theorem dX5_tryOn_120 : decode cX5_tryOn 120 = .ok (.getfield 15, 3) := by decide +kernel
theorem dX5_tryOn_123 : decode cX5_tryOn 123 = .ok (.iload 6, 2) := by decide +kernel
theorem dX5_tryOn_125 : decode cX5_tryOn 125 = .ok (.iaload, 1) := by decide +kernel
theorem dX5_tryOn_126 : decode cX5_tryOn 126 = .ok (.iload_n 2, 1) := by decide +kernel
theorem dX5_tryOn_127 : decode cX5_tryOn 127 = .ok (.iload 7, 2) := by decide +kernel
theorem dX5_tryOn_129 : decode cX5_tryOn 129 = .ok (.isub, 1) := by decide +kernel
theorem dX5_tryOn_130 : decode cX5_tryOn 130 = .ok (.iload_n 3, 1) := by decide +kernel
theorem dX5_tryOn_131 : decode cX5_tryOn 131 = .ok (.iconst 1, 1) := by decide +kernel
theorem dX5_tryOn_132 : decode cX5_tryOn 132 = .ok (.iload 6, 2) := by decide +kernel
theorem dX5_tryOn_134 : decode cX5_tryOn 134 = .ok (.ishl, 1) := by decide +kernel
theorem dX5_tryOn_135 : decode cX5_tryOn 135 = .ok (.ior, 1) := by decide +kernel
theorem dX5_tryOn_136 : decode cX5_tryOn 136 = .ok (.iload 4, 2) := by decide +kernel
theorem dX5_tryOn_138 : decode cX5_tryOn 138 = .ok (.aload_n 0, 1) := by decide +kernel
theorem dX5_tryOn_139 : decode cX5_tryOn 139 = .ok (.getfield 18, 3) := by decide +kernel
theorem dX5_tryOn_142 : decode cX5_tryOn 142 = .ok (.iload 6, 2) := by decide +kernel
theorem dX5_tryOn_144 : decode cX5_tryOn 144 = .ok (.iaload, 1) := by decide +kernel
theorem dX5_tryOn_145 : decode cX5_tryOn 145 = .ok (.iadd, 1) := by decide +kernel
theorem dX5_tryOn_146 : decode cX5_tryOn 146 = .ok (.iload 5, 2) := by decide +kernel
theorem dX5_tryOn_148 : decode cX5_tryOn 148 = .ok (.iconst 1, 1) := by decide +kernel
theorem dX5_tryOn_149 : decode cX5_tryOn 149 = .ok (.iadd, 1) := by decide +kernel
theorem dX5_tryOn_150 : decode cX5_tryOn 150 = .ok (.invokevirtual 41, 3) := by decide +kernel
theorem dX5_tryOn_153 : decode cX5_tryOn 153 = .ok (.iinc 6 1, 3) := by decide +kernel
theorem dX5_tryOn_156 : decode cX5_tryOn 156 = .ok (.goto (-109), 3) := by decide +kernel
theorem dX5_tryOn_159 : decode cX5_tryOn 159 = .ok (.return_, 1) := by decide +kernel
set_option maxRecDepth 20000 in
theorem ggX6_init_X2_init : GoodIn wsX6_init wsX2_init := goodIn_r _ [35, 36, 2, 3, 37, 38, 84, 85, 86, 87, 88, 89, 90] (by decide +kernel) (by decide +kernel)
set_option maxRecDepth 20000 in
theorem gX6_init_X2_init : GoodIn wsX6_init (wsX2_init) := ggX6_init_X2_init
set_option maxRecDepth 20000 in
theorem ggX6_init_X4_init : GoodIn wsX6_init wsX4_init := goodIn_r _ [41, 42, 2, 3, 37, 43, 44, 45, 46, 47, 48, 49, 50, 51, 52, 101, 102, 103, 104, 105, 106, 107, 108, 109, 110, 111, 112, 113, 114, 115] (by decide +kernel) (by decide +kernel)
set_option maxRecDepth 20000 in
theorem gX6_init_X4_init : GoodIn wsX6_init (wsX4_init) := ggX6_init_X4_init
set_option maxRecDepth 20000 in
theorem ggX6_init_X1_init : GoodIn wsX6_init wsX1_init := goodIn_r _ [55, 56, 2, 3, 37, 57, 58, 59, 60, 61, 116, 117, 118, 119, 120, 121, 122, 123, 124] (by decide +kernel) (by decide +kernel)
set_option maxRecDepth 20000 in
theorem gX6_init_X1_init : GoodIn wsX6_init (wsX1_init) := ggX6_init_X1_init
set_option maxRecDepth 20000 in
theorem ggX6_init_X0_init : GoodIn wsX6_init wsX0_init := goodIn_r _ [64, 65, 2, 3, 37, 66, 67, 125, 126, 127, 128, 129] (by decide +kernel) (by decide +kernel)
set_option maxRecDepth 20000 in
theorem gX6_init_X0_init : GoodIn wsX6_init (wsX0_init) := ggX6_init_X0_init
set_option maxRecDepth 20000 in
theorem ggX6_init_X3_init : GoodIn wsX6_init wsX3_init := goodIn_r _ [70, 71, 2, 3, 37, 72, 73, 74, 75, 130, 131, 132, 133, 134, 135] (by decide +kernel) (by decide +kernel)
set_option maxRecDepth 20000 in
theorem gX6_init_X3_init : GoodIn wsX6_init (wsX3_init) := ggX6_init_X3_init
set_option maxRecDepth 20000 in
theorem ggX6_init_X5_init : GoodIn wsX6_init wsX5_init := goodIn_r _ [78, 79, 2, 3, 37, 80, 81, 82, 83, 136, 137, 138, 139, 140, 141, 142] (by decide +kernel) (by decide +kernel)
set_option maxRecDepth 20000 in
theorem gX6_init_X5_init : GoodIn wsX6_init (wsX5_init) := ggX6_init_X5_init
theorem dX6_init_0 : decode cX6_init 0 = .ok (.aload_n 0, 1) := by decide +kernel
theorem dX6_init_1 : decode cX6_init 1 = .ok (.invokespecial 1, 3) := by decide +kernel
theorem dX6_init_4 : decode cX6_init 4 = .ok (.aload_n 0, 1) := by decide +kernel
theorem dX6_init_5 : decode cX6_init 5 = .ok (.new 7, 3) := by decide +kernel
theorem dX6_init_8 : decode cX6_init 8 = .ok (.dup, 1) := by decide +kernel
theorem dX6_init_9 : decode cX6_init 9 = .ok (.invokespecial 9, 3) := by decide +kernel
theorem dX6_init_12 : decode cX6_init 12 = .ok (.putfield 10, 3) := by decide +kernel
theorem dX6_init_15 : decode cX6_init 15 = .ok (.aload_n 0, 1) := by decide +kernel
theorem dX6_init_16 : decode cX6_init 16 = .ok (.new 16, 3) := by decide +kernel
theorem dX6_init_19 : decode cX6_init 19 = .ok (.dup, 1) := by decide +kernel
theorem dX6_init_20 : decode cX6_init 20 = .ok (.invokespecial 18, 3) := by decide +kernel
theorem dX6_init_23 : decode cX6_init 23 = .ok (.putfield 19, 3) := by decide +kernel
theorem dX6_init_26 : decode cX6_init 26 = .ok (.aload_n 0, 1) := by decide +kernel
theorem dX6_init_27 : decode cX6_init 27 = .ok (.new 16, 3) := by decide +kernel
theorem dX6_init_30 : decode cX6_init 30 = .ok (.dup, 1) := by decide +kernel
theorem dX6_init_31 : decode cX6_init 31 = .ok (.invokespecial 18, 3) := by decide +kernel
theorem dX6_init_34 : decode cX6_init 34 = .ok (.putfield 23, 3) := by decide +kernel
theorem dX6_init_37 : decode cX6_init 37 = .ok (.aload_n 0, 1) := by decide +kernel
theorem dX6_init_38 : decode cX6_init 38 = .ok (.new 26, 3) := by decide +kernel
theorem dX6_init_41 : decode cX6_init 41 = .ok (.dup, 1) := by decide +kernel
theorem dX6_init_42 : decode cX6_init 42 = .ok (.invokespecial 28, 3) := by decide +kernel
theorem dX6_init_45 : decode cX6_init 45 = .ok (.putfield 29, 3) := by decide +kernel
theorem dX6_init_48 : decode cX6_init 48 = .ok (.aload_n 0, 1) := by decide +kernel
theorem dX6_init_49 : decode cX6_init 49 = .ok (.iconst 2, 1) := by decide +kernel
theorem dX6_init_50 : decode cX6_init 50 = .ok (.anewarray 26, 3) := by decide +kernel
theorem dX6_init_53 : decode cX6_init 53 = .ok (.dup, 1) := by decide +kernel
theorem dX6_init_54 : decode cX6_init 54 = .ok (.iconst 0, 1) := by decide +kernel
theorem dX6_init_55 : decode cX6_init 55 = .ok (.new 26, 3) := by decide +kernel
theorem dX6_init_58 : decode cX6_init 58 = .ok (.dup, 1) := by decide +kernel
theorem dX6_init_59 : decode cX6_init 59 = .ok (.invokespecial 28, 3) := by decide +kernel
theorem dX6_init_62 : decode cX6_init 62 = .ok (.aastore, 1) := by decide +kernel
theorem dX6_init_63 : decode cX6_init 63 = .ok (.dup, 1) := by decide +kernel
theorem dX6_init_64 : decode cX6_init 64 = .ok (.iconst 1, 1) := by decide +kernel
theorem dX6_init_65 : decode cX6_init 65 = .ok (.new 26, 3) := by decide +kernel
theorem dX6_init_68 : decode cX6_init 68 = .ok (.dup, 1) := by decide +kernel
theorem dX6_init_69 : decode cX6_init 69 = .ok (.invokespecial 28, 3) := by decide +kernel
theorem dX6_init_72 : decode cX6_init 72 = .ok (.aastore, 1) := by decide +kernel
theorem dX6_init_73 : decode cX6_init 73 = .ok (.putfield 33, 3) := by decide +kernel

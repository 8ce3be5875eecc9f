theorem dX7_fog_24 : decode cX7_fog 24 = .ok (.iconst 1, 1) := by decide +kernel
theorem dX7_fog_25 : decode cX7_fog 25 = .ok (.goto 4, 3) := by decide +kernel
theorem dX7_fog_28 : decode cX7_fog 28 = .ok (.iconst 0, 1) := by decide +kernel
theorem dX7_fog_29 : decode cX7_fog 29 = .ok (.ireturn, 1) := by decide +kernel
theorem dX7_notes_0 : decode cX7_notes 0 = .ok (.aload_n 0, 1) := by decide +kernel
theorem dX7_notes_1 : decode cX7_notes 1 = .ok (.getfield 166, 3) := by decide +kernel
theorem dX7_notes_4 : decode cX7_notes 4 = .ok (.bipush 10, 2) := by decide +kernel
theorem dX7_notes_6 : decode cX7_notes 6 = .ok (.if_icmp .ne 37, 3) := by decide +kernel
theorem dX7_notes_9 : decode cX7_notes 9 = .ok (.iconst 4, 1) := by decide +kernel
theorem dX7_notes_10 : decode cX7_notes 10 = .ok (.istore_n 1, 1) := by decide +kernel
theorem dX7_notes_11 : decode cX7_notes 11 = .ok (.iload_n 1, 1) := by decide +kernel
theorem dX7_notes_12 : decode cX7_notes 12 = .ok (.bipush 40, 2) := by decide +kernel
theorem dX7_notes_14 : decode cX7_notes 14 = .ok (.if_icmp .ge 23, 3) := by decide +kernel
theorem dX7_notes_17 : decode cX7_notes 17 = .ok (.aload_n 0, 1) := by decide +kernel
theorem dX7_notes_18 : decode cX7_notes 18 = .ok (.getfield 22, 3) := by decide +kernel
theorem dX7_notes_21 : decode cX7_notes 21 = .ok (.iload_n 1, 1) := by decide +kernel
theorem dX7_notes_22 : decode cX7_notes 22 = .ok (.iconst 4, 1) := by decide +kernel
theorem dX7_notes_23 : decode cX7_notes 23 = .ok (.isub, 1) := by decide +kernel
theorem dX7_notes_24 : decode cX7_notes 24 = .ok (.aload_n 0, 1) := by decide +kernel
theorem dX7_notes_25 : decode cX7_notes 25 = .ok (.getfield 22, 3) := by decide +kernel
theorem dX7_notes_28 : decode cX7_notes 28 = .ok (.iload_n 1, 1) := by decide +kernel
theorem dX7_notes_29 : decode cX7_notes 29 = .ok (.iaload, 1) := by decide +kernel
theorem dX7_notes_30 : decode cX7_notes 30 = .ok (.iastore, 1) := by decide +kernel
theorem dX7_notes_31 : decode cX7_notes 31 = .ok (.iinc 1 1, 3) := by decide +kernel
theorem dX7_notes_34 : decode cX7_notes 34 = .ok (.goto (-23), 3) := by decide +kernel
theorem dX7_notes_37 : decode cX7_notes 37 = .ok (.aload_n 0, 1) := by decide +kernel
theorem dX7_notes_38 : decode cX7_notes 38 = .ok (.bipush 9, 2) := by decide +kernel
theorem dX7_notes_40 : decode cX7_notes 40 = .ok (.putfield 166, 3) := by decide +kernel
theorem dX7_notes_43 : decode cX7_notes 43 = .ok (.iconst 0, 1) := by decide +kernel
theorem dX7_notes_44 : decode cX7_notes 44 = .ok (.istore_n 1, 1) := by decide +kernel
theorem dX7_notes_45 : decode cX7_notes 45 = .ok (.iload_n 1, 1) := by decide +kernel
theorem dX7_notes_46 : decode cX7_notes 46 = .ok (.iconst 4, 1) := by decide +kernel
theorem dX7_notes_47 : decode cX7_notes 47 = .ok (.if_icmp .ge 28, 3) := by decide +kernel
theorem dX7_notes_50 : decode cX7_notes 50 = .ok (.aload_n 0, 1) := by decide +kernel
theorem dX7_notes_51 : decode cX7_notes 51 = .ok (.getfield 22, 3) := by decide +kernel
theorem dX7_notes_54 : decode cX7_notes 54 = .ok (.iconst 4, 1) := by decide +kernel
theorem dX7_notes_55 : decode cX7_notes 55 = .ok (.aload_n 0, 1) := by decide +kernel
theorem dX7_notes_56 : decode cX7_notes 56 = .ok (.getfield 166, 3) := by decide +kernel
theorem dX7_notes_59 : decode cX7_notes 59 = .ok (.imul, 1) := by decide +kernel
theorem dX7_notes_60 : decode cX7_notes 60 = .ok (.iload_n 1, 1) := by decide +kernel
theorem dX7_notes_61 : decode cX7_notes 61 = .ok (.iadd, 1) := by decide +kernel
theorem dX7_notes_62 : decode cX7_notes 62 = .ok (.aload_n 0, 1) := by decide +kernel
theorem dX7_notes_63 : decode cX7_notes 63 = .ok (.getfield 19, 3) := by decide +kernel
theorem dX7_notes_66 : decode cX7_notes 66 = .ok (.iload_n 1, 1) := by decide +kernel
theorem dX7_notes_67 : decode cX7_notes 67 = .ok (.iaload, 1) := by decide +kernel
theorem dX7_notes_68 : decode cX7_notes 68 = .ok (.iastore, 1) := by decide +kernel
theorem dX7_notes_69 : decode cX7_notes 69 = .ok (.iinc 1 1, 3) := by decide +kernel
theorem dX7_notes_72 : decode cX7_notes 72 = .ok (.goto (-27), 3) := by decide +kernel
theorem dX7_notes_75 : decode cX7_notes 75 = .ok (.aload_n 0, 1) := by decide +kernel
theorem dX7_notes_76 : decode cX7_notes 76 = .ok (.dup, 1) := by decide +kernel
theorem dX7_notes_77 : decode cX7_notes 77 = .ok (.getfield 166, 3) := by decide +kernel
theorem dX7_notes_80 : decode cX7_notes 80 = .ok (.iconst 1, 1) := by decide +kernel
theorem dX7_notes_81 : decode cX7_notes 81 = .ok (.iadd, 1) := by decide +kernel
theorem dX7_notes_82 : decode cX7_notes 82 = .ok (.putfield 166, 3) := by decide +kernel
theorem dX7_notes_85 : decode cX7_notes 85 = .ok (.return_, 1) := by decide +kernel
set_option maxRecDepth 20000 in
theorem ggX7_mayHire_X7_isHis : GoodIn wsX7_mayHire wsX7_isHis := goodIn_r _ [7, 8, 9, 10, 6, 11, 2, 12, 13, 14, 15, 16, 17, 18, 19, 20, 21, 22, 23, 24, 25, 26, 27, 28, 29, 30, 31, 32, 33, 34, 35, 36, 37, 38, 39, 40, 41, 42, 43, 44, 45] (by decide +kernel) (by decide +kernel)
set_option maxRecDepth 20000 in
theorem gX7_mayHire_X7_isHis : GoodIn wsX7_mayHire (wsV RX7 200 RX7 yX7_isHis wsX7_isHis) := goodIn_app (goodIn_of _ (by decide +kernel)) ggX7_mayHire_X7_isHis
theorem dX7_mayHire_0 : decode cX7_mayHire 0 = .ok (.aload_n 0, 1) := by decide +kernel
theorem dX7_mayHire_1 : decode cX7_mayHire 1 = .ok (.getfield 19, 3) := by decide +kernel
theorem dX7_mayHire_4 : decode cX7_mayHire 4 = .ok (.iconst 3, 1) := by decide +kernel
theorem dX7_mayHire_5 : decode cX7_mayHire 5 = .ok (.iaload, 1) := by decide +kernel
theorem dX7_mayHire_6 : decode cX7_mayHire 6 = .ok (.bipush (-9), 2) := by decide +kernel
theorem dX7_mayHire_8 : decode cX7_mayHire 8 = .ok (.if_icmp .eq 7, 3) := by decide +kernel
theorem dX7_mayHire_11 : decode cX7_mayHire 11 = .ok (.iconst 1, 1) := by decide +kernel
theorem dX7_mayHire_12 : decode cX7_mayHire 12 = .ok (.goto 4, 3) := by decide +kernel
theorem dX7_mayHire_15 : decode cX7_mayHire 15 = .ok (.iconst 0, 1) := by decide +kernel
theorem dX7_mayHire_16 : decode cX7_mayHire 16 = .ok (.istore_n 2, 1) := by decide +kernel
theorem dX7_mayHire_17 : decode cX7_mayHire 17 = .ok (.aload_n 0, 1) := by decide +kernel
theorem dX7_mayHire_18 : decode cX7_mayHire 18 = .ok (.iload_n 1, 1) := by decide +kernel
theorem dX7_mayHire_19 : decode cX7_mayHire 19 = .ok (.aload_n 0, 1) := by decide +kernel
theorem dX7_mayHire_20 : decode cX7_mayHire 20 = .ok (.getfield 19, 3) := by decide +kernel
theorem dX7_mayHire_23 : decode cX7_mayHire 23 = .ok (.iconst 0, 1) := by decide +kernel
theorem dX7_mayHire_24 : decode cX7_mayHire 24 = .ok (.iaload, 1) := by decide +kernel
theorem dX7_mayHire_25 : decode cX7_mayHire 25 = .ok (.invokevirtual 200, 3) := by decide +kernel
theorem dX7_mayHire_28 : decode cX7_mayHire 28 = .ok (.ifCond .eq 59, 3) := by decide +kernel
theorem dX7_mayHire_31 : decode cX7_mayHire 31 = .ok (.aload_n 0, 1) := by decide +kernel
theorem dX7_mayHire_32 : decode cX7_mayHire 32 = .ok (.getfield 19, 3) := by decide +kernel
theorem dX7_mayHire_35 : decode cX7_mayHire 35 = .ok (.iconst 3, 1) := by decide +kernel
theorem dX7_mayHire_36 : decode cX7_mayHire 36 = .ok (.iaload, 1) := by decide +kernel
theorem dX7_mayHire_37 : decode cX7_mayHire 37 = .ok (.iload_n 1, 1) := by decide +kernel
theorem dX7_mayHire_38 : decode cX7_mayHire 38 = .ok (.if_icmp .eq 49, 3) := by decide +kernel
theorem dX7_mayHire_41 : decode cX7_mayHire 41 = .ok (.iload_n 2, 1) := by decide +kernel
theorem dX7_mayHire_42 : decode cX7_mayHire 42 = .ok (.ifCond .eq 41, 3) := by decide +kernel
theorem dX7_mayHire_45 : decode cX7_mayHire 45 = .ok (.aload_n 0, 1) := by decide +kernel
theorem dX7_mayHire_46 : decode cX7_mayHire 46 = .ok (.aload_n 0, 1) := by decide +kernel
theorem dX7_mayHire_47 : decode cX7_mayHire 47 = .ok (.getfield 19, 3) := by decide +kernel
theorem dX7_mayHire_50 : decode cX7_mayHire 50 = .ok (.iconst 3, 1) := by decide +kernel
theorem dX7_mayHire_51 : decode cX7_mayHire 51 = .ok (.iaload, 1) := by decide +kernel
theorem dX7_mayHire_52 : decode cX7_mayHire 52 = .ok (.aload_n 0, 1) := by decide +kernel
theorem dX7_mayHire_53 : decode cX7_mayHire 53 = .ok (.getfield 19, 3) := by decide +kernel
theorem dX7_mayHire_56 : decode cX7_mayHire 56 = .ok (.iconst 0, 1) := by decide +kernel
theorem dX7_mayHire_57 : decode cX7_mayHire 57 = .ok (.iaload, 1) := by decide +kernel
theorem dX7_mayHire_58 : decode cX7_mayHire 58 = .ok (.invokevirtual 200, 3) := by decide +kernel
theorem dX7_mayHire_61 : decode cX7_mayHire 61 = .ok (.ifCond .eq 26, 3) := by decide +kernel
theorem dX7_mayHire_64 : decode cX7_mayHire 64 = .ok (.aload_n 0, 1) := by decide +kernel
theorem dX7_mayHire_65 : decode cX7_mayHire 65 = .ok (.getfield 19, 3) := by decide +kernel
theorem dX7_mayHire_68 : decode cX7_mayHire 68 = .ok (.iconst 1, 1) := by decide +kernel
theorem dX7_mayHire_69 : decode cX7_mayHire 69 = .ok (.iaload, 1) := by decide +kernel
theorem dX7_mayHire_70 : decode cX7_mayHire 70 = .ok (.aload_n 0, 1) := by decide +kernel
theorem dX7_mayHire_71 : decode cX7_mayHire 71 = .ok (.getfield 16, 3) := by decide +kernel
theorem dX7_mayHire_74 : decode cX7_mayHire 74 = .ok (.iconst 3, 1) := by decide +kernel
theorem dX7_mayHire_75 : decode cX7_mayHire 75 = .ok (.iaload, 1) := by decide +kernel
theorem dX7_mayHire_76 : decode cX7_mayHire 76 = .ok (.iadd, 1) := by decide +kernel
theorem dX7_mayHire_77 : decode cX7_mayHire 77 = .ok (.sipush 9999, 3) := by decide +kernel
theorem dX7_mayHire_80 : decode cX7_mayHire 80 = .ok (.if_icmp .gt 7, 3) := by decide +kernel
theorem dX7_mayHire_83 : decode cX7_mayHire 83 = .ok (.iconst 1, 1) := by decide +kernel
theorem dX7_mayHire_84 : decode cX7_mayHire 84 = .ok (.goto 4, 3) := by decide +kernel
theorem dX7_mayHire_87 : decode cX7_mayHire 87 = .ok (.iconst 0, 1) := by decide +kernel
theorem dX7_mayHire_88 : decode cX7_mayHire 88 = .ok (.ireturn, 1) := by decide +kernel
set_option maxRecDepth 20000 in
theorem ggX7_hires_X7_isGuide : GoodIn wsX7_hires wsX7_isGuide := goodIn_r _ [7, 2, 8, 9, 6, 10, 29, 30, 31, 32, 33, 34, 35, 36, 37, 38, 39, 40, 41, 42, 43, 44, 45, 46, 47, 48, 49, 50, 51, 52, 53, 54, 55, 56, 57, 58, 59, 60, 61, 62] (by decide +kernel) (by decide +kernel)
set_option maxRecDepth 20000 in
theorem gX7_hires_X7_isGuide : GoodIn wsX7_hires (wsV RX7 181 RX7 yX7_isGuide wsX7_isGuide) := goodIn_app (goodIn_of _ (by decide +kernel)) ggX7_hires_X7_isGuide
set_option maxRecDepth 20000 in
theorem ggX7_hires_X7_mayHire : GoodIn wsX7_hires wsX7_mayHire := goodIn_r _ [14, 1, 2, 15, 16, 17, 6, 18, 19, 20, 21, 22, 29, 30, 31, 32, 33, 34, 35, 36, 37, 38, 39, 40, 41, 42, 43, 44, 45, 46, 47, 48, 49, 50, 51, 52, 53, 54, 55, 56, 57, 58, 59, 60, 61, 62] (by decide +kernel) (by decide +kernel)
set_option maxRecDepth 20000 in
theorem gX7_hires_X7_mayHire : GoodIn wsX7_hires (wsV RX7 203 RX7 yX7_mayHire wsX7_mayHire) := goodIn_app (goodIn_of _ (by decide +kernel)) ggX7_hires_X7_mayHire
set_option maxRecDepth 20000 in
theorem ggX7_hires_X7_notes : GoodIn wsX7_hires wsX7_notes := goodIn_r _ [26, 27, 28, 1, 29, 30, 31, 32, 33, 34, 35, 36, 37, 38, 39, 40, 41, 42, 43, 44, 45, 46, 47, 48, 49, 50, 51, 52, 53, 54, 55, 56, 57, 58, 59, 60, 61, 62] (by decide +kernel) (by decide +kernel)
set_option maxRecDepth 20000 in
theorem gX7_hires_X7_notes : GoodIn wsX7_hires (wsV RX7 206 RX7 yX7_notes wsX7_notes) := goodIn_app (goodIn_of _ (by decide +kernel)) ggX7_hires_X7_notes
theorem dX7_hires_0 : decode cX7_hires 0 = .ok (.aload_n 0, 1) := by decide +kernel
theorem dX7_hires_1 : decode cX7_hires 1 = .ok (.iload_n 1, 1) := by decide +kernel
theorem dX7_hires_2 : decode cX7_hires 2 = .ok (.invokevirtual 181, 3) := by decide +kernel
theorem dX7_hires_5 : decode cX7_hires 5 = .ok (.ifCond .ne 5, 3) := by decide +kernel
theorem dX7_hires_8 : decode cX7_hires 8 = .ok (.iconst (-1), 1) := by decide +kernel
theorem dX7_hires_9 : decode cX7_hires 9 = .ok (.ireturn, 1) := by decide +kernel
theorem dX7_hires_10 : decode cX7_hires 10 = .ok (.aload_n 0, 1) := by decide +kernel
theorem dX7_hires_11 : decode cX7_hires 11 = .ok (.iload_n 1, 1) := by decide +kernel
theorem dX7_hires_12 : decode cX7_hires 12 = .ok (.invokevirtual 203, 3) := by decide +kernel
theorem dX7_hires_15 : decode cX7_hires 15 = .ok (.ifCond .ne 6, 3) := by decide +kernel
theorem dX7_hires_18 : decode cX7_hires 18 = .ok (.bipush (-2), 2) := by decide +kernel
theorem dX7_hires_20 : decode cX7_hires 20 = .ok (.ireturn, 1) := by decide +kernel
theorem dX7_hires_21 : decode cX7_hires 21 = .ok (.aload_n 0, 1) := by decide +kernel
theorem dX7_hires_22 : decode cX7_hires 22 = .ok (.invokevirtual 206, 3) := by decide +kernel
theorem dX7_hires_25 : decode cX7_hires 25 = .ok (.aload_n 0, 1) := by decide +kernel
theorem dX7_hires_26 : decode cX7_hires 26 = .ok (.getfield 19, 3) := by decide +kernel
theorem dX7_hires_29 : decode cX7_hires 29 = .ok (.iconst 1, 1) := by decide +kernel
theorem dX7_hires_30 : decode cX7_hires 30 = .ok (.dup2, 1) := by decide +kernel
theorem dX7_hires_31 : decode cX7_hires 31 = .ok (.iaload, 1) := by decide +kernel
theorem dX7_hires_32 : decode cX7_hires 32 = .ok (.aload_n 0, 1) := by decide +kernel
theorem dX7_hires_33 : decode cX7_hires 33 = .ok (.getfield 19, 3) := by decide +kernel
theorem dX7_hires_36 : decode cX7_hires 36 = .ok (.iconst 3, 1) := by decide +kernel
theorem dX7_hires_37 : decode cX7_hires 37 = .ok (.iaload, 1) := by decide +kernel
theorem dX7_hires_38 : decode cX7_hires 38 = .ok (.bipush (-9), 2) := by decide +kernel
theorem dX7_hires_40 : decode cX7_hires 40 = .ok (.if_icmp .ne 7, 3) := by decide +kernel
theorem dX7_hires_43 : decode cX7_hires 43 = .ok (.iconst 0, 1) := by decide +kernel
theorem dX7_hires_44 : decode cX7_hires 44 = .ok (.goto 9, 3) := by decide +kernel
theorem dX7_hires_47 : decode cX7_hires 47 = .ok (.aload_n 0, 1) := by decide +kernel
theorem dX7_hires_48 : decode cX7_hires 48 = .ok (.getfield 16, 3) := by decide +kernel
theorem dX7_hires_51 : decode cX7_hires 51 = .ok (.iconst 3, 1) := by decide +kernel
theorem dX7_hires_52 : decode cX7_hires 52 = .ok (.iaload, 1) := by decide +kernel
theorem dX7_hires_53 : decode cX7_hires 53 = .ok (.iadd, 1) := by decide +kernel
theorem dX7_hires_54 : decode cX7_hires 54 = .ok (.iastore, 1) := by decide +kernel
theorem dX7_hires_55 : decode cX7_hires 55 = .ok (.aload_n 0, 1) := by decide +kernel
theorem dX7_hires_56 : decode cX7_hires 56 = .ok (.getfield 19, 3) := by decide +kernel
theorem dX7_hires_59 : decode cX7_hires 59 = .ok (.iconst 3, 1) := by decide +kernel
theorem dX7_hires_60 : decode cX7_hires 60 = .ok (.iload_n 1, 1) := by decide +kernel
theorem dX7_hires_61 : decode cX7_hires 61 = .ok (.iastore, 1) := by decide +kernel
theorem dX7_hires_62 : decode cX7_hires 62 = .ok (.aload_n 0, 1) := by decide +kernel
theorem dX7_hires_63 : decode cX7_hires 63 = .ok (.getfield 19, 3) := by decide +kernel
theorem dX7_hires_66 : decode cX7_hires 66 = .ok (.iconst 1, 1) := by decide +kernel
theorem dX7_hires_67 : decode cX7_hires 67 = .ok (.iaload, 1) := by decide +kernel
theorem dX7_hires_68 : decode cX7_hires 68 = .ok (.ireturn, 1) := by decide +kernel
set_option maxRecDepth 20000 in
theorem ggX7_leaves_X7_notes : GoodIn wsX7_leaves wsX7_notes := goodIn_r _ [6, 7, 8, 1, 9, 10, 11, 12, 13, 14, 15, 16, 17, 18, 19, 20, 21, 22, 23, 24, 25, 26, 27, 28, 29, 30, 31, 32, 33, 34, 35, 36, 37, 38, 39, 40, 41, 42] (by decide +kernel) (by decide +kernel)
set_option maxRecDepth 20000 in
theorem gX7_leaves_X7_notes : GoodIn wsX7_leaves (wsV RX7 206 RX7 yX7_notes wsX7_notes) := goodIn_app (goodIn_of _ (by decide +kernel)) ggX7_leaves_X7_notes
theorem dX7_leaves_0 : decode cX7_leaves 0 = .ok (.aload_n 0, 1) := by decide +kernel
theorem dX7_leaves_1 : decode cX7_leaves 1 = .ok (.getfield 19, 3) := by decide +kernel
theorem dX7_leaves_4 : decode cX7_leaves 4 = .ok (.iconst 3, 1) := by decide +kernel
theorem dX7_leaves_5 : decode cX7_leaves 5 = .ok (.iaload, 1) := by decide +kernel
theorem dX7_leaves_6 : decode cX7_leaves 6 = .ok (.bipush (-9), 2) := by decide +kernel
theorem dX7_leaves_8 : decode cX7_leaves 8 = .ok (.if_icmp .ne 6, 3) := by decide +kernel
theorem dX7_leaves_11 : decode cX7_leaves 11 = .ok (.bipush (-2), 2) := by decide +kernel
theorem dX7_leaves_13 : decode cX7_leaves 13 = .ok (.ireturn, 1) := by decide +kernel
theorem dX7_leaves_14 : decode cX7_leaves 14 = .ok (.aload_n 0, 1) := by decide +kernel
theorem dX7_leaves_15 : decode cX7_leaves 15 = .ok (.invokevirtual 206, 3) := by decide +kernel
theorem dX7_leaves_18 : decode cX7_leaves 18 = .ok (.aload_n 0, 1) := by decide +kernel
theorem dX7_leaves_19 : decode cX7_leaves 19 = .ok (.getfield 19, 3) := by decide +kernel
theorem dX7_leaves_22 : decode cX7_leaves 22 = .ok (.iconst 3, 1) := by decide +kernel
theorem dX7_leaves_23 : decode cX7_leaves 23 = .ok (.iaload, 1) := by decide +kernel
theorem dX7_leaves_24 : decode cX7_leaves 24 = .ok (.istore_n 1, 1) := by decide +kernel
theorem dX7_leaves_25 : decode cX7_leaves 25 = .ok (.aload_n 0, 1) := by decide +kernel
theorem dX7_leaves_26 : decode cX7_leaves 26 = .ok (.getfield 19, 3) := by decide +kernel
theorem dX7_leaves_29 : decode cX7_leaves 29 = .ok (.iconst 3, 1) := by decide +kernel
theorem dX7_leaves_30 : decode cX7_leaves 30 = .ok (.bipush (-9), 2) := by decide +kernel
theorem dX7_leaves_32 : decode cX7_leaves 32 = .ok (.iastore, 1) := by decide +kernel
theorem dX7_leaves_33 : decode cX7_leaves 33 = .ok (.iload_n 1, 1) := by decide +kernel
theorem dX7_leaves_34 : decode cX7_leaves 34 = .ok (.ireturn, 1) := by decide +kernel
set_option maxRecDepth 20000 in
theorem ggX7_mayLead_X7_over : GoodIn wsX7_mayLead wsX7_over := goodIn_r _ [7, 8, 25, 26, 27, 28, 29, 30, 31, 32, 33, 34, 35, 36, 37, 38, 39, 40, 41, 42, 43, 44, 45, 46, 47, 48, 49, 50, 51, 52, 53, 54, 55, 56, 57, 58] (by decide +kernel) (by decide +kernel)
set_option maxRecDepth 20000 in
theorem gX7_mayLead_X7_over : GoodIn wsX7_mayLead (wsV RX7 209 RX7 yX7_over wsX7_over) := goodIn_app (goodIn_of _ (by decide +kernel)) ggX7_mayLead_X7_over
set_option maxRecDepth 20000 in
theorem ggX7_mayLead_X7_known : GoodIn wsX7_mayLead wsX7_known := goodIn_r _ [12, 8, 25, 26, 27, 28, 29, 30, 31, 32, 33, 34, 35, 36, 37, 38, 39, 40, 41, 42, 43, 44, 45, 46, 47, 48, 49, 50, 51, 52, 53, 54, 55, 56, 57, 58] (by decide +kernel) (by decide +kernel)
set_option maxRecDepth 20000 in
theorem gX7_mayLead_X7_known : GoodIn wsX7_mayLead (wsV RX7 192 RX7 yX7_known wsX7_known) := goodIn_app (goodIn_of _ (by decide +kernel)) ggX7_mayLead_X7_known
set_option maxRecDepth 20000 in
theorem ggX7_mayLead_X7_length : GoodIn wsX7_mayLead wsX7_length := goodIn_r _ [16, 8, 25, 26, 27, 28, 29, 30, 31, 32, 33, 34, 35, 36, 37, 38, 39, 40, 41, 42, 43, 44, 45, 46, 47, 48, 49, 50, 51, 52, 53, 54, 55, 56, 57, 58] (by decide +kernel) (by decide +kernel)
set_option maxRecDepth 20000 in
theorem gX7_mayLead_X7_length : GoodIn wsX7_mayLead (wsV RX7 213 RX7 yX7_length wsX7_length) := goodIn_app (goodIn_of _ (by decide +kernel)) ggX7_mayLead_X7_length
set_option maxRecDepth 20000 in
theorem ggX7_mayLead_X7_pace : GoodIn wsX7_mayLead wsX7_pace := goodIn_r _ [20, 8, 25, 26, 27, 28, 29, 30, 31, 32, 33, 34, 35, 36, 37, 38, 39, 40, 41, 42, 43, 44, 45, 46, 47, 48, 49, 50, 51, 52, 53, 54, 55, 56, 57, 58] (by decide +kernel) (by decide +kernel)
set_option maxRecDepth 20000 in
theorem gX7_mayLead_X7_pace : GoodIn wsX7_mayLead (wsV RX7 186 RX7 yX7_pace wsX7_pace) := goodIn_app (goodIn_of _ (by decide +kernel)) ggX7_mayLead_X7_pace
set_option maxRecDepth 20000 in
theorem ggX7_mayLead_X7_fee : GoodIn wsX7_mayLead wsX7_fee := goodIn_r _ [24, 8, 25, 26, 27, 28, 29, 30, 31, 32, 33, 34, 35, 36, 37, 38, 39, 40, 41, 42, 43, 44, 45, 46, 47, 48, 49, 50, 51, 52, 53, 54, 55, 56, 57, 58] (by decide +kernel) (by decide +kernel)
set_option maxRecDepth 20000 in
theorem gX7_mayLead_X7_fee : GoodIn wsX7_mayLead (wsV RX7 189 RX7 yX7_fee wsX7_fee) := goodIn_app (goodIn_of _ (by decide +kernel)) ggX7_mayLead_X7_fee
theorem dX7_mayLead_0 : decode cX7_mayLead 0 = .ok (.aload_n 0, 1) := by decide +kernel
theorem dX7_mayLead_1 : decode cX7_mayLead 1 = .ok (.getfield 19, 3) := by decide +kernel
theorem dX7_mayLead_4 : decode cX7_mayLead 4 = .ok (.iconst 3, 1) := by decide +kernel
theorem dX7_mayLead_5 : decode cX7_mayLead 5 = .ok (.iaload, 1) := by decide +kernel
theorem dX7_mayLead_6 : decode cX7_mayLead 6 = .ok (.istore_n 2, 1) := by decide +kernel
theorem dX7_mayLead_7 : decode cX7_mayLead 7 = .ok (.iload_n 2, 1) := by decide +kernel
theorem dX7_mayLead_8 : decode cX7_mayLead 8 = .ok (.bipush (-9), 2) := by decide +kernel
theorem dX7_mayLead_10 : decode cX7_mayLead 10 = .ok (.if_icmp .eq 31, 3) := by decide +kernel
theorem dX7_mayLead_13 : decode cX7_mayLead 13 = .ok (.aload_n 0, 1) := by decide +kernel
theorem dX7_mayLead_14 : decode cX7_mayLead 14 = .ok (.iload_n 1, 1) := by decide +kernel
theorem dX7_mayLead_15 : decode cX7_mayLead 15 = .ok (.aload_n 0, 1) := by decide +kernel
theorem dX7_mayLead_16 : decode cX7_mayLead 16 = .ok (.getfield 19, 3) := by decide +kernel
theorem dX7_mayLead_19 : decode cX7_mayLead 19 = .ok (.iconst 0, 1) := by decide +kernel
theorem dX7_mayLead_20 : decode cX7_mayLead 20 = .ok (.iaload, 1) := by decide +kernel
theorem dX7_mayLead_21 : decode cX7_mayLead 21 = .ok (.invokevirtual 209, 3) := by decide +kernel
theorem dX7_mayLead_24 : decode cX7_mayLead 24 = .ok (.bipush (-9), 2) := by decide +kernel
theorem dX7_mayLead_26 : decode cX7_mayLead 26 = .ok (.if_icmp .eq 15, 3) := by decide +kernel
theorem dX7_mayLead_29 : decode cX7_mayLead 29 = .ok (.aload_n 0, 1) := by decide +kernel
theorem dX7_mayLead_30 : decode cX7_mayLead 30 = .ok (.iload_n 2, 1) := by decide +kernel
theorem dX7_mayLead_31 : decode cX7_mayLead 31 = .ok (.invokevirtual 192, 3) := by decide +kernel
theorem dX7_mayLead_34 : decode cX7_mayLead 34 = .ok (.iload_n 1, 1) := by decide +kernel
theorem dX7_mayLead_35 : decode cX7_mayLead 35 = .ok (.ishr, 1) := by decide +kernel
theorem dX7_mayLead_36 : decode cX7_mayLead 36 = .ok (.iconst 1, 1) := by decide +kernel
theorem dX7_mayLead_37 : decode cX7_mayLead 37 = .ok (.iand, 1) := by decide +kernel
theorem dX7_mayLead_38 : decode cX7_mayLead 38 = .ok (.ifCond .ne 5, 3) := by decide +kernel
theorem dX7_mayLead_41 : decode cX7_mayLead 41 = .ok (.iconst 0, 1) := by decide +kernel
theorem dX7_mayLead_42 : decode cX7_mayLead 42 = .ok (.ireturn, 1) := by decide +kernel
theorem dX7_mayLead_43 : decode cX7_mayLead 43 = .ok (.aload_n 0, 1) := by decide +kernel
theorem dX7_mayLead_44 : decode cX7_mayLead 44 = .ok (.iload_n 1, 1) := by decide +kernel
theorem dX7_mayLead_45 : decode cX7_mayLead 45 = .ok (.invokevirtual 213, 3) := by decide +kernel
theorem dX7_mayLead_48 : decode cX7_mayLead 48 = .ok (.aload_n 0, 1) := by decide +kernel
theorem dX7_mayLead_49 : decode cX7_mayLead 49 = .ok (.iload_n 2, 1) := by decide +kernel
theorem dX7_mayLead_50 : decode cX7_mayLead 50 = .ok (.invokevirtual 186, 3) := by decide +kernel
theorem dX7_mayLead_53 : decode cX7_mayLead 53 = .ok (.iadd, 1) := by decide +kernel
theorem dX7_mayLead_54 : decode cX7_mayLead 54 = .ok (.istore_n 3, 1) := by decide +kernel
theorem dX7_mayLead_55 : decode cX7_mayLead 55 = .ok (.aload_n 0, 1) := by decide +kernel
theorem dX7_mayLead_56 : decode cX7_mayLead 56 = .ok (.getfield 19, 3) := by decide +kernel
theorem dX7_mayLead_59 : decode cX7_mayLead 59 = .ok (.iconst 1, 1) := by decide +kernel
theorem dX7_mayLead_60 : decode cX7_mayLead 60 = .ok (.iaload, 1) := by decide +kernel
theorem dX7_mayLead_61 : decode cX7_mayLead 61 = .ok (.iload_n 3, 1) := by decide +kernel
theorem dX7_mayLead_62 : decode cX7_mayLead 62 = .ok (.iadd, 1) := by decide +kernel
theorem dX7_mayLead_63 : decode cX7_mayLead 63 = .ok (.sipush 9999, 3) := by decide +kernel
theorem dX7_mayLead_66 : decode cX7_mayLead 66 = .ok (.if_icmp .gt 26, 3) := by decide +kernel
theorem dX7_mayLead_69 : decode cX7_mayLead 69 = .ok (.aload_n 0, 1) := by decide +kernel
theorem dX7_mayLead_70 : decode cX7_mayLead 70 = .ok (.getfield 19, 3) := by decide +kernel
theorem dX7_mayLead_73 : decode cX7_mayLead 73 = .ok (.iconst 2, 1) := by decide +kernel
theorem dX7_mayLead_74 : decode cX7_mayLead 74 = .ok (.iaload, 1) := by decide +kernel
theorem dX7_mayLead_75 : decode cX7_mayLead 75 = .ok (.aload_n 0, 1) := by decide +kernel
theorem dX7_mayLead_76 : decode cX7_mayLead 76 = .ok (.iload_n 2, 1) := by decide +kernel
theorem dX7_mayLead_77 : decode cX7_mayLead 77 = .ok (.invokevirtual 189, 3) := by decide +kernel
theorem dX7_mayLead_80 : decode cX7_mayLead 80 = .ok (.iload_n 3, 1) := by decide +kernel
theorem dX7_mayLead_81 : decode cX7_mayLead 81 = .ok (.imul, 1) := by decide +kernel
theorem dX7_mayLead_82 : decode cX7_mayLead 82 = .ok (.iadd, 1) := by decide +kernel
theorem dX7_mayLead_83 : decode cX7_mayLead 83 = .ok (.ldc 216, 2) := by decide +kernel
theorem dX7_mayLead_85 : decode cX7_mayLead 85 = .ok (.if_icmp .gt 7, 3) := by decide +kernel
theorem dX7_mayLead_88 : decode cX7_mayLead 88 = .ok (.iconst 1, 1) := by decide +kernel
theorem dX7_mayLead_89 : decode cX7_mayLead 89 = .ok (.goto 4, 3) := by decide +kernel
theorem dX7_mayLead_92 : decode cX7_mayLead 92 = .ok (.iconst 0, 1) := by decide +kernel
theorem dX7_mayLead_93 : decode cX7_mayLead 93 = .ok (.ireturn, 1) := by decide +kernel
set_option maxRecDepth 20000 in
theorem ggX7_leads_X7_isStreet : GoodIn wsX7_leads wsX7_isStreet := goodIn_r _ [6, 7, 8, 9, 5, 10, 42, 43, 44, 45, 46, 47, 48, 49, 50, 51, 52, 53, 54, 55, 56, 57, 58, 59, 60, 61, 62, 63, 64, 65, 66, 67, 68, 69, 70, 71, 72, 73, 74, 75] (by decide +kernel) (by decide +kernel)
set_option maxRecDepth 20000 in
theorem gX7_leads_X7_isStreet : GoodIn wsX7_leads (wsV RX7 176 RX7 yX7_isStreet wsX7_isStreet) := goodIn_app (goodIn_of _ (by decide +kernel)) ggX7_leads_X7_isStreet
set_option maxRecDepth 20000 in
theorem ggX7_leads_X7_mayLead : GoodIn wsX7_leads wsX7_mayLead := goodIn_r _ [14, 1, 15, 16, 17, 18, 5, 19, 7, 20, 21, 22, 23, 24, 25, 26, 27, 28, 29, 30, 31, 32, 33, 34, 35, 42, 43, 44, 45, 46, 47, 48, 49, 50, 51, 52, 53, 54, 55, 56, 57, 58, 59, 60, 61, 62, 63, 64, 65, 66, 67, 68, 69, 70, 71, 72, 73, 74, 75] (by decide +kernel) (by decide +kernel)
set_option maxRecDepth 20000 in
theorem gX7_leads_X7_mayLead : GoodIn wsX7_leads (wsV RX7 217 RX7 yX7_mayLead wsX7_mayLead) := goodIn_app (goodIn_of _ (by decide +kernel)) ggX7_leads_X7_mayLead
set_option maxRecDepth 20000 in
theorem ggX7_leads_X7_notes : GoodIn wsX7_leads wsX7_notes := goodIn_r _ [39, 40, 41, 1, 42, 43, 44, 45, 46, 47, 48, 49, 50, 51, 52, 53, 54, 55, 56, 57, 58, 59, 60, 61, 62, 63, 64, 65, 66, 67, 68, 69, 70, 71, 72, 73, 74, 75] (by decide +kernel) (by decide +kernel)
set_option maxRecDepth 20000 in
theorem gX7_leads_X7_notes : GoodIn wsX7_leads (wsV RX7 206 RX7 yX7_notes wsX7_notes) := goodIn_app (goodIn_of _ (by decide +kernel)) ggX7_leads_X7_notes
set_option maxRecDepth 20000 in
theorem ggX7_leads_X7_length : GoodIn wsX7_leads wsX7_length := goodIn_r _ [27, 7, 42, 43, 44, 45, 46, 47, 48, 49, 50, 51, 52, 53, 54, 55, 56, 57, 58, 59, 60, 61, 62, 63, 64, 65, 66, 67, 68, 69, 70, 71, 72, 73, 74, 75] (by decide +kernel) (by decide +kernel)
set_option maxRecDepth 20000 in
theorem gX7_leads_X7_length : GoodIn wsX7_leads (wsV RX7 213 RX7 yX7_length wsX7_length) := goodIn_app (goodIn_of _ (by decide +kernel)) ggX7_leads_X7_length
set_option maxRecDepth 20000 in
theorem ggX7_leads_X7_pace : GoodIn wsX7_leads wsX7_pace := goodIn_r _ [31, 7, 42, 43, 44, 45, 46, 47, 48, 49, 50, 51, 52, 53, 54, 55, 56, 57, 58, 59, 60, 61, 62, 63, 64, 65, 66, 67, 68, 69, 70, 71, 72, 73, 74, 75] (by decide +kernel) (by decide +kernel)
set_option maxRecDepth 20000 in
theorem gX7_leads_X7_pace : GoodIn wsX7_leads (wsV RX7 186 RX7 yX7_pace wsX7_pace) := goodIn_app (goodIn_of _ (by decide +kernel)) ggX7_leads_X7_pace
set_option maxRecDepth 20000 in
theorem ggX7_leads_X7_over : GoodIn wsX7_leads wsX7_over := goodIn_r _ [19, 7, 42, 43, 44, 45, 46, 47, 48, 49, 50, 51, 52, 53, 54, 55, 56, 57, 58, 59, 60, 61, 62, 63, 64, 65, 66, 67, 68, 69, 70, 71, 72, 73, 74, 75] (by decide +kernel) (by decide +kernel)
set_option maxRecDepth 20000 in
theorem gX7_leads_X7_over : GoodIn wsX7_leads (wsV RX7 209 RX7 yX7_over wsX7_over) := goodIn_app (goodIn_of _ (by decide +kernel)) ggX7_leads_X7_over
set_option maxRecDepth 20000 in
theorem ggX7_leads_X7_fee : GoodIn wsX7_leads wsX7_fee := goodIn_r _ [35, 7, 42, 43, 44, 45, 46, 47, 48, 49, 50, 51, 52, 53, 54, 55, 56, 57, 58, 59, 60, 61, 62, 63, 64, 65, 66, 67, 68, 69, 70, 71, 72, 73, 74, 75] (by decide +kernel) (by decide +kernel)
set_option maxRecDepth 20000 in
theorem gX7_leads_X7_fee : GoodIn wsX7_leads (wsV RX7 189 RX7 yX7_fee wsX7_fee) := goodIn_app (goodIn_of _ (by decide +kernel)) ggX7_leads_X7_fee
theorem dX7_leads_0 : decode cX7_leads 0 = .ok (.aload_n 0, 1) := by decide +kernel
theorem dX7_leads_1 : decode cX7_leads 1 = .ok (.iload_n 1, 1) := by decide +kernel
theorem dX7_leads_2 : decode cX7_leads 2 = .ok (.invokevirtual 176, 3) := by decide +kernel
theorem dX7_leads_5 : decode cX7_leads 5 = .ok (.ifCond .ne 5, 3) := by decide +kernel
theorem dX7_leads_8 : decode cX7_leads 8 = .ok (.iconst (-1), 1) := by decide +kernel
theorem dX7_leads_9 : decode cX7_leads 9 = .ok (.ireturn, 1) := by decide +kernel
theorem dX7_leads_10 : decode cX7_leads 10 = .ok (.aload_n 0, 1) := by decide +kernel
theorem dX7_leads_11 : decode cX7_leads 11 = .ok (.iload_n 1, 1) := by decide +kernel
theorem dX7_leads_12 : decode cX7_leads 12 = .ok (.invokevirtual 217, 3) := by decide +kernel
theorem dX7_leads_15 : decode cX7_leads 15 = .ok (.ifCond .ne 6, 3) := by decide +kernel
theorem dX7_leads_18 : decode cX7_leads 18 = .ok (.bipush (-2), 2) := by decide +kernel
theorem dX7_leads_20 : decode cX7_leads 20 = .ok (.ireturn, 1) := by decide +kernel
theorem dX7_leads_21 : decode cX7_leads 21 = .ok (.aload_n 0, 1) := by decide +kernel
theorem dX7_leads_22 : decode cX7_leads 22 = .ok (.invokevirtual 206, 3) := by decide +kernel
theorem dX7_leads_25 : decode cX7_leads 25 = .ok (.aload_n 0, 1) := by decide +kernel
theorem dX7_leads_26 : decode cX7_leads 26 = .ok (.iload_n 1, 1) := by decide +kernel
theorem dX7_leads_27 : decode cX7_leads 27 = .ok (.invokevirtual 213, 3) := by decide +kernel
theorem dX7_leads_30 : decode cX7_leads 30 = .ok (.aload_n 0, 1) := by decide +kernel
theorem dX7_leads_31 : decode cX7_leads 31 = .ok (.aload_n 0, 1) := by decide +kernel
theorem dX7_leads_32 : decode cX7_leads 32 = .ok (.getfield 19, 3) := by decide +kernel
theorem dX7_leads_35 : decode cX7_leads 35 = .ok (.iconst 3, 1) := by decide +kernel
theorem dX7_leads_36 : decode cX7_leads 36 = .ok (.iaload, 1) := by decide +kernel
theorem dX7_leads_37 : decode cX7_leads 37 = .ok (.invokevirtual 186, 3) := by decide +kernel
theorem dX7_leads_40 : decode cX7_leads 40 = .ok (.iadd, 1) := by decide +kernel
theorem dX7_leads_41 : decode cX7_leads 41 = .ok (.istore_n 2, 1) := by decide +kernel
theorem dX7_leads_42 : decode cX7_leads 42 = .ok (.aload_n 0, 1) := by decide +kernel
theorem dX7_leads_43 : decode cX7_leads 43 = .ok (.getfield 19, 3) := by decide +kernel
theorem dX7_leads_46 : decode cX7_leads 46 = .ok (.iconst 0, 1) := by decide +kernel
theorem dX7_leads_47 : decode cX7_leads 47 = .ok (.aload_n 0, 1) := by decide +kernel
theorem dX7_leads_48 : decode cX7_leads 48 = .ok (.iload_n 1, 1) := by decide +kernel
theorem dX7_leads_49 : decode cX7_leads 49 = .ok (.aload_n 0, 1) := by decide +kernel
theorem dX7_leads_50 : decode cX7_leads 50 = .ok (.getfield 19, 3) := by decide +kernel
theorem dX7_leads_53 : decode cX7_leads 53 = .ok (.iconst 0, 1) := by decide +kernel
theorem dX7_leads_54 : decode cX7_leads 54 = .ok (.iaload, 1) := by decide +kernel
theorem dX7_leads_55 : decode cX7_leads 55 = .ok (.invokevirtual 209, 3) := by decide +kernel
theorem dX7_leads_58 : decode cX7_leads 58 = .ok (.iastore, 1) := by decide +kernel
theorem dX7_leads_59 : decode cX7_leads 59 = .ok (.aload_n 0, 1) := by decide +kernel
theorem dX7_leads_60 : decode cX7_leads 60 = .ok (.getfield 19, 3) := by decide +kernel
theorem dX7_leads_63 : decode cX7_leads 63 = .ok (.iconst 1, 1) := by decide +kernel
theorem dX7_leads_64 : decode cX7_leads 64 = .ok (.dup2, 1) := by decide +kernel
theorem dX7_leads_65 : decode cX7_leads 65 = .ok (.iaload, 1) := by decide +kernel
theorem dX7_leads_66 : decode cX7_leads 66 = .ok (.iload_n 2, 1) := by decide +kernel
theorem dX7_leads_67 : decode cX7_leads 67 = .ok (.iadd, 1) := by decide +kernel
theorem dX7_leads_68 : decode cX7_leads 68 = .ok (.iastore, 1) := by decide +kernel
theorem dX7_leads_69 : decode cX7_leads 69 = .ok (.aload_n 0, 1) := by decide +kernel
theorem dX7_leads_70 : decode cX7_leads 70 = .ok (.getfield 19, 3) := by decide +kernel
theorem dX7_leads_73 : decode cX7_leads 73 = .ok (.iconst 2, 1) := by decide +kernel
theorem dX7_leads_74 : decode cX7_leads 74 = .ok (.dup2, 1) := by decide +kernel
theorem dX7_leads_75 : decode cX7_leads 75 = .ok (.iaload, 1) := by decide +kernel
theorem dX7_leads_76 : decode cX7_leads 76 = .ok (.aload_n 0, 1) := by decide +kernel
theorem dX7_leads_77 : decode cX7_leads 77 = .ok (.aload_n 0, 1) := by decide +kernel
theorem dX7_leads_78 : decode cX7_leads 78 = .ok (.getfield 19, 3) := by decide +kernel
theorem dX7_leads_81 : decode cX7_leads 81 = .ok (.iconst 3, 1) := by decide +kernel
theorem dX7_leads_82 : decode cX7_leads 82 = .ok (.iaload, 1) := by decide +kernel
theorem dX7_leads_83 : decode cX7_leads 83 = .ok (.invokevirtual 189, 3) := by decide +kernel
theorem dX7_leads_86 : decode cX7_leads 86 = .ok (.iload_n 2, 1) := by decide +kernel
theorem dX7_leads_87 : decode cX7_leads 87 = .ok (.imul, 1) := by decide +kernel
theorem dX7_leads_88 : decode cX7_leads 88 = .ok (.iadd, 1) := by decide +kernel
theorem dX7_leads_89 : decode cX7_leads 89 = .ok (.iastore, 1) := by decide +kernel
theorem dX7_leads_90 : decode cX7_leads 90 = .ok (.aload_n 0, 1) := by decide +kernel
theorem dX7_leads_91 : decode cX7_leads 91 = .ok (.getfield 19, 3) := by decide +kernel
theorem dX7_leads_94 : decode cX7_leads 94 = .ok (.iconst 0, 1) := by decide +kernel
theorem dX7_leads_95 : decode cX7_leads 95 = .ok (.iaload, 1) := by decide +kernel
theorem dX7_leads_96 : decode cX7_leads 96 = .ok (.ireturn, 1) := by decide +kernel
set_option maxRecDepth 20000 in
theorem ggX7_mayGo_X7_over : GoodIn wsX7_mayGo wsX7_over := goodIn_r _ [6, 7, 20, 21, 22, 23, 24, 25, 26, 27, 28, 29, 30, 31, 32, 33, 34, 35, 36, 37, 38, 39, 40, 41, 42, 43, 44, 45, 46, 47, 48, 49, 50, 51, 52, 53] (by decide +kernel) (by decide +kernel)
set_option maxRecDepth 20000 in
theorem gX7_mayGo_X7_over : GoodIn wsX7_mayGo (wsV RX7 209 RX7 yX7_over wsX7_over) := goodIn_app (goodIn_of _ (by decide +kernel)) ggX7_mayGo_X7_over
set_option maxRecDepth 20000 in
theorem ggX7_mayGo_X7_length : GoodIn wsX7_mayGo wsX7_length := goodIn_r _ [11, 7, 20, 21, 22, 23, 24, 25, 26, 27, 28, 29, 30, 31, 32, 33, 34, 35, 36, 37, 38, 39, 40, 41, 42, 43, 44, 45, 46, 47, 48, 49, 50, 51, 52, 53] (by decide +kernel) (by decide +kernel)
set_option maxRecDepth 20000 in
theorem gX7_mayGo_X7_length : GoodIn wsX7_mayGo (wsV RX7 213 RX7 yX7_length wsX7_length) := goodIn_app (goodIn_of _ (by decide +kernel)) ggX7_mayGo_X7_length
set_option maxRecDepth 20000 in
theorem ggX7_mayGo_X7_isThin : GoodIn wsX7_mayGo wsX7_isThin := goodIn_r _ [15, 16, 17, 18, 5, 19, 7, 20, 21, 22, 23, 24, 25, 26, 27, 28, 29, 30, 31, 32, 33, 34, 35, 36, 37, 38, 39, 40, 41, 42, 43, 44, 45, 46, 47, 48, 49, 50, 51, 52, 53] (by decide +kernel) (by decide +kernel)
set_option maxRecDepth 20000 in
theorem gX7_mayGo_X7_isThin : GoodIn wsX7_mayGo (wsV RX7 220 RX7 yX7_isThin wsX7_isThin) := goodIn_app (goodIn_of _ (by decide +kernel)) ggX7_mayGo_X7_isThin
theorem dX7_mayGo_0 : decode cX7_mayGo 0 = .ok (.aload_n 0, 1) := by decide +kernel
theorem dX7_mayGo_1 : decode cX7_mayGo 1 = .ok (.getfield 19, 3) := by decide +kernel
theorem dX7_mayGo_4 : decode cX7_mayGo 4 = .ok (.iconst 3, 1) := by decide +kernel
theorem dX7_mayGo_5 : decode cX7_mayGo 5 = .ok (.iaload, 1) := by decide +kernel
theorem dX7_mayGo_6 : decode cX7_mayGo 6 = .ok (.bipush (-9), 2) := by decide +kernel
theorem dX7_mayGo_8 : decode cX7_mayGo 8 = .ok (.if_icmp .ne 59, 3) := by decide +kernel
theorem dX7_mayGo_11 : decode cX7_mayGo 11 = .ok (.aload_n 0, 1) := by decide +kernel
theorem dX7_mayGo_12 : decode cX7_mayGo 12 = .ok (.iload_n 1, 1) := by decide +kernel
theorem dX7_mayGo_13 : decode cX7_mayGo 13 = .ok (.aload_n 0, 1) := by decide +kernel
theorem dX7_mayGo_14 : decode cX7_mayGo 14 = .ok (.getfield 19, 3) := by decide +kernel
theorem dX7_mayGo_17 : decode cX7_mayGo 17 = .ok (.iconst 0, 1) := by decide +kernel
theorem dX7_mayGo_18 : decode cX7_mayGo 18 = .ok (.iaload, 1) := by decide +kernel
theorem dX7_mayGo_19 : decode cX7_mayGo 19 = .ok (.invokevirtual 209, 3) := by decide +kernel
theorem dX7_mayGo_22 : decode cX7_mayGo 22 = .ok (.bipush (-9), 2) := by decide +kernel
theorem dX7_mayGo_24 : decode cX7_mayGo 24 = .ok (.if_icmp .eq 43, 3) := by decide +kernel
theorem dX7_mayGo_27 : decode cX7_mayGo 27 = .ok (.aload_n 0, 1) := by decide +kernel
theorem dX7_mayGo_28 : decode cX7_mayGo 28 = .ok (.aload_n 0, 1) := by decide +kernel
theorem dX7_mayGo_29 : decode cX7_mayGo 29 = .ok (.getfield 19, 3) := by decide +kernel
theorem dX7_mayGo_32 : decode cX7_mayGo 32 = .ok (.iconst 1, 1) := by decide +kernel
theorem dX7_mayGo_33 : decode cX7_mayGo 33 = .ok (.iaload, 1) := by decide +kernel
theorem dX7_mayGo_34 : decode cX7_mayGo 34 = .ok (.aload_n 0, 1) := by decide +kernel
theorem dX7_mayGo_35 : decode cX7_mayGo 35 = .ok (.iload_n 1, 1) := by decide +kernel
theorem dX7_mayGo_36 : decode cX7_mayGo 36 = .ok (.invokevirtual 213, 3) := by decide +kernel
theorem dX7_mayGo_39 : decode cX7_mayGo 39 = .ok (.invokevirtual 220, 3) := by decide +kernel
theorem dX7_mayGo_42 : decode cX7_mayGo 42 = .ok (.ifCond .eq 25, 3) := by decide +kernel
theorem dX7_mayGo_45 : decode cX7_mayGo 45 = .ok (.aload_n 0, 1) := by decide +kernel
theorem dX7_mayGo_46 : decode cX7_mayGo 46 = .ok (.getfield 19, 3) := by decide +kernel
theorem dX7_mayGo_49 : decode cX7_mayGo 49 = .ok (.iconst 1, 1) := by decide +kernel
theorem dX7_mayGo_50 : decode cX7_mayGo 50 = .ok (.iaload, 1) := by decide +kernel
theorem dX7_mayGo_51 : decode cX7_mayGo 51 = .ok (.aload_n 0, 1) := by decide +kernel
theorem dX7_mayGo_52 : decode cX7_mayGo 52 = .ok (.iload_n 1, 1) := by decide +kernel
theorem dX7_mayGo_53 : decode cX7_mayGo 53 = .ok (.invokevirtual 213, 3) := by decide +kernel
theorem dX7_mayGo_56 : decode cX7_mayGo 56 = .ok (.iadd, 1) := by decide +kernel
theorem dX7_mayGo_57 : decode cX7_mayGo 57 = .ok (.sipush 9999, 3) := by decide +kernel
theorem dX7_mayGo_60 : decode cX7_mayGo 60 = .ok (.if_icmp .gt 7, 3) := by decide +kernel
theorem dX7_mayGo_63 : decode cX7_mayGo 63 = .ok (.iconst 1, 1) := by decide +kernel
theorem dX7_mayGo_64 : decode cX7_mayGo 64 = .ok (.goto 4, 3) := by decide +kernel
theorem dX7_mayGo_67 : decode cX7_mayGo 67 = .ok (.iconst 0, 1) := by decide +kernel
theorem dX7_mayGo_68 : decode cX7_mayGo 68 = .ok (.ireturn, 1) := by decide +kernel
set_option maxRecDepth 20000 in
theorem ggX7_alone_X7_isStreet : GoodIn wsX7_alone wsX7_isStreet := goodIn_r _ [6, 7, 8, 9, 5, 10, 37, 38, 39, 40, 41, 42, 43, 44, 45, 46, 47, 48, 49, 50, 51, 52, 53, 54, 55, 56, 57, 58, 59, 60, 61, 62, 63, 64, 65, 66, 67, 68, 69, 70] (by decide +kernel) (by decide +kernel)
set_option maxRecDepth 20000 in
theorem gX7_alone_X7_isStreet : GoodIn wsX7_alone (wsV RX7 176 RX7 yX7_isStreet wsX7_isStreet) := goodIn_app (goodIn_of _ (by decide +kernel)) ggX7_alone_X7_isStreet
set_option maxRecDepth 20000 in
theorem ggX7_alone_X7_mayGo : GoodIn wsX7_alone wsX7_mayGo := goodIn_r _ [14, 1, 15, 16, 17, 5, 18, 7, 19, 20, 21, 22, 23, 24, 25, 26, 27, 28, 29, 30, 37, 38, 39, 40, 41, 42, 43, 44, 45, 46, 47, 48, 49, 50, 51, 52, 53, 54, 55, 56, 57, 58, 59, 60, 61, 62, 63, 64, 65, 66, 67, 68, 69, 70] (by decide +kernel) (by decide +kernel)
set_option maxRecDepth 20000 in
theorem gX7_alone_X7_mayGo : GoodIn wsX7_alone (wsV RX7 223 RX7 yX7_mayGo wsX7_mayGo) := goodIn_app (goodIn_of _ (by decide +kernel)) ggX7_alone_X7_mayGo
set_option maxRecDepth 20000 in
theorem ggX7_alone_X7_notes : GoodIn wsX7_alone wsX7_notes := goodIn_r _ [34, 35, 36, 1, 37, 38, 39, 40, 41, 42, 43, 44, 45, 46, 47, 48, 49, 50, 51, 52, 53, 54, 55, 56, 57, 58, 59, 60, 61, 62, 63, 64, 65, 66, 67, 68, 69, 70] (by decide +kernel) (by decide +kernel)
set_option maxRecDepth 20000 in
theorem gX7_alone_X7_notes : GoodIn wsX7_alone (wsV RX7 206 RX7 yX7_notes wsX7_notes) := goodIn_app (goodIn_of _ (by decide +kernel)) ggX7_alone_X7_notes
set_option maxRecDepth 20000 in
theorem ggX7_alone_X7_over : GoodIn wsX7_alone wsX7_over := goodIn_r _ [18, 7, 37, 38, 39, 40, 41, 42, 43, 44, 45, 46, 47, 48, 49, 50, 51, 52, 53, 54, 55, 56, 57, 58, 59, 60, 61, 62, 63, 64, 65, 66, 67, 68, 69, 70] (by decide +kernel) (by decide +kernel)
set_option maxRecDepth 20000 in
theorem gX7_alone_X7_over : GoodIn wsX7_alone (wsV RX7 209 RX7 yX7_over wsX7_over) := goodIn_app (goodIn_of _ (by decide +kernel)) ggX7_alone_X7_over
set_option maxRecDepth 20000 in
theorem ggX7_alone_X7_length : GoodIn wsX7_alone wsX7_length := goodIn_r _ [22, 7, 37, 38, 39, 40, 41, 42, 43, 44, 45, 46, 47, 48, 49, 50, 51, 52, 53, 54, 55, 56, 57, 58, 59, 60, 61, 62, 63, 64, 65, 66, 67, 68, 69, 70] (by decide +kernel) (by decide +kernel)
set_option maxRecDepth 20000 in
theorem gX7_alone_X7_length : GoodIn wsX7_alone (wsV RX7 213 RX7 yX7_length wsX7_length) := goodIn_app (goodIn_of _ (by decide +kernel)) ggX7_alone_X7_length
theorem dX7_alone_0 : decode cX7_alone 0 = .ok (.aload_n 0, 1) := by decide +kernel
theorem dX7_alone_1 : decode cX7_alone 1 = .ok (.iload_n 1, 1) := by decide +kernel
theorem dX7_alone_2 : decode cX7_alone 2 = .ok (.invokevirtual 176, 3) := by decide +kernel
theorem dX7_alone_5 : decode cX7_alone 5 = .ok (.ifCond .ne 5, 3) := by decide +kernel
theorem dX7_alone_8 : decode cX7_alone 8 = .ok (.iconst (-1), 1) := by decide +kernel
theorem dX7_alone_9 : decode cX7_alone 9 = .ok (.ireturn, 1) := by decide +kernel
theorem dX7_alone_10 : decode cX7_alone 10 = .ok (.aload_n 0, 1) := by decide +kernel
theorem dX7_alone_11 : decode cX7_alone 11 = .ok (.iload_n 1, 1) := by decide +kernel
theorem dX7_alone_12 : decode cX7_alone 12 = .ok (.invokevirtual 223, 3) := by decide +kernel
theorem dX7_alone_15 : decode cX7_alone 15 = .ok (.ifCond .ne 6, 3) := by decide +kernel
theorem dX7_alone_18 : decode cX7_alone 18 = .ok (.bipush (-2), 2) := by decide +kernel
theorem dX7_alone_20 : decode cX7_alone 20 = .ok (.ireturn, 1) := by decide +kernel
theorem dX7_alone_21 : decode cX7_alone 21 = .ok (.aload_n 0, 1) := by decide +kernel
theorem dX7_alone_22 : decode cX7_alone 22 = .ok (.invokevirtual 206, 3) := by decide +kernel
theorem dX7_alone_25 : decode cX7_alone 25 = .ok (.aload_n 0, 1) := by decide +kernel
theorem dX7_alone_26 : decode cX7_alone 26 = .ok (.getfield 19, 3) := by decide +kernel
theorem dX7_alone_29 : decode cX7_alone 29 = .ok (.iconst 0, 1) := by decide +kernel
theorem dX7_alone_30 : decode cX7_alone 30 = .ok (.aload_n 0, 1) := by decide +kernel
theorem dX7_alone_31 : decode cX7_alone 31 = .ok (.iload_n 1, 1) := by decide +kernel
theorem dX7_alone_32 : decode cX7_alone 32 = .ok (.aload_n 0, 1) := by decide +kernel
theorem dX7_alone_33 : decode cX7_alone 33 = .ok (.getfield 19, 3) := by decide +kernel
theorem dX7_alone_36 : decode cX7_alone 36 = .ok (.iconst 0, 1) := by decide +kernel
theorem dX7_alone_37 : decode cX7_alone 37 = .ok (.iaload, 1) := by decide +kernel
theorem dX7_alone_38 : decode cX7_alone 38 = .ok (.invokevirtual 209, 3) := by decide +kernel
theorem dX7_alone_41 : decode cX7_alone 41 = .ok (.iastore, 1) := by decide +kernel
theorem dX7_alone_42 : decode cX7_alone 42 = .ok (.aload_n 0, 1) := by decide +kernel
theorem dX7_alone_43 : decode cX7_alone 43 = .ok (.getfield 19, 3) := by decide +kernel
theorem dX7_alone_46 : decode cX7_alone 46 = .ok (.iconst 1, 1) := by decide +kernel
theorem dX7_alone_47 : decode cX7_alone 47 = .ok (.dup2, 1) := by decide +kernel
theorem dX7_alone_48 : decode cX7_alone 48 = .ok (.iaload, 1) := by decide +kernel
theorem dX7_alone_49 : decode cX7_alone 49 = .ok (.aload_n 0, 1) := by decide +kernel
theorem dX7_alone_50 : decode cX7_alone 50 = .ok (.iload_n 1, 1) := by decide +kernel
theorem dX7_alone_51 : decode cX7_alone 51 = .ok (.invokevirtual 213, 3) := by decide +kernel
theorem dX7_alone_54 : decode cX7_alone 54 = .ok (.iadd, 1) := by decide +kernel
theorem dX7_alone_55 : decode cX7_alone 55 = .ok (.iastore, 1) := by decide +kernel
theorem dX7_alone_56 : decode cX7_alone 56 = .ok (.aload_n 0, 1) := by decide +kernel
theorem dX7_alone_57 : decode cX7_alone 57 = .ok (.getfield 19, 3) := by decide +kernel
theorem dX7_alone_60 : decode cX7_alone 60 = .ok (.iconst 0, 1) := by decide +kernel
theorem dX7_alone_61 : decode cX7_alone 61 = .ok (.iaload, 1) := by decide +kernel
theorem dX7_alone_62 : decode cX7_alone 62 = .ok (.ireturn, 1) := by decide +kernel
set_option maxRecDepth 20000 in
theorem ggX7_waits_X7_in : GoodIn wsX7_waits wsX7_in := goodIn_r _ [6] (by decide +kernel) (by decide +kernel)
set_option maxRecDepth 20000 in
theorem gX7_waits_X7_in : GoodIn wsX7_waits (va_wsS RX7 87 yX7_in wsX7_in) := goodIn_app (goodIn_of _ (by decide +kernel)) ggX7_waits_X7_in
set_option maxRecDepth 20000 in
theorem ggX7_waits_X7_notes : GoodIn wsX7_waits wsX7_notes := goodIn_r _ [10, 11, 12, 2, 13, 14, 15, 16, 17, 18, 19, 20, 21, 22, 23, 24, 25, 26, 27, 28, 29, 30, 31, 32, 33, 34, 35, 36, 37, 38, 39, 40, 41, 42, 43, 44, 45, 46] (by decide +kernel) (by decide +kernel)
set_option maxRecDepth 20000 in
theorem gX7_waits_X7_notes : GoodIn wsX7_waits (wsV RX7 206 RX7 yX7_notes wsX7_notes) := goodIn_app (goodIn_of _ (by decide +kernel)) ggX7_waits_X7_notes
theorem dX7_waits_0 : decode cX7_waits 0 = .ok (.iload_n 1, 1) := by decide +kernel
theorem dX7_waits_1 : decode cX7_waits 1 = .ok (.i2l, 1) := by decide +kernel
theorem dX7_waits_2 : decode cX7_waits 2 = .ok (.lconst 1, 1) := by decide +kernel
theorem dX7_waits_3 : decode cX7_waits 3 = .ok (.ldc2_w 226, 3) := by decide +kernel
theorem dX7_waits_6 : decode cX7_waits 6 = .ok (.invokestatic 87, 3) := by decide +kernel
theorem dX7_waits_9 : decode cX7_waits 9 = .ok (.ifCond .ne 5, 3) := by decide +kernel
theorem dX7_waits_12 : decode cX7_waits 12 = .ok (.iconst (-1), 1) := by decide +kernel
theorem dX7_waits_13 : decode cX7_waits 13 = .ok (.ireturn, 1) := by decide +kernel
theorem dX7_waits_14 : decode cX7_waits 14 = .ok (.aload_n 0, 1) := by decide +kernel
theorem dX7_waits_15 : decode cX7_waits 15 = .ok (.getfield 19, 3) := by decide +kernel
theorem dX7_waits_18 : decode cX7_waits 18 = .ok (.iconst 1, 1) := by decide +kernel
theorem dX7_waits_19 : decode cX7_waits 19 = .ok (.iaload, 1) := by decide +kernel
theorem dX7_waits_20 : decode cX7_waits 20 = .ok (.iload_n 1, 1) := by decide +kernel
theorem dX7_waits_21 : decode cX7_waits 21 = .ok (.iadd, 1) := by decide +kernel
theorem dX7_waits_22 : decode cX7_waits 22 = .ok (.sipush 9999, 3) := by decide +kernel
theorem dX7_waits_25 : decode cX7_waits 25 = .ok (.if_icmp .le 6, 3) := by decide +kernel
theorem dX7_waits_28 : decode cX7_waits 28 = .ok (.bipush (-2), 2) := by decide +kernel
theorem dX7_waits_30 : decode cX7_waits 30 = .ok (.ireturn, 1) := by decide +kernel
theorem dX7_waits_31 : decode cX7_waits 31 = .ok (.aload_n 0, 1) := by decide +kernel
theorem dX7_waits_32 : decode cX7_waits 32 = .ok (.invokevirtual 206, 3) := by decide +kernel
theorem dX7_waits_35 : decode cX7_waits 35 = .ok (.aload_n 0, 1) := by decide +kernel
theorem dX7_waits_36 : decode cX7_waits 36 = .ok (.getfield 19, 3) := by decide +kernel
theorem dX7_waits_39 : decode cX7_waits 39 = .ok (.iconst 1, 1) := by decide +kernel
theorem dX7_waits_40 : decode cX7_waits 40 = .ok (.dup2, 1) := by decide +kernel
theorem dX7_waits_41 : decode cX7_waits 41 = .ok (.iaload, 1) := by decide +kernel
theorem dX7_waits_42 : decode cX7_waits 42 = .ok (.iload_n 1, 1) := by decide +kernel
theorem dX7_waits_43 : decode cX7_waits 43 = .ok (.iadd, 1) := by decide +kernel
theorem dX7_waits_44 : decode cX7_waits 44 = .ok (.iastore, 1) := by decide +kernel
theorem dX7_waits_45 : decode cX7_waits 45 = .ok (.aload_n 0, 1) := by decide +kernel
theorem dX7_waits_46 : decode cX7_waits 46 = .ok (.getfield 19, 3) := by decide +kernel
theorem dX7_waits_49 : decode cX7_waits 49 = .ok (.iconst 1, 1) := by decide +kernel
theorem dX7_waits_50 : decode cX7_waits 50 = .ok (.iaload, 1) := by decide +kernel
theorem dX7_waits_51 : decode cX7_waits 51 = .ok (.ireturn, 1) := by decide +kernel
theorem dX7_undo_0 : decode cX7_undo 0 = .ok (.aload_n 0, 1) := by decide +kernel
theorem dX7_undo_1 : decode cX7_undo 1 = .ok (.getfield 166, 3) := by decide +kernel
theorem dX7_undo_4 : decode cX7_undo 4 = .ok (.ifCond .ne 6, 3) := by decide +kernel
theorem dX7_undo_7 : decode cX7_undo 7 = .ok (.bipush (-2), 2) := by decide +kernel
theorem dX7_undo_9 : decode cX7_undo 9 = .ok (.ireturn, 1) := by decide +kernel
theorem dX7_undo_10 : decode cX7_undo 10 = .ok (.aload_n 0, 1) := by decide +kernel
theorem dX7_undo_11 : decode cX7_undo 11 = .ok (.dup, 1) := by decide +kernel
theorem dX7_undo_12 : decode cX7_undo 12 = .ok (.getfield 166, 3) := by decide +kernel
theorem dX7_undo_15 : decode cX7_undo 15 = .ok (.iconst 1, 1) := by decide +kernel
theorem dX7_undo_16 : decode cX7_undo 16 = .ok (.isub, 1) := by decide +kernel
theorem dX7_undo_17 : decode cX7_undo 17 = .ok (.putfield 166, 3) := by decide +kernel
theorem dX7_undo_20 : decode cX7_undo 20 = .ok (.iconst 0, 1) := by decide +kernel
theorem dX7_undo_21 : decode cX7_undo 21 = .ok (.istore_n 1, 1) := by decide +kernel
theorem dX7_undo_22 : decode cX7_undo 22 = .ok (.iload_n 1, 1) := by decide +kernel
theorem dX7_undo_23 : decode cX7_undo 23 = .ok (.iconst 4, 1) := by decide +kernel
theorem dX7_undo_24 : decode cX7_undo 24 = .ok (.if_icmp .ge 28, 3) := by decide +kernel
theorem dX7_undo_27 : decode cX7_undo 27 = .ok (.aload_n 0, 1) := by decide +kernel
theorem dX7_undo_28 : decode cX7_undo 28 = .ok (.getfield 19, 3) := by decide +kernel
theorem dX7_undo_31 : decode cX7_undo 31 = .ok (.iload_n 1, 1) := by decide +kernel
theorem dX7_undo_32 : decode cX7_undo 32 = .ok (.aload_n 0, 1) := by decide +kernel
theorem dX7_undo_33 : decode cX7_undo 33 = .ok (.getfield 22, 3) := by decide +kernel
theorem dX7_undo_36 : decode cX7_undo 36 = .ok (.iconst 4, 1) := by decide +kernel
theorem dX7_undo_37 : decode cX7_undo 37 = .ok (.aload_n 0, 1) := by decide +kernel
theorem dX7_undo_38 : decode cX7_undo 38 = .ok (.getfield 166, 3) := by decide +kernel
theorem dX7_undo_41 : decode cX7_undo 41 = .ok (.imul, 1) := by decide +kernel
theorem dX7_undo_42 : decode cX7_undo 42 = .ok (.iload_n 1, 1) := by decide +kernel
theorem dX7_undo_43 : decode cX7_undo 43 = .ok (.iadd, 1) := by decide +kernel
theorem dX7_undo_44 : decode cX7_undo 44 = .ok (.iaload, 1) := by decide +kernel
theorem dX7_undo_45 : decode cX7_undo 45 = .ok (.iastore, 1) := by decide +kernel
theorem dX7_undo_46 : decode cX7_undo 46 = .ok (.iinc 1 1, 3) := by decide +kernel
theorem dX7_undo_49 : decode cX7_undo 49 = .ok (.goto (-27), 3) := by decide +kernel
theorem dX7_undo_52 : decode cX7_undo 52 = .ok (.aload_n 0, 1) := by decide +kernel
theorem dX7_undo_53 : decode cX7_undo 53 = .ok (.getfield 166, 3) := by decide +kernel
theorem dX7_undo_56 : decode cX7_undo 56 = .ok (.ireturn, 1) := by decide +kernel
set_option maxRecDepth 20000 in
theorem ggX7_now_X7_mayLead : GoodIn wsX7_now wsX7_mayLead := goodIn_r _ [10, 3, 11, 12, 13, 14, 9, 15, 1, 16, 17, 18, 19, 20, 21, 22, 23, 24, 25, 26, 27, 28, 29, 30, 31, 59, 60, 61, 62, 63, 64, 65, 66, 67, 68, 69, 70, 71, 72, 73, 74, 75, 76, 77, 78, 79, 80, 81, 82, 83, 84, 85, 86, 87, 88, 89, 90, 91, 92] (by decide +kernel) (by decide +kernel)
set_option maxRecDepth 20000 in
theorem gX7_now_X7_mayLead : GoodIn wsX7_now (wsV RX7 217 RX7 yX7_mayLead wsX7_mayLead) := goodIn_app (goodIn_of _ (by decide +kernel)) ggX7_now_X7_mayLead
set_option maxRecDepth 20000 in
theorem ggX7_now_X7_mayGo : GoodIn wsX7_now wsX7_mayGo := goodIn_r _ [35, 3, 12, 13, 14, 9, 15, 1, 20, 21, 22, 23, 36, 37, 38, 39, 40, 41, 42, 43, 59, 60, 61, 62, 63, 64, 65, 66, 67, 68, 69, 70, 71, 72, 73, 74, 75, 76, 77, 78, 79, 80, 81, 82, 83, 84, 85, 86, 87, 88, 89, 90, 91, 92] (by decide +kernel) (by decide +kernel)
set_option maxRecDepth 20000 in
theorem gX7_now_X7_mayGo : GoodIn wsX7_now (wsV RX7 223 RX7 yX7_mayGo wsX7_mayGo) := goodIn_app (goodIn_of _ (by decide +kernel)) ggX7_now_X7_mayGo
set_option maxRecDepth 20000 in
theorem ggX7_now_X7_mayHire : GoodIn wsX7_now wsX7_mayHire := goodIn_r _ [47, 3, 1, 48, 49, 50, 9, 51, 52, 53, 54, 55, 59, 60, 61, 62, 63, 64, 65, 66, 67, 68, 69, 70, 71, 72, 73, 74, 75, 76, 77, 78, 79, 80, 81, 82, 83, 84, 85, 86, 87, 88, 89, 90, 91, 92] (by decide +kernel) (by decide +kernel)
set_option maxRecDepth 20000 in
theorem gX7_now_X7_mayHire : GoodIn wsX7_now (wsV RX7 203 RX7 yX7_mayHire wsX7_mayHire) := goodIn_app (goodIn_of _ (by decide +kernel)) ggX7_now_X7_mayHire
set_option maxRecDepth 20000 in
theorem ggX7_now_X7_in : GoodIn wsX7_now wsX7_in := goodIn_r _ [58] (by decide +kernel) (by decide +kernel)
set_option maxRecDepth 20000 in
theorem gX7_now_X7_in : GoodIn wsX7_now (va_wsS RX7 87 yX7_in wsX7_in) := goodIn_app (goodIn_of _ (by decide +kernel)) ggX7_now_X7_in
theorem dX7_now_0 : decode cX7_now 0 = .ok (.iconst 0, 1) := by decide +kernel
theorem dX7_now_1 : decode cX7_now 1 = .ok (.istore_n 2, 1) := by decide +kernel
theorem dX7_now_2 : decode cX7_now 2 = .ok (.iconst 0, 1) := by decide +kernel
theorem dX7_now_3 : decode cX7_now 3 = .ok (.istore_n 3, 1) := by decide +kernel
theorem dX7_now_4 : decode cX7_now 4 = .ok (.iload_n 3, 1) := by decide +kernel
theorem dX7_now_5 : decode cX7_now 5 = .ok (.aload_n 0, 1) := by decide +kernel
theorem dX7_now_6 : decode cX7_now 6 = .ok (.getfield 16, 3) := by decide +kernel
theorem dX7_now_9 : decode cX7_now 9 = .ok (.iconst 1, 1) := by decide +kernel
theorem dX7_now_10 : decode cX7_now 10 = .ok (.iaload, 1) := by decide +kernel
theorem dX7_now_11 : decode cX7_now 11 = .ok (.if_icmp .ge 40, 3) := by decide +kernel
theorem dX7_now_14 : decode cX7_now 14 = .ok (.iload_n 1, 1) := by decide +kernel
theorem dX7_now_15 : decode cX7_now 15 = .ok (.iconst 4, 1) := by decide +kernel
theorem dX7_now_16 : decode cX7_now 16 = .ok (.if_icmp .ne 35, 3) := by decide +kernel
theorem dX7_now_19 : decode cX7_now 19 = .ok (.iload_n 2, 1) := by decide +kernel
theorem dX7_now_20 : decode cX7_now 20 = .ok (.aload_n 0, 1) := by decide +kernel
theorem dX7_now_21 : decode cX7_now 21 = .ok (.iload_n 3, 1) := by decide +kernel
theorem dX7_now_22 : decode cX7_now 22 = .ok (.invokevirtual 217, 3) := by decide +kernel
theorem dX7_now_25 : decode cX7_now 25 = .ok (.ifCond .ne 11, 3) := by decide +kernel
theorem dX7_now_28 : decode cX7_now 28 = .ok (.aload_n 0, 1) := by decide +kernel
theorem dX7_now_29 : decode cX7_now 29 = .ok (.iload_n 3, 1) := by decide +kernel
theorem dX7_now_30 : decode cX7_now 30 = .ok (.invokevirtual 223, 3) := by decide +kernel
theorem dX7_now_33 : decode cX7_now 33 = .ok (.ifCond .eq 9, 3) := by decide +kernel
theorem dX7_now_36 : decode cX7_now 36 = .ok (.iconst 1, 1) := by decide +kernel
theorem dX7_now_37 : decode cX7_now 37 = .ok (.iload_n 3, 1) := by decide +kernel
theorem dX7_now_38 : decode cX7_now 38 = .ok (.ishl, 1) := by decide +kernel
theorem dX7_now_39 : decode cX7_now 39 = .ok (.goto 4, 3) := by decide +kernel
theorem dX7_now_42 : decode cX7_now 42 = .ok (.iconst 0, 1) := by decide +kernel
theorem dX7_now_43 : decode cX7_now 43 = .ok (.ior, 1) := by decide +kernel
theorem dX7_now_44 : decode cX7_now 44 = .ok (.istore_n 2, 1) := by decide +kernel
theorem dX7_now_45 : decode cX7_now 45 = .ok (.iinc 3 1, 3) := by decide +kernel
theorem dX7_now_48 : decode cX7_now 48 = .ok (.goto (-44), 3) := by decide +kernel
theorem dX7_now_51 : decode cX7_now 51 = .ok (.iconst 0, 1) := by decide +kernel
theorem dX7_now_52 : decode cX7_now 52 = .ok (.istore_n 3, 1) := by decide +kernel
theorem dX7_now_53 : decode cX7_now 53 = .ok (.iload_n 3, 1) := by decide +kernel
theorem dX7_now_54 : decode cX7_now 54 = .ok (.aload_n 0, 1) := by decide +kernel
theorem dX7_now_55 : decode cX7_now 55 = .ok (.getfield 16, 3) := by decide +kernel
theorem dX7_now_58 : decode cX7_now 58 = .ok (.iconst 2, 1) := by decide +kernel
theorem dX7_now_59 : decode cX7_now 59 = .ok (.iaload, 1) := by decide +kernel
theorem dX7_now_60 : decode cX7_now 60 = .ok (.if_icmp .ge 32, 3) := by decide +kernel
theorem dX7_now_63 : decode cX7_now 63 = .ok (.iload_n 1, 1) := by decide +kernel
theorem dX7_now_64 : decode cX7_now 64 = .ok (.iconst 5, 1) := by decide +kernel
theorem dX7_now_65 : decode cX7_now 65 = .ok (.if_icmp .ne 27, 3) := by decide +kernel
theorem dX7_now_68 : decode cX7_now 68 = .ok (.iload_n 2, 1) := by decide +kernel
theorem dX7_now_69 : decode cX7_now 69 = .ok (.aload_n 0, 1) := by decide +kernel
theorem dX7_now_70 : decode cX7_now 70 = .ok (.iload_n 3, 1) := by decide +kernel
theorem dX7_now_71 : decode cX7_now 71 = .ok (.invokevirtual 203, 3) := by decide +kernel
theorem dX7_now_74 : decode cX7_now 74 = .ok (.ifCond .eq 9, 3) := by decide +kernel
theorem dX7_now_77 : decode cX7_now 77 = .ok (.iconst 1, 1) := by decide +kernel
theorem dX7_now_78 : decode cX7_now 78 = .ok (.iload_n 3, 1) := by decide +kernel
theorem dX7_now_79 : decode cX7_now 79 = .ok (.ishl, 1) := by decide +kernel
theorem dX7_now_80 : decode cX7_now 80 = .ok (.goto 4, 3) := by decide +kernel
theorem dX7_now_83 : decode cX7_now 83 = .ok (.iconst 0, 1) := by decide +kernel
theorem dX7_now_84 : decode cX7_now 84 = .ok (.ior, 1) := by decide +kernel
theorem dX7_now_85 : decode cX7_now 85 = .ok (.istore_n 2, 1) := by decide +kernel
theorem dX7_now_86 : decode cX7_now 86 = .ok (.iinc 3 1, 3) := by decide +kernel
theorem dX7_now_89 : decode cX7_now 89 = .ok (.goto (-36), 3) := by decide +kernel
theorem dX7_now_92 : decode cX7_now 92 = .ok (.iload_n 1, 1) := by decide +kernel
theorem dX7_now_93 : decode cX7_now 93 = .ok (.i2l, 1) := by decide +kernel
theorem dX7_now_94 : decode cX7_now 94 = .ok (.lconst 0, 1) := by decide +kernel
theorem dX7_now_95 : decode cX7_now 95 = .ok (.ldc2_w 184, 3) := by decide +kernel
theorem dX7_now_98 : decode cX7_now 98 = .ok (.invokestatic 87, 3) := by decide +kernel
theorem dX7_now_101 : decode cX7_now 101 = .ok (.ifCond .eq 12, 3) := by decide +kernel
theorem dX7_now_104 : decode cX7_now 104 = .ok (.aload_n 0, 1) := by decide +kernel
theorem dX7_now_105 : decode cX7_now 105 = .ok (.getfield 19, 3) := by decide +kernel
theorem dX7_now_108 : decode cX7_now 108 = .ok (.iload_n 1, 1) := by decide +kernel
theorem dX7_now_109 : decode cX7_now 109 = .ok (.iaload, 1) := by decide +kernel
theorem dX7_now_110 : decode cX7_now 110 = .ok (.goto 22, 3) := by decide +kernel
theorem dX7_now_113 : decode cX7_now 113 = .ok (.iload_n 1, 1) := by decide +kernel
theorem dX7_now_114 : decode cX7_now 114 = .ok (.i2l, 1) := by decide +kernel
theorem dX7_now_115 : decode cX7_now 115 = .ok (.ldc2_w 228, 3) := by decide +kernel
theorem dX7_now_118 : decode cX7_now 118 = .ok (.ldc2_w 230, 3) := by decide +kernel
theorem dX7_now_121 : decode cX7_now 121 = .ok (.invokestatic 87, 3) := by decide +kernel
theorem dX7_now_124 : decode cX7_now 124 = .ok (.ifCond .eq 7, 3) := by decide +kernel
theorem dX7_now_127 : decode cX7_now 127 = .ok (.iload_n 2, 1) := by decide +kernel
theorem dX7_now_128 : decode cX7_now 128 = .ok (.goto 4, 3) := by decide +kernel
theorem dX7_now_131 : decode cX7_now 131 = .ok (.iconst (-1), 1) := by decide +kernel
theorem dX7_now_132 : decode cX7_now 132 = .ok (.ireturn, 1) := by decide +kernel
theorem dX7_isLess_0 : decode cX7_isLess 0 = .ok (.iload_n 1, 1) := by decide +kernel
theorem dX7_isLess_1 : decode cX7_isLess 1 = .ok (.aload_n 0, 1) := by decide +kernel
theorem dX7_isLess_2 : decode cX7_isLess 2 = .ok (.getfield 25, 3) := by decide +kernel
theorem dX7_isLess_5 : decode cX7_isLess 5 = .ok (.iload 4, 2) := by decide +kernel
theorem dX7_isLess_7 : decode cX7_isLess 7 = .ok (.iaload, 1) := by decide +kernel
theorem dX7_isLess_8 : decode cX7_isLess 8 = .ok (.if_icmp .lt 47, 3) := by decide +kernel
theorem dX7_isLess_11 : decode cX7_isLess 11 = .ok (.iload_n 1, 1) := by decide +kernel
theorem dX7_isLess_12 : decode cX7_isLess 12 = .ok (.aload_n 0, 1) := by decide +kernel
theorem dX7_isLess_13 : decode cX7_isLess 13 = .ok (.getfield 25, 3) := by decide +kernel
theorem dX7_isLess_16 : decode cX7_isLess 16 = .ok (.iload 4, 2) := by decide +kernel
theorem dX7_isLess_18 : decode cX7_isLess 18 = .ok (.iaload, 1) := by decide +kernel
theorem dX7_isLess_19 : decode cX7_isLess 19 = .ok (.if_icmp .ne 40, 3) := by decide +kernel
theorem dX7_isLess_22 : decode cX7_isLess 22 = .ok (.iload_n 2, 1) := by decide +kernel
theorem dX7_isLess_23 : decode cX7_isLess 23 = .ok (.aload_n 0, 1) := by decide +kernel
theorem dX7_isLess_24 : decode cX7_isLess 24 = .ok (.getfield 28, 3) := by decide +kernel
theorem dX7_isLess_27 : decode cX7_isLess 27 = .ok (.iload 4, 2) := by decide +kernel
theorem dX7_isLess_29 : decode cX7_isLess 29 = .ok (.iaload, 1) := by decide +kernel
theorem dX7_isLess_30 : decode cX7_isLess 30 = .ok (.if_icmp .lt 25, 3) := by decide +kernel
theorem dX7_isLess_33 : decode cX7_isLess 33 = .ok (.iload_n 2, 1) := by decide +kernel
theorem dX7_isLess_34 : decode cX7_isLess 34 = .ok (.aload_n 0, 1) := by decide +kernel
theorem dX7_isLess_35 : decode cX7_isLess 35 = .ok (.getfield 28, 3) := by decide +kernel
theorem dX7_isLess_38 : decode cX7_isLess 38 = .ok (.iload 4, 2) := by decide +kernel
theorem dX7_isLess_40 : decode cX7_isLess 40 = .ok (.iaload, 1) := by decide +kernel
theorem dX7_isLess_41 : decode cX7_isLess 41 = .ok (.if_icmp .ne 18, 3) := by decide +kernel
theorem dX7_isLess_44 : decode cX7_isLess 44 = .ok (.iload_n 3, 1) := by decide +kernel
theorem dX7_isLess_45 : decode cX7_isLess 45 = .ok (.aload_n 0, 1) := by decide +kernel
theorem dX7_isLess_46 : decode cX7_isLess 46 = .ok (.getfield 31, 3) := by decide +kernel
theorem dX7_isLess_49 : decode cX7_isLess 49 = .ok (.iload 4, 2) := by decide +kernel
theorem dX7_isLess_51 : decode cX7_isLess 51 = .ok (.iaload, 1) := by decide +kernel
theorem dX7_isLess_52 : decode cX7_isLess 52 = .ok (.if_icmp .ge 7, 3) := by decide +kernel
theorem dX7_isLess_55 : decode cX7_isLess 55 = .ok (.iconst 1, 1) := by decide +kernel
theorem dX7_isLess_56 : decode cX7_isLess 56 = .ok (.goto 4, 3) := by decide +kernel
theorem dX7_isLess_59 : decode cX7_isLess 59 = .ok (.iconst 0, 1) := by decide +kernel
theorem dX7_isLess_60 : decode cX7_isLess 60 = .ok (.ireturn, 1) := by decide +kernel
set_option maxRecDepth 20000 in
theorem ggX7_lessens_X7_isLess : GoodIn wsX7_lessens wsX7_isLess := goodIn_r _ [9, 1, 2, 3, 10, 11, 12, 13, 14, 15, 16, 17, 18, 19, 20, 21, 22, 23, 24, 25, 26, 27, 28, 29, 30, 31, 32, 33, 34, 35, 36, 37, 38, 39, 40, 41, 42, 43] (by decide +kernel) (by decide +kernel)
set_option maxRecDepth 20000 in
theorem gX7_lessens_X7_isLess : GoodIn wsX7_lessens (wsV RX7 232 RX7 yX7_isLess wsX7_isLess) := goodIn_app (goodIn_of _ (by decide +kernel)) ggX7_lessens_X7_isLess
theorem dX7_lessens_0 : decode cX7_lessens 0 = .ok (.aload_n 0, 1) := by decide +kernel
theorem dX7_lessens_1 : decode cX7_lessens 1 = .ok (.iload_n 2, 1) := by decide +kernel
theorem dX7_lessens_2 : decode cX7_lessens 2 = .ok (.iload_n 3, 1) := by decide +kernel
theorem dX7_lessens_3 : decode cX7_lessens 3 = .ok (.iload 4, 2) := by decide +kernel
theorem dX7_lessens_5 : decode cX7_lessens 5 = .ok (.iload_n 1, 1) := by decide +kernel
theorem dX7_lessens_6 : decode cX7_lessens 6 = .ok (.invokevirtual 232, 3) := by decide +kernel
theorem dX7_lessens_9 : decode cX7_lessens 9 = .ok (.ifCond .eq 30, 3) := by decide +kernel
theorem dX7_lessens_12 : decode cX7_lessens 12 = .ok (.aload_n 0, 1) := by decide +kernel
theorem dX7_lessens_13 : decode cX7_lessens 13 = .ok (.getfield 25, 3) := by decide +kernel
theorem dX7_lessens_16 : decode cX7_lessens 16 = .ok (.iload_n 1, 1) := by decide +kernel
theorem dX7_lessens_17 : decode cX7_lessens 17 = .ok (.iload_n 2, 1) := by decide +kernel
theorem dX7_lessens_18 : decode cX7_lessens 18 = .ok (.iastore, 1) := by decide +kernel
theorem dX7_lessens_19 : decode cX7_lessens 19 = .ok (.aload_n 0, 1) := by decide +kernel
theorem dX7_lessens_20 : decode cX7_lessens 20 = .ok (.getfield 28, 3) := by decide +kernel
theorem dX7_lessens_23 : decode cX7_lessens 23 = .ok (.iload_n 1, 1) := by decide +kernel
theorem dX7_lessens_24 : decode cX7_lessens 24 = .ok (.iload_n 3, 1) := by decide +kernel
theorem dX7_lessens_25 : decode cX7_lessens 25 = .ok (.iastore, 1) := by decide +kernel
theorem dX7_lessens_26 : decode cX7_lessens 26 = .ok (.aload_n 0, 1) := by decide +kernel
theorem dX7_lessens_27 : decode cX7_lessens 27 = .ok (.getfield 31, 3) := by decide +kernel
theorem dX7_lessens_30 : decode cX7_lessens 30 = .ok (.iload_n 1, 1) := by decide +kernel
theorem dX7_lessens_31 : decode cX7_lessens 31 = .ok (.iload 4, 2) := by decide +kernel
theorem dX7_lessens_33 : decode cX7_lessens 33 = .ok (.iastore, 1) := by decide +kernel
theorem dX7_lessens_34 : decode cX7_lessens 34 = .ok (.aload_n 0, 1) := by decide +kernel
theorem dX7_lessens_35 : decode cX7_lessens 35 = .ok (.iconst 1, 1) := by decide +kernel
theorem dX7_lessens_36 : decode cX7_lessens 36 = .ok (.putfield 236, 3) := by decide +kernel
theorem dX7_lessens_39 : decode cX7_lessens 39 = .ok (.return_, 1) := by decide +kernel
set_option maxRecDepth 20000 in
theorem ggX7_goes_X7_isHis : GoodIn wsX7_goes wsX7_isHis := goodIn_r _ [11, 12, 13, 14, 10, 15, 5, 48, 49, 50, 51, 52, 53, 54, 55, 56, 57, 58, 59, 60, 61, 62, 63, 64, 65, 66, 67, 68, 69, 70, 71, 72, 73, 74, 75, 76, 77, 78, 79, 80, 81] (by decide +kernel) (by decide +kernel)
set_option maxRecDepth 20000 in
theorem gX7_goes_X7_isHis : GoodIn wsX7_goes (wsV RX7 200 RX7 yX7_isHis wsX7_isHis) := goodIn_app (goodIn_of _ (by decide +kernel)) ggX7_goes_X7_isHis
set_option maxRecDepth 20000 in
theorem ggX7_goes_X7_lessens : GoodIn wsX7_goes wsX7_lessens := goodIn_r _ [19, 1, 3, 4, 6, 20, 21, 22, 10, 23, 48, 49, 50, 51, 52, 53, 54, 55, 56, 57, 58, 59, 60, 61, 62, 63, 64, 65, 66, 67, 68, 69, 70, 71, 72, 73, 74, 75, 76, 77, 78, 79, 80, 81] (by decide +kernel) (by decide +kernel)
set_option maxRecDepth 20000 in
theorem gX7_goes_X7_lessens : GoodIn wsX7_goes (wsV RX7 241 RX7 yX7_lessens wsX7_lessens) := goodIn_app (goodIn_of _ (by decide +kernel)) ggX7_goes_X7_lessens
set_option maxRecDepth 20000 in
theorem ggX7_goes_X7_goesOn : GoodIn wsX7_goes wsX7_goesOn := goodIn_r _ [27, 5, 1, 3, 4, 28, 29, 30, 10, 31, 32, 33, 34, 35, 36, 37, 38, 39, 40, 41, 42, 43, 44, 45, 46, 47, 16, 17, 18, 19, 6, 20, 21, 22, 23, 7, 8, 9, 11, 12, 13, 14, 15, 48, 49, 50, 51, 52, 53, 54, 55, 56, 57, 58, 59, 60, 61, 62, 63, 64, 65, 66, 67, 68, 69, 70, 71, 72, 73, 74, 75, 76, 77, 78, 79, 80, 81] (by decide +kernel) (by decide +kernel)
set_option maxRecDepth 20000 in
theorem gX7_goes_X7_goesOn : GoodIn wsX7_goes (wsV RX7 245 RX7 yX7_goesOn wsX7_goesOn) := goodIn_app (goodIn_of _ (by decide +kernel)) ggX7_goes_X7_goesOn
theorem dX7_goes_0 : decode cX7_goes 0 = .ok (.iconst 0, 1) := by decide +kernel
theorem dX7_goes_1 : decode cX7_goes 1 = .ok (.istore_n 3, 1) := by decide +kernel
theorem dX7_goes_2 : decode cX7_goes 2 = .ok (.iload_n 3, 1) := by decide +kernel
theorem dX7_goes_3 : decode cX7_goes 3 = .ok (.bipush 28, 2) := by decide +kernel
theorem dX7_goes_5 : decode cX7_goes 5 = .ok (.if_icmp .ge 33, 3) := by decide +kernel
theorem dX7_goes_8 : decode cX7_goes 8 = .ok (.aload_n 0, 1) := by decide +kernel
theorem dX7_goes_9 : decode cX7_goes 9 = .ok (.getfield 25, 3) := by decide +kernel
theorem dX7_goes_12 : decode cX7_goes 12 = .ok (.iload_n 3, 1) := by decide +kernel
theorem dX7_goes_13 : decode cX7_goes 13 = .ok (.ldc 240, 2) := by decide +kernel
theorem dX7_goes_15 : decode cX7_goes 15 = .ok (.iastore, 1) := by decide +kernel
theorem dX7_goes_16 : decode cX7_goes 16 = .ok (.aload_n 0, 1) := by decide +kernel
theorem dX7_goes_17 : decode cX7_goes 17 = .ok (.getfield 28, 3) := by decide +kernel
theorem dX7_goes_20 : decode cX7_goes 20 = .ok (.iload_n 3, 1) := by decide +kernel
theorem dX7_goes_21 : decode cX7_goes 21 = .ok (.ldc 240, 2) := by decide +kernel
theorem dX7_goes_23 : decode cX7_goes 23 = .ok (.iastore, 1) := by decide +kernel
theorem dX7_goes_24 : decode cX7_goes 24 = .ok (.aload_n 0, 1) := by decide +kernel
theorem dX7_goes_25 : decode cX7_goes 25 = .ok (.getfield 31, 3) := by decide +kernel
theorem dX7_goes_28 : decode cX7_goes 28 = .ok (.iload_n 3, 1) := by decide +kernel
theorem dX7_goes_29 : decode cX7_goes 29 = .ok (.ldc 240, 2) := by decide +kernel
theorem dX7_goes_31 : decode cX7_goes 31 = .ok (.iastore, 1) := by decide +kernel
theorem dX7_goes_32 : decode cX7_goes 32 = .ok (.iinc 3 1, 3) := by decide +kernel
theorem dX7_goes_35 : decode cX7_goes 35 = .ok (.goto (-33), 3) := by decide +kernel
theorem dX7_goes_38 : decode cX7_goes 38 = .ok (.iconst 0, 1) := by decide +kernel
theorem dX7_goes_39 : decode cX7_goes 39 = .ok (.istore_n 3, 1) := by decide +kernel
theorem dX7_goes_40 : decode cX7_goes 40 = .ok (.iload_n 3, 1) := by decide +kernel
theorem dX7_goes_41 : decode cX7_goes 41 = .ok (.aload_n 0, 1) := by decide +kernel
theorem dX7_goes_42 : decode cX7_goes 42 = .ok (.getfield 16, 3) := by decide +kernel
theorem dX7_goes_45 : decode cX7_goes 45 = .ok (.iconst 2, 1) := by decide +kernel
theorem dX7_goes_46 : decode cX7_goes 46 = .ok (.iaload, 1) := by decide +kernel
theorem dX7_goes_47 : decode cX7_goes 47 = .ok (.if_icmp .ge 30, 3) := by decide +kernel
theorem dX7_goes_50 : decode cX7_goes 50 = .ok (.aload_n 0, 1) := by decide +kernel
theorem dX7_goes_51 : decode cX7_goes 51 = .ok (.iload_n 3, 1) := by decide +kernel
theorem dX7_goes_52 : decode cX7_goes 52 = .ok (.iload_n 1, 1) := by decide +kernel
theorem dX7_goes_53 : decode cX7_goes 53 = .ok (.invokevirtual 200, 3) := by decide +kernel
theorem dX7_goes_56 : decode cX7_goes 56 = .ok (.ifCond .eq 15, 3) := by decide +kernel
theorem dX7_goes_59 : decode cX7_goes 59 = .ok (.aload_n 0, 1) := by decide +kernel
theorem dX7_goes_60 : decode cX7_goes 60 = .ok (.iconst 4, 1) := by decide +kernel
theorem dX7_goes_61 : decode cX7_goes 61 = .ok (.iload_n 1, 1) := by decide +kernel
theorem dX7_goes_62 : decode cX7_goes 62 = .ok (.imul, 1) := by decide +kernel
theorem dX7_goes_63 : decode cX7_goes 63 = .ok (.iload_n 3, 1) := by decide +kernel
theorem dX7_goes_64 : decode cX7_goes 64 = .ok (.iadd, 1) := by decide +kernel
theorem dX7_goes_65 : decode cX7_goes 65 = .ok (.iconst 0, 1) := by decide +kernel
theorem dX7_goes_66 : decode cX7_goes 66 = .ok (.iconst 0, 1) := by decide +kernel
theorem dX7_goes_67 : decode cX7_goes 67 = .ok (.iload_n 3, 1) := by decide +kernel
theorem dX7_goes_68 : decode cX7_goes 68 = .ok (.invokevirtual 241, 3) := by decide +kernel
theorem dX7_goes_71 : decode cX7_goes 71 = .ok (.iinc 3 1, 3) := by decide +kernel
theorem dX7_goes_74 : decode cX7_goes 74 = .ok (.goto (-34), 3) := by decide +kernel
theorem dX7_goes_77 : decode cX7_goes 77 = .ok (.aload_n 0, 1) := by decide +kernel
theorem dX7_goes_78 : decode cX7_goes 78 = .ok (.iconst 1, 1) := by decide +kernel
theorem dX7_goes_79 : decode cX7_goes 79 = .ok (.putfield 236, 3) := by decide +kernel
theorem dX7_goes_82 : decode cX7_goes 82 = .ok (.aload_n 0, 1) := by decide +kernel
theorem dX7_goes_83 : decode cX7_goes 83 = .ok (.getfield 236, 3) := by decide +kernel
theorem dX7_goes_86 : decode cX7_goes 86 = .ok (.ifCond .eq 73, 3) := by decide +kernel
theorem dX7_goes_89 : decode cX7_goes 89 = .ok (.aload_n 0, 1) := by decide +kernel
theorem dX7_goes_90 : decode cX7_goes 90 = .ok (.iconst 0, 1) := by decide +kernel
theorem dX7_goes_91 : decode cX7_goes 91 = .ok (.putfield 236, 3) := by decide +kernel
theorem dX7_goes_94 : decode cX7_goes 94 = .ok (.iconst 0, 1) := by decide +kernel
theorem dX7_goes_95 : decode cX7_goes 95 = .ok (.istore_n 3, 1) := by decide +kernel
theorem dX7_goes_96 : decode cX7_goes 96 = .ok (.iload_n 3, 1) := by decide +kernel
theorem dX7_goes_97 : decode cX7_goes 97 = .ok (.aload_n 0, 1) := by decide +kernel
theorem dX7_goes_98 : decode cX7_goes 98 = .ok (.getfield 16, 3) := by decide +kernel
theorem dX7_goes_101 : decode cX7_goes 101 = .ok (.iconst 0, 1) := by decide +kernel
theorem dX7_goes_102 : decode cX7_goes 102 = .ok (.iaload, 1) := by decide +kernel
theorem dX7_goes_103 : decode cX7_goes 103 = .ok (.if_icmp .ge 53, 3) := by decide +kernel
theorem dX7_goes_106 : decode cX7_goes 106 = .ok (.iconst 0, 1) := by decide +kernel
theorem dX7_goes_107 : decode cX7_goes 107 = .ok (.istore 4, 2) := by decide +kernel
theorem dX7_goes_109 : decode cX7_goes 109 = .ok (.iload 4, 2) := by decide +kernel
theorem dX7_goes_111 : decode cX7_goes 111 = .ok (.aload_n 0, 1) := by decide +kernel
theorem dX7_goes_112 : decode cX7_goes 112 = .ok (.getfield 16, 3) := by decide +kernel
theorem dX7_goes_115 : decode cX7_goes 115 = .ok (.iconst 2, 1) := by decide +kernel
theorem dX7_goes_116 : decode cX7_goes 116 = .ok (.iaload, 1) := by decide +kernel
theorem dX7_goes_117 : decode cX7_goes 117 = .ok (.if_icmp .ge 33, 3) := by decide +kernel
theorem dX7_goes_120 : decode cX7_goes 120 = .ok (.aload_n 0, 1) := by decide +kernel
theorem dX7_goes_121 : decode cX7_goes 121 = .ok (.getfield 25, 3) := by decide +kernel
theorem dX7_goes_124 : decode cX7_goes 124 = .ok (.iconst 4, 1) := by decide +kernel
theorem dX7_goes_125 : decode cX7_goes 125 = .ok (.iload_n 3, 1) := by decide +kernel
theorem dX7_goes_126 : decode cX7_goes 126 = .ok (.imul, 1) := by decide +kernel
theorem dX7_goes_127 : decode cX7_goes 127 = .ok (.iload 4, 2) := by decide +kernel
theorem dX7_goes_129 : decode cX7_goes 129 = .ok (.iadd, 1) := by decide +kernel
theorem dX7_goes_130 : decode cX7_goes 130 = .ok (.iaload, 1) := by decide +kernel
theorem dX7_goes_131 : decode cX7_goes 131 = .ok (.ldc 240, 2) := by decide +kernel
theorem dX7_goes_133 : decode cX7_goes 133 = .ok (.if_icmp .ge 11, 3) := by decide +kernel
theorem dX7_goes_136 : decode cX7_goes 136 = .ok (.aload_n 0, 1) := by decide +kernel
theorem dX7_goes_137 : decode cX7_goes 137 = .ok (.iload_n 3, 1) := by decide +kernel
theorem dX7_goes_138 : decode cX7_goes 138 = .ok (.iload 4, 2) := by decide +kernel
theorem dX7_goes_140 : decode cX7_goes 140 = .ok (.iload_n 2, 1) := by decide +kernel
theorem dX7_goes_141 : decode cX7_goes 141 = .ok (.invokevirtual 245, 3) := by decide +kernel
theorem dX7_goes_144 : decode cX7_goes 144 = .ok (.iinc 4 1, 3) := by decide +kernel
theorem dX7_goes_147 : decode cX7_goes 147 = .ok (.goto (-38), 3) := by decide +kernel
theorem dX7_goes_150 : decode cX7_goes 150 = .ok (.iinc 3 1, 3) := by decide +kernel
theorem dX7_goes_153 : decode cX7_goes 153 = .ok (.goto (-57), 3) := by decide +kernel
theorem dX7_goes_156 : decode cX7_goes 156 = .ok (.goto (-74), 3) := by decide +kernel
theorem dX7_goes_159 : decode cX7_goes 159 = .ok (.return_, 1) := by decide +kernel
set_option maxRecDepth 20000 in
theorem ggX7_goesOn_X7_over : GoodIn wsX7_goesOn wsX7_over := goodIn_r _ [9, 1, 43, 44, 45, 46, 47, 48, 49, 50, 51, 52, 53, 54, 55, 56, 57, 58, 59, 60, 61, 62, 63, 64, 65, 66, 67, 68, 69, 70, 71, 72, 73, 74, 75, 76] (by decide +kernel) (by decide +kernel)
set_option maxRecDepth 20000 in
theorem gX7_goesOn_X7_over : GoodIn wsX7_goesOn (wsV RX7 209 RX7 yX7_over wsX7_over) := goodIn_app (goodIn_of _ (by decide +kernel)) ggX7_goesOn_X7_over
set_option maxRecDepth 20000 in
theorem ggX7_goesOn_X7_known : GoodIn wsX7_goesOn wsX7_known := goodIn_r _ [13, 1, 43, 44, 45, 46, 47, 48, 49, 50, 51, 52, 53, 54, 55, 56, 57, 58, 59, 60, 61, 62, 63, 64, 65, 66, 67, 68, 69, 70, 71, 72, 73, 74, 75, 76] (by decide +kernel) (by decide +kernel)
set_option maxRecDepth 20000 in
theorem gX7_goesOn_X7_known : GoodIn wsX7_goesOn (wsV RX7 192 RX7 yX7_known wsX7_known) := goodIn_app (goodIn_of _ (by decide +kernel)) ggX7_goesOn_X7_known
set_option maxRecDepth 20000 in
theorem ggX7_goesOn_X7_length : GoodIn wsX7_goesOn wsX7_length := goodIn_r _ [17, 1, 43, 44, 45, 46, 47, 48, 49, 50, 51, 52, 53, 54, 55, 56, 57, 58, 59, 60, 61, 62, 63, 64, 65, 66, 67, 68, 69, 70, 71, 72, 73, 74, 75, 76] (by decide +kernel) (by decide +kernel)
set_option maxRecDepth 20000 in
theorem gX7_goesOn_X7_length : GoodIn wsX7_goesOn (wsV RX7 213 RX7 yX7_length wsX7_length) := goodIn_app (goodIn_of _ (by decide +kernel)) ggX7_goesOn_X7_length
set_option maxRecDepth 20000 in
theorem ggX7_goesOn_X7_pace : GoodIn wsX7_goesOn wsX7_pace := goodIn_r _ [21, 1, 43, 44, 45, 46, 47, 48, 49, 50, 51, 52, 53, 54, 55, 56, 57, 58, 59, 60, 61, 62, 63, 64, 65, 66, 67, 68, 69, 70, 71, 72, 73, 74, 75, 76] (by decide +kernel) (by decide +kernel)
set_option maxRecDepth 20000 in
theorem gX7_goesOn_X7_pace : GoodIn wsX7_goesOn (wsV RX7 186 RX7 yX7_pace wsX7_pace) := goodIn_app (goodIn_of _ (by decide +kernel)) ggX7_goesOn_X7_pace
set_option maxRecDepth 20000 in
theorem ggX7_goesOn_X7_fee : GoodIn wsX7_goesOn wsX7_fee := goodIn_r _ [25, 1, 43, 44, 45, 46, 47, 48, 49, 50, 51, 52, 53, 54, 55, 56, 57, 58, 59, 60, 61, 62, 63, 64, 65, 66, 67, 68, 69, 70, 71, 72, 73, 74, 75, 76] (by decide +kernel) (by decide +kernel)
set_option maxRecDepth 20000 in
theorem gX7_goesOn_X7_fee : GoodIn wsX7_goesOn (wsV RX7 189 RX7 yX7_fee wsX7_fee) := goodIn_app (goodIn_of _ (by decide +kernel)) ggX7_goesOn_X7_fee
set_option maxRecDepth 20000 in
theorem ggX7_goesOn_X7_lessens : GoodIn wsX7_goesOn wsX7_lessens := goodIn_r _ [29, 2, 3, 4, 30, 31, 32, 33, 8, 34, 43, 44, 45, 46, 47, 48, 49, 50, 51, 52, 53, 54, 55, 56, 57, 58, 59, 60, 61, 62, 63, 64, 65, 66, 67, 68, 69, 70, 71, 72, 73, 74, 75, 76] (by decide +kernel) (by decide +kernel)
set_option maxRecDepth 20000 in
theorem gX7_goesOn_X7_lessens : GoodIn wsX7_goesOn (wsV RX7 241 RX7 yX7_lessens wsX7_lessens) := goodIn_app (goodIn_of _ (by decide +kernel)) ggX7_goesOn_X7_lessens
set_option maxRecDepth 20000 in
theorem ggX7_goesOn_X7_isHis : GoodIn wsX7_goesOn wsX7_isHis := goodIn_r _ [38, 39, 40, 41, 8, 42, 1, 43, 44, 45, 46, 47, 48, 49, 50, 51, 52, 53, 54, 55, 56, 57, 58, 59, 60, 61, 62, 63, 64, 65, 66, 67, 68, 69, 70, 71, 72, 73, 74, 75, 76] (by decide +kernel) (by decide +kernel)
set_option maxRecDepth 20000 in
theorem gX7_goesOn_X7_isHis : GoodIn wsX7_goesOn (wsV RX7 200 RX7 yX7_isHis wsX7_isHis) := goodIn_app (goodIn_of _ (by decide +kernel)) ggX7_goesOn_X7_isHis
theorem dX7_goesOn_0 : decode cX7_goesOn 0 = .ok (.iconst 4, 1) := by decide +kernel
theorem dX7_goesOn_1 : decode cX7_goesOn 1 = .ok (.iload_n 1, 1) := by decide +kernel
theorem dX7_goesOn_2 : decode cX7_goesOn 2 = .ok (.imul, 1) := by decide +kernel
theorem dX7_goesOn_3 : decode cX7_goesOn 3 = .ok (.iload_n 2, 1) := by decide +kernel
theorem dX7_goesOn_4 : decode cX7_goesOn 4 = .ok (.iadd, 1) := by decide +kernel
theorem dX7_goesOn_5 : decode cX7_goesOn 5 = .ok (.istore 4, 2) := by decide +kernel
theorem dX7_goesOn_7 : decode cX7_goesOn 7 = .ok (.iconst 0, 1) := by decide +kernel
theorem dX7_goesOn_8 : decode cX7_goesOn 8 = .ok (.istore 5, 2) := by decide +kernel
theorem dX7_goesOn_10 : decode cX7_goesOn 10 = .ok (.iload 5, 2) := by decide +kernel
theorem dX7_goesOn_12 : decode cX7_goesOn 12 = .ok (.aload_n 0, 1) := by decide +kernel
theorem dX7_goesOn_13 : decode cX7_goesOn 13 = .ok (.getfield 16, 3) := by decide +kernel
theorem dX7_goesOn_16 : decode cX7_goesOn 16 = .ok (.iconst 1, 1) := by decide +kernel
theorem dX7_goesOn_17 : decode cX7_goesOn 17 = .ok (.iaload, 1) := by decide +kernel
theorem dX7_goesOn_18 : decode cX7_goesOn 18 = .ok (.if_icmp .ge 119, 3) := by decide +kernel
theorem dX7_goesOn_21 : decode cX7_goesOn 21 = .ok (.aload_n 0, 1) := by decide +kernel
theorem dX7_goesOn_22 : decode cX7_goesOn 22 = .ok (.iload 5, 2) := by decide +kernel
theorem dX7_goesOn_24 : decode cX7_goesOn 24 = .ok (.iload_n 1, 1) := by decide +kernel
theorem dX7_goesOn_25 : decode cX7_goesOn 25 = .ok (.invokevirtual 209, 3) := by decide +kernel
theorem dX7_goesOn_28 : decode cX7_goesOn 28 = .ok (.bipush (-9), 2) := by decide +kernel
theorem dX7_goesOn_30 : decode cX7_goesOn 30 = .ok (.if_icmp .eq 101, 3) := by decide +kernel
theorem dX7_goesOn_33 : decode cX7_goesOn 33 = .ok (.aload_n 0, 1) := by decide +kernel
theorem dX7_goesOn_34 : decode cX7_goesOn 34 = .ok (.iload_n 2, 1) := by decide +kernel
theorem dX7_goesOn_35 : decode cX7_goesOn 35 = .ok (.invokevirtual 192, 3) := by decide +kernel
theorem dX7_goesOn_38 : decode cX7_goesOn 38 = .ok (.iload 5, 2) := by decide +kernel
theorem dX7_goesOn_40 : decode cX7_goesOn 40 = .ok (.ishr, 1) := by decide +kernel
theorem dX7_goesOn_41 : decode cX7_goesOn 41 = .ok (.iconst 1, 1) := by decide +kernel
theorem dX7_goesOn_42 : decode cX7_goesOn 42 = .ok (.iand, 1) := by decide +kernel
theorem dX7_goesOn_43 : decode cX7_goesOn 43 = .ok (.iconst 1, 1) := by decide +kernel
theorem dX7_goesOn_44 : decode cX7_goesOn 44 = .ok (.if_icmp .ne 87, 3) := by decide +kernel
theorem dX7_goesOn_47 : decode cX7_goesOn 47 = .ok (.aload_n 0, 1) := by decide +kernel
theorem dX7_goesOn_48 : decode cX7_goesOn 48 = .ok (.iload 5, 2) := by decide +kernel
theorem dX7_goesOn_50 : decode cX7_goesOn 50 = .ok (.invokevirtual 213, 3) := by decide +kernel
theorem dX7_goesOn_53 : decode cX7_goesOn 53 = .ok (.aload_n 0, 1) := by decide +kernel
theorem dX7_goesOn_54 : decode cX7_goesOn 54 = .ok (.iload_n 2, 1) := by decide +kernel
theorem dX7_goesOn_55 : decode cX7_goesOn 55 = .ok (.invokevirtual 186, 3) := by decide +kernel
theorem dX7_goesOn_58 : decode cX7_goesOn 58 = .ok (.iadd, 1) := by decide +kernel
theorem dX7_goesOn_59 : decode cX7_goesOn 59 = .ok (.istore 6, 2) := by decide +kernel
theorem dX7_goesOn_61 : decode cX7_goesOn 61 = .ok (.aload_n 0, 1) := by decide +kernel
theorem dX7_goesOn_62 : decode cX7_goesOn 62 = .ok (.iload_n 2, 1) := by decide +kernel
theorem dX7_goesOn_63 : decode cX7_goesOn 63 = .ok (.invokevirtual 189, 3) := by decide +kernel
theorem dX7_goesOn_66 : decode cX7_goesOn 66 = .ok (.iload 6, 2) := by decide +kernel
theorem dX7_goesOn_68 : decode cX7_goesOn 68 = .ok (.imul, 1) := by decide +kernel
theorem dX7_goesOn_69 : decode cX7_goesOn 69 = .ok (.istore 7, 2) := by decide +kernel
theorem dX7_goesOn_71 : decode cX7_goesOn 71 = .ok (.aload_n 0, 1) := by decide +kernel
theorem dX7_goesOn_72 : decode cX7_goesOn 72 = .ok (.iconst 4, 1) := by decide +kernel
theorem dX7_goesOn_73 : decode cX7_goesOn 73 = .ok (.aload_n 0, 1) := by decide +kernel
theorem dX7_goesOn_74 : decode cX7_goesOn 74 = .ok (.iload 5, 2) := by decide +kernel
theorem dX7_goesOn_76 : decode cX7_goesOn 76 = .ok (.iload_n 1, 1) := by decide +kernel
theorem dX7_goesOn_77 : decode cX7_goesOn 77 = .ok (.invokevirtual 209, 3) := by decide +kernel
theorem dX7_goesOn_80 : decode cX7_goesOn 80 = .ok (.imul, 1) := by decide +kernel
theorem dX7_goesOn_81 : decode cX7_goesOn 81 = .ok (.iload_n 2, 1) := by decide +kernel
theorem dX7_goesOn_82 : decode cX7_goesOn 82 = .ok (.iadd, 1) := by decide +kernel
theorem dX7_goesOn_83 : decode cX7_goesOn 83 = .ok (.aload_n 0, 1) := by decide +kernel
theorem dX7_goesOn_84 : decode cX7_goesOn 84 = .ok (.getfield 25, 3) := by decide +kernel
theorem dX7_goesOn_87 : decode cX7_goesOn 87 = .ok (.iload 4, 2) := by decide +kernel
theorem dX7_goesOn_89 : decode cX7_goesOn 89 = .ok (.iaload, 1) := by decide +kernel
theorem dX7_goesOn_90 : decode cX7_goesOn 90 = .ok (.iload_n 3, 1) := by decide +kernel
theorem dX7_goesOn_91 : decode cX7_goesOn 91 = .ok (.ifCond .eq 8, 3) := by decide +kernel
theorem dX7_goesOn_94 : decode cX7_goesOn 94 = .ok (.iload 6, 2) := by decide +kernel
theorem dX7_goesOn_96 : decode cX7_goesOn 96 = .ok (.goto 5, 3) := by decide +kernel
theorem dX7_goesOn_99 : decode cX7_goesOn 99 = .ok (.iload 7, 2) := by decide +kernel

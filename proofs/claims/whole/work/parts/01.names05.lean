theorem dX6_taught_85 : decode cX6_taught 85 = .ok (.iload_n 1, 1) := by decide +kernel
theorem dX6_taught_86 : decode cX6_taught 86 = .ok (.iaload, 1) := by decide +kernel
theorem dX6_taught_87 : decode cX6_taught 87 = .ok (.invokevirtual 212, 3) := by decide +kernel
theorem dX6_taught_90 : decode cX6_taught 90 = .ok (.invokestatic 223, 3) := by decide +kernel
theorem dX6_taught_93 : decode cX6_taught 93 = .ok (.istore 6, 2) := by decide +kernel
theorem dX6_taught_95 : decode cX6_taught 95 = .ok (.iload 6, 2) := by decide +kernel
theorem dX6_taught_97 : decode cX6_taught 97 = .ok (.iload 4, 2) := by decide +kernel
theorem dX6_taught_99 : decode cX6_taught 99 = .ok (.if_icmp .le 10, 3) := by decide +kernel
theorem dX6_taught_102 : decode cX6_taught 102 = .ok (.iload 6, 2) := by decide +kernel
theorem dX6_taught_104 : decode cX6_taught 104 = .ok (.istore 4, 2) := by decide +kernel
theorem dX6_taught_106 : decode cX6_taught 106 = .ok (.iload 5, 2) := by decide +kernel
theorem dX6_taught_108 : decode cX6_taught 108 = .ok (.istore_n 3, 1) := by decide +kernel
theorem dX6_taught_109 : decode cX6_taught 109 = .ok (.iinc 5 1, 3) := by decide +kernel
theorem dX6_taught_112 : decode cX6_taught 112 = .ok (.goto (-80), 3) := by decide +kernel
theorem dX6_taught_115 : decode cX6_taught 115 = .ok (.iload_n 2, 1) := by decide +kernel
theorem dX6_taught_116 : decode cX6_taught 116 = .ok (.ifCond .ne 7, 3) := by decide +kernel
theorem dX6_taught_119 : decode cX6_taught 119 = .ok (.iload_n 3, 1) := by decide +kernel
theorem dX6_taught_120 : decode cX6_taught 120 = .ok (.goto 5, 3) := by decide +kernel
theorem dX6_taught_123 : decode cX6_taught 123 = .ok (.iload 4, 2) := by decide +kernel
theorem dX6_taught_125 : decode cX6_taught 125 = .ok (.ireturn, 1) := by decide +kernel
set_option maxRecDepth 20000 in
theorem ggX6_feels_X3_addMark : GoodIn wsX6_feels wsX3_addMark := goodIn_r _ [7, 8, 9, 20, 21, 22, 23, 24, 25] (by decide +kernel) (by decide +kernel)
set_option maxRecDepth 20000 in
theorem gX6_feels_X3_addMark : GoodIn wsX6_feels (wsV RX6 228 RX3 yX3_addMark wsX3_addMark) := goodIn_app (goodIn_of _ (by decide +kernel)) ggX6_feels_X3_addMark
theorem dX6_feels_0 : decode cX6_feels 0 = .ok (.iload_n 1, 1) := by decide +kernel
theorem dX6_feels_1 : decode cX6_feels 1 = .ok (.ifCond .lt 8, 3) := by decide +kernel
theorem dX6_feels_4 : decode cX6_feels 4 = .ok (.iload_n 1, 1) := by decide +kernel
theorem dX6_feels_5 : decode cX6_feels 5 = .ok (.iconst 3, 1) := by decide +kernel
theorem dX6_feels_6 : decode cX6_feels 6 = .ok (.if_icmp .le 5, 3) := by decide +kernel
theorem dX6_feels_9 : decode cX6_feels 9 = .ok (.iconst (-1), 1) := by decide +kernel
theorem dX6_feels_10 : decode cX6_feels 10 = .ok (.ireturn, 1) := by decide +kernel
theorem dX6_feels_11 : decode cX6_feels 11 = .ok (.aload_n 0, 1) := by decide +kernel
theorem dX6_feels_12 : decode cX6_feels 12 = .ok (.getfield 51, 3) := by decide +kernel
theorem dX6_feels_15 : decode cX6_feels 15 = .ok (.iload_n 1, 1) := by decide +kernel
theorem dX6_feels_16 : decode cX6_feels 16 = .ok (.invokevirtual 228, 3) := by decide +kernel
theorem dX6_feels_19 : decode cX6_feels 19 = .ok (.ifCond .eq 13, 3) := by decide +kernel
theorem dX6_feels_22 : decode cX6_feels 22 = .ok (.aload_n 0, 1) := by decide +kernel
theorem dX6_feels_23 : decode cX6_feels 23 = .ok (.getfield 51, 3) := by decide +kernel
theorem dX6_feels_26 : decode cX6_feels 26 = .ok (.getfield 231, 3) := by decide +kernel
theorem dX6_feels_29 : decode cX6_feels 29 = .ok (.goto 5, 3) := by decide +kernel
theorem dX6_feels_32 : decode cX6_feels 32 = .ok (.bipush (-3), 2) := by decide +kernel
theorem dX6_feels_34 : decode cX6_feels 34 = .ok (.ireturn, 1) := by decide +kernel
set_option maxRecDepth 20000 in
theorem ggX6_went_X4_hasCorner : GoodIn wsX6_went wsX4_hasCorner := goodIn_r _ [8, 9, 52, 53, 54, 55, 56, 57, 58, 59, 60, 61, 62, 63, 64, 65, 66] (by decide +kernel) (by decide +kernel)
set_option maxRecDepth 20000 in
theorem gX6_went_X4_hasCorner : GoodIn wsX6_went (wsV RX6 87 RX4 yX4_hasCorner wsX4_hasCorner) := goodIn_app (goodIn_of _ (by decide +kernel)) ggX6_went_X4_hasCorner
set_option maxRecDepth 20000 in
theorem ggX6_went_X3_lastWalked : GoodIn wsX6_went wsX3_lastWalked := goodIn_r _ [14, 15, 16, 46, 47, 48, 49, 50, 51] (by decide +kernel) (by decide +kernel)
set_option maxRecDepth 20000 in
theorem gX6_went_X3_lastWalked : GoodIn wsX6_went (wsV RX6 237 RX3 yX3_lastWalked wsX3_lastWalked) := goodIn_app (goodIn_of _ (by decide +kernel)) ggX6_went_X3_lastWalked
set_option maxRecDepth 20000 in
theorem ggX6_went_X4_nextTo : GoodIn wsX6_went wsX4_nextTo := goodIn_r _ [20, 21, 22, 23, 24, 7, 25, 26, 27, 28, 29, 30, 31, 52, 53, 54, 55, 56, 57, 58, 59, 60, 61, 62, 63, 64, 65, 66] (by decide +kernel) (by decide +kernel)
set_option maxRecDepth 20000 in
theorem gX6_went_X4_nextTo : GoodIn wsX6_went (wsV RX6 240 RX4 yX4_nextTo wsX4_nextTo) := goodIn_app (goodIn_of _ (by decide +kernel)) ggX6_went_X4_nextTo
set_option maxRecDepth 20000 in
theorem ggX6_went_X3_addCorner : GoodIn wsX6_went wsX3_addCorner := goodIn_r _ [35, 15, 16, 46, 47, 48, 49, 50, 51] (by decide +kernel) (by decide +kernel)
set_option maxRecDepth 20000 in
theorem gX6_went_X3_addCorner : GoodIn wsX6_went (wsV RX6 243 RX3 yX3_addCorner wsX3_addCorner) := goodIn_app (goodIn_of _ (by decide +kernel)) ggX6_went_X3_addCorner
theorem dX6_went_0 : decode cX6_went 0 = .ok (.aload_n 0, 1) := by decide +kernel
theorem dX6_went_1 : decode cX6_went 1 = .ok (.getfield 19, 3) := by decide +kernel
theorem dX6_went_4 : decode cX6_went 4 = .ok (.iload_n 1, 1) := by decide +kernel
theorem dX6_went_5 : decode cX6_went 5 = .ok (.invokevirtual 87, 3) := by decide +kernel
theorem dX6_went_8 : decode cX6_went 8 = .ok (.ifCond .ne 5, 3) := by decide +kernel
theorem dX6_went_11 : decode cX6_went 11 = .ok (.iconst (-1), 1) := by decide +kernel
theorem dX6_went_12 : decode cX6_went 12 = .ok (.ireturn, 1) := by decide +kernel
theorem dX6_went_13 : decode cX6_went 13 = .ok (.aload_n 0, 1) := by decide +kernel
theorem dX6_went_14 : decode cX6_went 14 = .ok (.getfield 51, 3) := by decide +kernel
theorem dX6_went_17 : decode cX6_went 17 = .ok (.getfield 234, 3) := by decide +kernel
theorem dX6_went_20 : decode cX6_went 20 = .ok (.ifCond .le 27, 3) := by decide +kernel
theorem dX6_went_23 : decode cX6_went 23 = .ok (.aload_n 0, 1) := by decide +kernel
theorem dX6_went_24 : decode cX6_went 24 = .ok (.getfield 19, 3) := by decide +kernel
theorem dX6_went_27 : decode cX6_went 27 = .ok (.aload_n 0, 1) := by decide +kernel
theorem dX6_went_28 : decode cX6_went 28 = .ok (.getfield 51, 3) := by decide +kernel
theorem dX6_went_31 : decode cX6_went 31 = .ok (.invokevirtual 237, 3) := by decide +kernel
theorem dX6_went_34 : decode cX6_went 34 = .ok (.invokevirtual 240, 3) := by decide +kernel
theorem dX6_went_37 : decode cX6_went 37 = .ok (.iload_n 1, 1) := by decide +kernel
theorem dX6_went_38 : decode cX6_went 38 = .ok (.ishr, 1) := by decide +kernel
theorem dX6_went_39 : decode cX6_went 39 = .ok (.iconst 1, 1) := by decide +kernel
theorem dX6_went_40 : decode cX6_went 40 = .ok (.iand, 1) := by decide +kernel
theorem dX6_went_41 : decode cX6_went 41 = .ok (.ifCond .ne 6, 3) := by decide +kernel
theorem dX6_went_44 : decode cX6_went 44 = .ok (.bipush (-2), 2) := by decide +kernel
theorem dX6_went_46 : decode cX6_went 46 = .ok (.ireturn, 1) := by decide +kernel
theorem dX6_went_47 : decode cX6_went 47 = .ok (.aload_n 0, 1) := by decide +kernel
theorem dX6_went_48 : decode cX6_went 48 = .ok (.getfield 51, 3) := by decide +kernel
theorem dX6_went_51 : decode cX6_went 51 = .ok (.iload_n 1, 1) := by decide +kernel
theorem dX6_went_52 : decode cX6_went 52 = .ok (.invokevirtual 243, 3) := by decide +kernel
theorem dX6_went_55 : decode cX6_went 55 = .ok (.ifCond .eq 13, 3) := by decide +kernel
theorem dX6_went_58 : decode cX6_went 58 = .ok (.aload_n 0, 1) := by decide +kernel
theorem dX6_went_59 : decode cX6_went 59 = .ok (.getfield 51, 3) := by decide +kernel
theorem dX6_went_62 : decode cX6_went 62 = .ok (.getfield 234, 3) := by decide +kernel
theorem dX6_went_65 : decode cX6_went 65 = .ok (.goto 5, 3) := by decide +kernel
theorem dX6_went_68 : decode cX6_went 68 = .ok (.bipush (-3), 2) := by decide +kernel
theorem dX6_went_70 : decode cX6_went 70 = .ok (.ireturn, 1) := by decide +kernel
set_option maxRecDepth 20000 in
theorem ggX6_forget_X3_forgetAll : GoodIn wsX6_forget wsX3_forgetAll := goodIn_r _ [8, 9, 10, 21, 22, 23, 24, 25, 26] (by decide +kernel) (by decide +kernel)
set_option maxRecDepth 20000 in
theorem gX6_forget_X3_forgetAll : GoodIn wsX6_forget (wsV RX6 81 RX3 yX3_forgetAll wsX3_forgetAll) := goodIn_app (goodIn_of _ (by decide +kernel)) ggX6_forget_X3_forgetAll
theorem dX6_forget_0 : decode cX6_forget 0 = .ok (.aload_n 0, 1) := by decide +kernel
theorem dX6_forget_1 : decode cX6_forget 1 = .ok (.getfield 51, 3) := by decide +kernel
theorem dX6_forget_4 : decode cX6_forget 4 = .ok (.getfield 231, 3) := by decide +kernel
theorem dX6_forget_7 : decode cX6_forget 7 = .ok (.aload_n 0, 1) := by decide +kernel
theorem dX6_forget_8 : decode cX6_forget 8 = .ok (.getfield 51, 3) := by decide +kernel
theorem dX6_forget_11 : decode cX6_forget 11 = .ok (.getfield 234, 3) := by decide +kernel
theorem dX6_forget_14 : decode cX6_forget 14 = .ok (.iadd, 1) := by decide +kernel
theorem dX6_forget_15 : decode cX6_forget 15 = .ok (.istore_n 1, 1) := by decide +kernel
theorem dX6_forget_16 : decode cX6_forget 16 = .ok (.aload_n 0, 1) := by decide +kernel
theorem dX6_forget_17 : decode cX6_forget 17 = .ok (.getfield 51, 3) := by decide +kernel
theorem dX6_forget_20 : decode cX6_forget 20 = .ok (.invokevirtual 81, 3) := by decide +kernel
theorem dX6_forget_23 : decode cX6_forget 23 = .ok (.iload_n 1, 1) := by decide +kernel
theorem dX6_forget_24 : decode cX6_forget 24 = .ok (.ireturn, 1) := by decide +kernel
set_option maxRecDepth 20000 in
theorem ggX6_fits_X3_rowCount : GoodIn wsX6_fits wsX3_rowCount := goodIn_r _ [7, 8, 9, 10, 11, 6, 12, 13, 14, 15, 16, 17, 18, 19, 20, 21, 22, 23, 24, 25, 26, 27, 28, 29, 30, 31, 32, 33, 34, 35, 36, 37, 38, 39, 40, 41, 78, 79, 80, 81, 82, 83, 84, 85, 86, 87, 88, 89, 90, 91, 92, 93, 94, 95, 96, 97, 98] (by decide +kernel) (by decide +kernel)
set_option maxRecDepth 20000 in
theorem gX6_fits_X3_rowCount : GoodIn wsX6_fits (wsV RX6 246 RX3 yX3_rowCount wsX3_rowCount) := goodIn_app (goodIn_of _ (by decide +kernel)) ggX6_fits_X3_rowCount
set_option maxRecDepth 20000 in
theorem ggX6_fits_X3_lastCorners : GoodIn wsX6_fits wsX3_lastCorners := goodIn_r _ [45, 9, 10, 11, 6, 12, 8, 13, 14, 15, 16, 17, 18, 19, 20, 21, 22, 23, 24, 25, 26, 27, 28, 29, 30, 31, 32, 33, 34, 35, 36, 37, 38, 39, 40, 41, 46, 47, 48, 49, 78, 79, 80, 81, 82, 83, 84, 85, 86, 87, 88, 89, 90, 91, 92, 93, 94, 95, 96, 97, 98] (by decide +kernel) (by decide +kernel)
set_option maxRecDepth 20000 in
theorem gX6_fits_X3_lastCorners : GoodIn wsX6_fits (wsV RX6 249 RX3 yX3_lastCorners wsX3_lastCorners) := goodIn_app (goodIn_of _ (by decide +kernel)) ggX6_fits_X3_lastCorners
set_option maxRecDepth 20000 in
theorem ggX6_fits_X3_firstCorners : GoodIn wsX6_fits wsX3_firstCorners := goodIn_r _ [53, 9, 10, 11, 6, 12, 8, 13, 14, 15, 16, 17, 18, 19, 20, 21, 22, 23, 24, 25, 26, 27, 28, 29, 30, 31, 32, 33, 34, 35, 36, 37, 38, 39, 40, 41, 46, 47, 48, 49, 78, 79, 80, 81, 82, 83, 84, 85, 86, 87, 88, 89, 90, 91, 92, 93, 94, 95, 96, 97, 98] (by decide +kernel) (by decide +kernel)
set_option maxRecDepth 20000 in
theorem gX6_fits_X3_firstCorners : GoodIn wsX6_fits (wsV RX6 252 RX3 yX3_firstCorners wsX3_firstCorners) := goodIn_app (goodIn_of _ (by decide +kernel)) ggX6_fits_X3_firstCorners
set_option maxRecDepth 20000 in
theorem ggX6_fits_X4_marksAround : GoodIn wsX6_fits wsX4_marksAround := goodIn_r _ [57, 58, 59, 60, 27, 28, 29, 30, 31, 32, 33, 34, 35, 36, 37, 38, 39, 40, 41, 61, 62, 63, 64, 65, 66, 67, 84, 85, 86, 87, 88, 89, 90, 91, 92, 93, 94, 95, 96, 97, 98] (by decide +kernel) (by decide +kernel)
set_option maxRecDepth 20000 in
theorem gX6_fits_X4_marksAround : GoodIn wsX6_fits (wsV RX6 255 RX4 yX4_marksAround wsX4_marksAround) := goodIn_app (goodIn_of _ (by decide +kernel)) ggX6_fits_X4_marksAround
theorem dX6_fits_0 : decode cX6_fits 0 = .ok (.iload_n 1, 1) := by decide +kernel
theorem dX6_fits_1 : decode cX6_fits 1 = .ok (.tableswitch 86 0 3 #[31, 43, 55, 67], 31) := by decide +kernel
theorem dX6_fits_32 : decode cX6_fits 32 = .ok (.aload_n 0, 1) := by decide +kernel
theorem dX6_fits_33 : decode cX6_fits 33 = .ok (.getfield 51, 3) := by decide +kernel
theorem dX6_fits_36 : decode cX6_fits 36 = .ok (.aload_n 0, 1) := by decide +kernel
theorem dX6_fits_37 : decode cX6_fits 37 = .ok (.getfield 19, 3) := by decide +kernel
theorem dX6_fits_40 : decode cX6_fits 40 = .ok (.invokevirtual 246, 3) := by decide +kernel
theorem dX6_fits_43 : decode cX6_fits 43 = .ok (.ireturn, 1) := by decide +kernel
theorem dX6_fits_44 : decode cX6_fits 44 = .ok (.aload_n 0, 1) := by decide +kernel
theorem dX6_fits_45 : decode cX6_fits 45 = .ok (.getfield 51, 3) := by decide +kernel
theorem dX6_fits_48 : decode cX6_fits 48 = .ok (.aload_n 0, 1) := by decide +kernel
theorem dX6_fits_49 : decode cX6_fits 49 = .ok (.getfield 19, 3) := by decide +kernel
theorem dX6_fits_52 : decode cX6_fits 52 = .ok (.invokevirtual 249, 3) := by decide +kernel
theorem dX6_fits_55 : decode cX6_fits 55 = .ok (.ireturn, 1) := by decide +kernel
theorem dX6_fits_56 : decode cX6_fits 56 = .ok (.aload_n 0, 1) := by decide +kernel
theorem dX6_fits_57 : decode cX6_fits 57 = .ok (.getfield 51, 3) := by decide +kernel
theorem dX6_fits_60 : decode cX6_fits 60 = .ok (.aload_n 0, 1) := by decide +kernel
theorem dX6_fits_61 : decode cX6_fits 61 = .ok (.getfield 19, 3) := by decide +kernel
theorem dX6_fits_64 : decode cX6_fits 64 = .ok (.invokevirtual 252, 3) := by decide +kernel
theorem dX6_fits_67 : decode cX6_fits 67 = .ok (.ireturn, 1) := by decide +kernel
theorem dX6_fits_68 : decode cX6_fits 68 = .ok (.aload_n 0, 1) := by decide +kernel
theorem dX6_fits_69 : decode cX6_fits 69 = .ok (.getfield 19, 3) := by decide +kernel
theorem dX6_fits_72 : decode cX6_fits 72 = .ok (.aload_n 0, 1) := by decide +kernel
theorem dX6_fits_73 : decode cX6_fits 73 = .ok (.getfield 51, 3) := by decide +kernel
theorem dX6_fits_76 : decode cX6_fits 76 = .ok (.aload_n 0, 1) := by decide +kernel
theorem dX6_fits_77 : decode cX6_fits 77 = .ok (.getfield 19, 3) := by decide +kernel
theorem dX6_fits_80 : decode cX6_fits 80 = .ok (.invokevirtual 249, 3) := by decide +kernel
theorem dX6_fits_83 : decode cX6_fits 83 = .ok (.invokevirtual 255, 3) := by decide +kernel
theorem dX6_fits_86 : decode cX6_fits 86 = .ok (.ireturn, 1) := by decide +kernel
theorem dX6_fits_87 : decode cX6_fits 87 = .ok (.iconst (-1), 1) := by decide +kernel
theorem dX6_fits_88 : decode cX6_fits 88 = .ok (.ireturn, 1) := by decide +kernel
set_option maxRecDepth 20000 in
theorem ggX6_falseMark_X3_isOnlyFalse : GoodIn wsX6_falseMark wsX3_isOnlyFalse := goodIn_r _ [10, 11, 12, 13, 14, 15, 26, 27, 28, 29, 30, 31, 32, 33, 34, 35, 36, 37, 38, 39, 40, 41, 42, 43, 44, 45, 46] (by decide +kernel) (by decide +kernel)
set_option maxRecDepth 20000 in
theorem gX6_falseMark_X3_isOnlyFalse : GoodIn wsX6_falseMark (wsV RX6 258 RX3 yX3_isOnlyFalse wsX3_isOnlyFalse) := goodIn_app (goodIn_of _ (by decide +kernel)) ggX6_falseMark_X3_isOnlyFalse
theorem dX6_falseMark_0 : decode cX6_falseMark 0 = .ok (.aload_n 0, 1) := by decide +kernel
theorem dX6_falseMark_1 : decode cX6_falseMark 1 = .ok (.getfield 51, 3) := by decide +kernel
theorem dX6_falseMark_4 : decode cX6_falseMark 4 = .ok (.getfield 231, 3) := by decide +kernel
theorem dX6_falseMark_7 : decode cX6_falseMark 7 = .ok (.aload_n 0, 1) := by decide +kernel
theorem dX6_falseMark_8 : decode cX6_falseMark 8 = .ok (.getfield 51, 3) := by decide +kernel
theorem dX6_falseMark_11 : decode cX6_falseMark 11 = .ok (.getfield 234, 3) := by decide +kernel
theorem dX6_falseMark_14 : decode cX6_falseMark 14 = .ok (.if_icmp .eq 5, 3) := by decide +kernel
theorem dX6_falseMark_17 : decode cX6_falseMark 17 = .ok (.iconst 0, 1) := by decide +kernel
theorem dX6_falseMark_18 : decode cX6_falseMark 18 = .ok (.ireturn, 1) := by decide +kernel
theorem dX6_falseMark_19 : decode cX6_falseMark 19 = .ok (.iconst 0, 1) := by decide +kernel
theorem dX6_falseMark_20 : decode cX6_falseMark 20 = .ok (.istore_n 1, 1) := by decide +kernel
theorem dX6_falseMark_21 : decode cX6_falseMark 21 = .ok (.iconst 0, 1) := by decide +kernel
theorem dX6_falseMark_22 : decode cX6_falseMark 22 = .ok (.istore_n 2, 1) := by decide +kernel
theorem dX6_falseMark_23 : decode cX6_falseMark 23 = .ok (.iload_n 2, 1) := by decide +kernel
theorem dX6_falseMark_24 : decode cX6_falseMark 24 = .ok (.aload_n 0, 1) := by decide +kernel
theorem dX6_falseMark_25 : decode cX6_falseMark 25 = .ok (.getfield 19, 3) := by decide +kernel
theorem dX6_falseMark_28 : decode cX6_falseMark 28 = .ok (.getfield 163, 3) := by decide +kernel
theorem dX6_falseMark_31 : decode cX6_falseMark 31 = .ok (.if_icmp .ge 30, 3) := by decide +kernel
theorem dX6_falseMark_34 : decode cX6_falseMark 34 = .ok (.aload_n 0, 1) := by decide +kernel
theorem dX6_falseMark_35 : decode cX6_falseMark 35 = .ok (.getfield 51, 3) := by decide +kernel
theorem dX6_falseMark_38 : decode cX6_falseMark 38 = .ok (.aload_n 0, 1) := by decide +kernel
theorem dX6_falseMark_39 : decode cX6_falseMark 39 = .ok (.getfield 19, 3) := by decide +kernel
theorem dX6_falseMark_42 : decode cX6_falseMark 42 = .ok (.iload_n 2, 1) := by decide +kernel
theorem dX6_falseMark_43 : decode cX6_falseMark 43 = .ok (.invokevirtual 258, 3) := by decide +kernel
theorem dX6_falseMark_46 : decode cX6_falseMark 46 = .ok (.ifCond .eq 9, 3) := by decide +kernel
theorem dX6_falseMark_49 : decode cX6_falseMark 49 = .ok (.iload_n 1, 1) := by decide +kernel
theorem dX6_falseMark_50 : decode cX6_falseMark 50 = .ok (.iconst 1, 1) := by decide +kernel
theorem dX6_falseMark_51 : decode cX6_falseMark 51 = .ok (.iload_n 2, 1) := by decide +kernel
theorem dX6_falseMark_52 : decode cX6_falseMark 52 = .ok (.ishl, 1) := by decide +kernel
theorem dX6_falseMark_53 : decode cX6_falseMark 53 = .ok (.ior, 1) := by decide +kernel
theorem dX6_falseMark_54 : decode cX6_falseMark 54 = .ok (.istore_n 1, 1) := by decide +kernel
theorem dX6_falseMark_55 : decode cX6_falseMark 55 = .ok (.iinc 2 1, 3) := by decide +kernel
theorem dX6_falseMark_58 : decode cX6_falseMark 58 = .ok (.goto (-35), 3) := by decide +kernel
theorem dX6_falseMark_61 : decode cX6_falseMark 61 = .ok (.iload_n 1, 1) := by decide +kernel
theorem dX6_falseMark_62 : decode cX6_falseMark 62 = .ok (.ireturn, 1) := by decide +kernel
set_option maxRecDepth 20000 in
theorem ggX6_wishes_X4_hasCorner : GoodIn wsX6_wishes wsX4_hasCorner := goodIn_r _ [8, 9, 36, 37, 38, 39, 40, 41, 42, 43, 44, 45, 46, 47, 48, 49, 50] (by decide +kernel) (by decide +kernel)
set_option maxRecDepth 20000 in
theorem gX6_wishes_X4_hasCorner : GoodIn wsX6_wishes (wsV RX6 87 RX4 yX4_hasCorner wsX4_hasCorner) := goodIn_app (goodIn_of _ (by decide +kernel)) ggX6_wishes_X4_hasCorner
set_option maxRecDepth 20000 in
theorem ggX6_wishes_X5_add : GoodIn wsX6_wishes wsX5_add := goodIn_r _ [14, 15, 16, 17, 18, 29, 30, 31, 32, 33, 34, 35] (by decide +kernel) (by decide +kernel)
set_option maxRecDepth 20000 in
theorem gX6_wishes_X5_add : GoodIn wsX6_wishes (wsV RX6 262 RX5 yX5_add wsX5_add) := goodIn_app (goodIn_of _ (by decide +kernel)) ggX6_wishes_X5_add
theorem dX6_wishes_0 : decode cX6_wishes 0 = .ok (.aload_n 0, 1) := by decide +kernel
theorem dX6_wishes_1 : decode cX6_wishes 1 = .ok (.getfield 19, 3) := by decide +kernel
theorem dX6_wishes_4 : decode cX6_wishes 4 = .ok (.iload_n 1, 1) := by decide +kernel
theorem dX6_wishes_5 : decode cX6_wishes 5 = .ok (.invokevirtual 87, 3) := by decide +kernel
theorem dX6_wishes_8 : decode cX6_wishes 8 = .ok (.ifCond .eq 19, 3) := by decide +kernel
theorem dX6_wishes_11 : decode cX6_wishes 11 = .ok (.aload_n 0, 1) := by decide +kernel
theorem dX6_wishes_12 : decode cX6_wishes 12 = .ok (.getfield 19, 3) := by decide +kernel
theorem dX6_wishes_15 : decode cX6_wishes 15 = .ok (.iload_n 2, 1) := by decide +kernel
theorem dX6_wishes_16 : decode cX6_wishes 16 = .ok (.invokevirtual 87, 3) := by decide +kernel
theorem dX6_wishes_19 : decode cX6_wishes 19 = .ok (.ifCond .eq 8, 3) := by decide +kernel
theorem dX6_wishes_22 : decode cX6_wishes 22 = .ok (.iload_n 1, 1) := by decide +kernel
theorem dX6_wishes_23 : decode cX6_wishes 23 = .ok (.iload_n 2, 1) := by decide +kernel
theorem dX6_wishes_24 : decode cX6_wishes 24 = .ok (.if_icmp .ne 5, 3) := by decide +kernel
theorem dX6_wishes_27 : decode cX6_wishes 27 = .ok (.iconst (-1), 1) := by decide +kernel
theorem dX6_wishes_28 : decode cX6_wishes 28 = .ok (.ireturn, 1) := by decide +kernel
theorem dX6_wishes_29 : decode cX6_wishes 29 = .ok (.iload_n 3, 1) := by decide +kernel
theorem dX6_wishes_30 : decode cX6_wishes 30 = .ok (.ifCond .lt 9, 3) := by decide +kernel
theorem dX6_wishes_33 : decode cX6_wishes 33 = .ok (.iload_n 3, 1) := by decide +kernel
theorem dX6_wishes_34 : decode cX6_wishes 34 = .ok (.bipush 99, 2) := by decide +kernel
theorem dX6_wishes_36 : decode cX6_wishes 36 = .ok (.if_icmp .le 5, 3) := by decide +kernel
theorem dX6_wishes_39 : decode cX6_wishes 39 = .ok (.iconst (-1), 1) := by decide +kernel
theorem dX6_wishes_40 : decode cX6_wishes 40 = .ok (.ireturn, 1) := by decide +kernel
theorem dX6_wishes_41 : decode cX6_wishes 41 = .ok (.aload_n 0, 1) := by decide +kernel
theorem dX6_wishes_42 : decode cX6_wishes 42 = .ok (.getfield 58, 3) := by decide +kernel
theorem dX6_wishes_45 : decode cX6_wishes 45 = .ok (.iload_n 1, 1) := by decide +kernel
theorem dX6_wishes_46 : decode cX6_wishes 46 = .ok (.iload_n 2, 1) := by decide +kernel
theorem dX6_wishes_47 : decode cX6_wishes 47 = .ok (.iload_n 3, 1) := by decide +kernel
theorem dX6_wishes_48 : decode cX6_wishes 48 = .ok (.invokevirtual 262, 3) := by decide +kernel
theorem dX6_wishes_51 : decode cX6_wishes 51 = .ok (.ifCond .eq 13, 3) := by decide +kernel
theorem dX6_wishes_54 : decode cX6_wishes 54 = .ok (.aload_n 0, 1) := by decide +kernel
theorem dX6_wishes_55 : decode cX6_wishes 55 = .ok (.getfield 58, 3) := by decide +kernel
theorem dX6_wishes_58 : decode cX6_wishes 58 = .ok (.getfield 84, 3) := by decide +kernel
theorem dX6_wishes_61 : decode cX6_wishes 61 = .ok (.goto 5, 3) := by decide +kernel
theorem dX6_wishes_64 : decode cX6_wishes 64 = .ok (.bipush (-3), 2) := by decide +kernel
theorem dX6_wishes_66 : decode cX6_wishes 66 = .ok (.ireturn, 1) := by decide +kernel
theorem dX6_grants_0 : decode cX6_grants 0 = .ok (.aload_n 0, 1) := by decide +kernel
theorem dX6_grants_1 : decode cX6_grants 1 = .ok (.getfield 58, 3) := by decide +kernel
theorem dX6_grants_4 : decode cX6_grants 4 = .ok (.getfield 84, 3) := by decide +kernel
theorem dX6_grants_7 : decode cX6_grants 7 = .ok (.istore_n 1, 1) := by decide +kernel
theorem dX6_grants_8 : decode cX6_grants 8 = .ok (.aload_n 0, 1) := by decide +kernel
theorem dX6_grants_9 : decode cX6_grants 9 = .ok (.getfield 58, 3) := by decide +kernel
theorem dX6_grants_12 : decode cX6_grants 12 = .ok (.iconst 0, 1) := by decide +kernel
theorem dX6_grants_13 : decode cX6_grants 13 = .ok (.putfield 84, 3) := by decide +kernel
theorem dX6_grants_16 : decode cX6_grants 16 = .ok (.iload_n 1, 1) := by decide +kernel
theorem dX6_grants_17 : decode cX6_grants 17 = .ok (.ireturn, 1) := by decide +kernel
set_option maxRecDepth 20000 in
theorem ggX6_day_X4_hasGuide : GoodIn wsX6_day wsX4_hasGuide := goodIn_r _ [9, 10, 87, 88, 89, 90, 91, 92, 93, 94, 95, 96, 97, 98, 99, 100, 101] (by decide +kernel) (by decide +kernel)
set_option maxRecDepth 20000 in
theorem gX6_day_X4_hasGuide : GoodIn wsX6_day (wsV RX6 106 RX4 yX4_hasGuide wsX4_hasGuide) := goodIn_app (goodIn_of _ (by decide +kernel)) ggX6_day_X4_hasGuide
set_option maxRecDepth 20000 in
theorem ggX6_day_X4_hasCorner : GoodIn wsX6_day wsX4_hasCorner := goodIn_r _ [14, 15, 87, 88, 89, 90, 91, 92, 93, 94, 95, 96, 97, 98, 99, 100, 101] (by decide +kernel) (by decide +kernel)
set_option maxRecDepth 20000 in
theorem gX6_day_X4_hasCorner : GoodIn wsX6_day (wsV RX6 87 RX4 yX4_hasCorner wsX4_hasCorner) := goodIn_app (goodIn_of _ (by decide +kernel)) ggX6_day_X4_hasCorner
set_option maxRecDepth 20000 in
theorem ggX6_day_X4_isHis : GoodIn wsX6_day wsX4_isHis := goodIn_r _ [19, 20, 21, 6, 7, 8, 9, 10, 22, 12, 13, 14, 15, 87, 88, 89, 90, 91, 92, 93, 94, 95, 96, 97, 98, 99, 100, 101] (by decide +kernel) (by decide +kernel)
set_option maxRecDepth 20000 in
theorem gX6_day_X4_isHis : GoodIn wsX6_day (wsV RX6 176 RX4 yX4_isHis wsX4_isHis) := goodIn_app (goodIn_of _ (by decide +kernel)) ggX6_day_X4_isHis
set_option maxRecDepth 20000 in
theorem ggX6_day_X5_findBestDay : GoodIn wsX6_day wsX5_findBestDay := goodIn_r _ [27, 28, 29, 30, 31, 32, 26, 33, 34, 35, 36, 37, 38, 39, 40, 41, 42, 43, 44, 8, 45, 46, 21, 6, 7, 9, 10, 47, 48, 49, 50, 51, 52, 53, 54, 55, 56, 57, 58, 59, 60, 61, 62, 63, 64, 65, 66, 67, 68, 69, 80, 81, 82, 83, 84, 85, 86, 87, 88, 89, 90, 91, 92, 93, 94, 95, 96, 97, 98, 99, 100, 101] (by decide +kernel) (by decide +kernel)
set_option maxRecDepth 20000 in
theorem gX6_day_X5_findBestDay : GoodIn wsX6_day (wsV RX6 266 RX5 yX5_findBestDay wsX5_findBestDay) := goodIn_app (goodIn_of _ (by decide +kernel)) ggX6_day_X5_findBestDay
theorem dX6_day_0 : decode cX6_day 0 = .ok (.aload_n 0, 1) := by decide +kernel
theorem dX6_day_1 : decode cX6_day 1 = .ok (.getfield 19, 3) := by decide +kernel
theorem dX6_day_4 : decode cX6_day 4 = .ok (.iload_n 1, 1) := by decide +kernel
theorem dX6_day_5 : decode cX6_day 5 = .ok (.invokevirtual 106, 3) := by decide +kernel
theorem dX6_day_8 : decode cX6_day 8 = .ok (.ifCond .eq 26, 3) := by decide +kernel
theorem dX6_day_11 : decode cX6_day 11 = .ok (.aload_n 0, 1) := by decide +kernel
theorem dX6_day_12 : decode cX6_day 12 = .ok (.getfield 19, 3) := by decide +kernel
theorem dX6_day_15 : decode cX6_day 15 = .ok (.iload_n 2, 1) := by decide +kernel
theorem dX6_day_16 : decode cX6_day 16 = .ok (.invokevirtual 87, 3) := by decide +kernel
theorem dX6_day_19 : decode cX6_day 19 = .ok (.ifCond .eq 15, 3) := by decide +kernel
theorem dX6_day_22 : decode cX6_day 22 = .ok (.aload_n 0, 1) := by decide +kernel
theorem dX6_day_23 : decode cX6_day 23 = .ok (.getfield 19, 3) := by decide +kernel
theorem dX6_day_26 : decode cX6_day 26 = .ok (.iload_n 1, 1) := by decide +kernel
theorem dX6_day_27 : decode cX6_day 27 = .ok (.iload_n 2, 1) := by decide +kernel
theorem dX6_day_28 : decode cX6_day 28 = .ok (.invokevirtual 176, 3) := by decide +kernel
theorem dX6_day_31 : decode cX6_day 31 = .ok (.ifCond .ne 5, 3) := by decide +kernel
theorem dX6_day_34 : decode cX6_day 34 = .ok (.iconst (-1), 1) := by decide +kernel
theorem dX6_day_35 : decode cX6_day 35 = .ok (.ireturn, 1) := by decide +kernel
theorem dX6_day_36 : decode cX6_day 36 = .ok (.iload_n 3, 1) := by decide +kernel
theorem dX6_day_37 : decode cX6_day 37 = .ok (.ifCond .lt 20, 3) := by decide +kernel
theorem dX6_day_40 : decode cX6_day 40 = .ok (.iload_n 3, 1) := by decide +kernel
theorem dX6_day_41 : decode cX6_day 41 = .ok (.bipush 99, 2) := by decide +kernel
theorem dX6_day_43 : decode cX6_day 43 = .ok (.if_icmp .gt 14, 3) := by decide +kernel
theorem dX6_day_46 : decode cX6_day 46 = .ok (.iload 4, 2) := by decide +kernel
theorem dX6_day_48 : decode cX6_day 48 = .ok (.ifCond .lt 9, 3) := by decide +kernel
theorem dX6_day_51 : decode cX6_day 51 = .ok (.iload 4, 2) := by decide +kernel
theorem dX6_day_53 : decode cX6_day 53 = .ok (.iconst 1, 1) := by decide +kernel
theorem dX6_day_54 : decode cX6_day 54 = .ok (.if_icmp .le 5, 3) := by decide +kernel
theorem dX6_day_57 : decode cX6_day 57 = .ok (.iconst (-1), 1) := by decide +kernel
theorem dX6_day_58 : decode cX6_day 58 = .ok (.ireturn, 1) := by decide +kernel
theorem dX6_day_59 : decode cX6_day 59 = .ok (.aload_n 0, 1) := by decide +kernel
theorem dX6_day_60 : decode cX6_day 60 = .ok (.getfield 58, 3) := by decide +kernel
theorem dX6_day_63 : decode cX6_day 63 = .ok (.aload_n 0, 1) := by decide +kernel
theorem dX6_day_64 : decode cX6_day 64 = .ok (.getfield 19, 3) := by decide +kernel
theorem dX6_day_67 : decode cX6_day 67 = .ok (.iload_n 1, 1) := by decide +kernel
theorem dX6_day_68 : decode cX6_day 68 = .ok (.iload_n 2, 1) := by decide +kernel
theorem dX6_day_69 : decode cX6_day 69 = .ok (.iload_n 3, 1) := by decide +kernel
theorem dX6_day_70 : decode cX6_day 70 = .ok (.invokevirtual 266, 3) := by decide +kernel
theorem dX6_day_73 : decode cX6_day 73 = .ok (.iload 4, 2) := by decide +kernel
theorem dX6_day_75 : decode cX6_day 75 = .ok (.ifCond .ne 13, 3) := by decide +kernel
theorem dX6_day_78 : decode cX6_day 78 = .ok (.aload_n 0, 1) := by decide +kernel
theorem dX6_day_79 : decode cX6_day 79 = .ok (.getfield 58, 3) := by decide +kernel
theorem dX6_day_82 : decode cX6_day 82 = .ok (.getfield 270, 3) := by decide +kernel
theorem dX6_day_85 : decode cX6_day 85 = .ok (.goto 10, 3) := by decide +kernel
theorem dX6_day_88 : decode cX6_day 88 = .ok (.aload_n 0, 1) := by decide +kernel
theorem dX6_day_89 : decode cX6_day 89 = .ok (.getfield 58, 3) := by decide +kernel
theorem dX6_day_92 : decode cX6_day 92 = .ok (.getfield 273, 3) := by decide +kernel
theorem dX6_day_95 : decode cX6_day 95 = .ok (.ireturn, 1) := by decide +kernel
set_option maxRecDepth 20000 in
theorem ggX6_rate_X4_hasGuide : GoodIn wsX6_rate wsX4_hasGuide := goodIn_r _ [7, 8, 39, 40, 41, 42, 43, 44, 45, 46, 47, 48, 49, 50, 51, 52, 53] (by decide +kernel) (by decide +kernel)
set_option maxRecDepth 20000 in
theorem gX6_rate_X4_hasGuide : GoodIn wsX6_rate (wsV RX6 106 RX4 yX4_hasGuide wsX4_hasGuide) := goodIn_app (goodIn_of _ (by decide +kernel)) ggX6_rate_X4_hasGuide
set_option maxRecDepth 20000 in
theorem ggX6_rate_X6_rateAs : GoodIn wsX6_rate wsX6_rateAs := goodIn_r _ [13, 14, 15, 1, 16, 17, 18, 19, 20, 21, 9, 10, 11, 12, 22, 23, 24, 25, 26, 27, 28, 29, 30, 31, 32, 33, 34, 35, 36, 37, 38, 39, 40, 41, 42, 43, 44, 45, 46, 47, 48, 49, 50, 51, 52, 53, 54, 55, 56, 57, 58, 59, 60, 61, 62] (by decide +kernel) (by decide +kernel)
set_option maxRecDepth 20000 in
theorem gX6_rate_X6_rateAs : GoodIn wsX6_rate (wsV RX6 277 RX6 yX6_rateAs wsX6_rateAs) := goodIn_app (goodIn_of _ (by decide +kernel)) ggX6_rate_X6_rateAs
theorem dX6_rate_0 : decode cX6_rate 0 = .ok (.iload_n 1, 1) := by decide +kernel
theorem dX6_rate_1 : decode cX6_rate 1 = .ok (.ifCond .lt 20, 3) := by decide +kernel
theorem dX6_rate_4 : decode cX6_rate 4 = .ok (.iload_n 1, 1) := by decide +kernel
theorem dX6_rate_5 : decode cX6_rate 5 = .ok (.bipush 6, 2) := by decide +kernel
theorem dX6_rate_7 : decode cX6_rate 7 = .ok (.if_icmp .ge 14, 3) := by decide +kernel
theorem dX6_rate_10 : decode cX6_rate 10 = .ok (.aload_n 0, 1) := by decide +kernel
theorem dX6_rate_11 : decode cX6_rate 11 = .ok (.getfield 19, 3) := by decide +kernel
theorem dX6_rate_14 : decode cX6_rate 14 = .ok (.iload_n 2, 1) := by decide +kernel
theorem dX6_rate_15 : decode cX6_rate 15 = .ok (.invokevirtual 106, 3) := by decide +kernel
theorem dX6_rate_18 : decode cX6_rate 18 = .ok (.ifCond .ne 7, 3) := by decide +kernel
theorem dX6_rate_21 : decode cX6_rate 21 = .ok (.ldc_w 276, 3) := by decide +kernel
theorem dX6_rate_24 : decode cX6_rate 24 = .ok (.ireturn, 1) := by decide +kernel
theorem dX6_rate_25 : decode cX6_rate 25 = .ok (.aload_n 0, 1) := by decide +kernel
theorem dX6_rate_26 : decode cX6_rate 26 = .ok (.iload_n 1, 1) := by decide +kernel
theorem dX6_rate_27 : decode cX6_rate 27 = .ok (.iload_n 2, 1) := by decide +kernel
theorem dX6_rate_28 : decode cX6_rate 28 = .ok (.iconst 0, 1) := by decide +kernel
theorem dX6_rate_29 : decode cX6_rate 29 = .ok (.invokevirtual 277, 3) := by decide +kernel
theorem dX6_rate_32 : decode cX6_rate 32 = .ok (.ireturn, 1) := by decide +kernel
set_option maxRecDepth 20000 in
theorem ggX6_rateAs_X6_rateAs : GoodIn wsX6_rateAs wsX6_rateAs := goodIn_r _ [0, 1, 2, 3, 4, 5, 6, 7, 8, 9, 10, 11, 12, 13, 14, 15, 16, 17, 18, 19, 20, 21, 22, 23, 24, 25, 26, 27, 28, 29, 30, 31, 32, 33, 34, 35, 36, 37, 38, 39, 40, 41, 42, 43, 44, 45, 46, 47, 48, 49, 50, 51, 52, 53, 54] (by decide +kernel) (by decide +kernel)
set_option maxRecDepth 20000 in
theorem gX6_rateAs_X6_rateAs : GoodIn wsX6_rateAs (wsV RX6 277 RX6 yX6_rateAs wsX6_rateAs) := goodIn_app (goodIn_of _ (by decide +kernel)) ggX6_rateAs_X6_rateAs
set_option maxRecDepth 20000 in
theorem ggX6_rateAs_J6_bitCount_0f7a4 : GoodIn wsX6_rateAs wsJ6_bitCount_0f7a4 := goodIn_r _ [17, 18, 19, 20] (by decide +kernel) (by decide +kernel)
set_option maxRecDepth 20000 in
theorem gX6_rateAs_J6_bitCount_0f7a4 : GoodIn wsX6_rateAs (va_wsS RX6 223 yJ6_bitCount_0f7a4 wsJ6_bitCount_0f7a4) := goodIn_app (goodIn_of _ (by decide +kernel)) ggX6_rateAs_J6_bitCount_0f7a4
theorem dX6_rateAs_0 : decode cX6_rateAs 0 = .ok (.iload_n 3, 1) := by decide +kernel
theorem dX6_rateAs_1 : decode cX6_rateAs 1 = .ok (.bipush 6, 2) := by decide +kernel
theorem dX6_rateAs_3 : decode cX6_rateAs 3 = .ok (.if_icmp .ge 13, 3) := by decide +kernel
theorem dX6_rateAs_6 : decode cX6_rateAs 6 = .ok (.iload_n 1, 1) := by decide +kernel
theorem dX6_rateAs_7 : decode cX6_rateAs 7 = .ok (.ifCond .lt 9, 3) := by decide +kernel
theorem dX6_rateAs_10 : decode cX6_rateAs 10 = .ok (.iload_n 1, 1) := by decide +kernel
theorem dX6_rateAs_11 : decode cX6_rateAs 11 = .ok (.bipush 6, 2) := by decide +kernel
theorem dX6_rateAs_13 : decode cX6_rateAs 13 = .ok (.if_icmp .lt 5, 3) := by decide +kernel
theorem dX6_rateAs_16 : decode cX6_rateAs 16 = .ok (.iconst 0, 1) := by decide +kernel
theorem dX6_rateAs_17 : decode cX6_rateAs 17 = .ok (.ireturn, 1) := by decide +kernel
theorem dX6_rateAs_18 : decode cX6_rateAs 18 = .ok (.aload_n 0, 1) := by decide +kernel
theorem dX6_rateAs_19 : decode cX6_rateAs 19 = .ok (.dup, 1) := by decide +kernel
theorem dX6_rateAs_20 : decode cX6_rateAs 20 = .ok (.getfield 62, 3) := by decide +kernel
theorem dX6_rateAs_23 : decode cX6_rateAs 23 = .ok (.getstatic 281, 3) := by decide +kernel
theorem dX6_rateAs_26 : decode cX6_rateAs 26 = .ok (.iload_n 1, 1) := by decide +kernel
theorem dX6_rateAs_27 : decode cX6_rateAs 27 = .ok (.iaload, 1) := by decide +kernel
theorem dX6_rateAs_28 : decode cX6_rateAs 28 = .ok (.i2l, 1) := by decide +kernel
theorem dX6_rateAs_29 : decode cX6_rateAs 29 = .ok (.ladd, 1) := by decide +kernel
theorem dX6_rateAs_30 : decode cX6_rateAs 30 = .ok (.putfield 62, 3) := by decide +kernel
theorem dX6_rateAs_33 : decode cX6_rateAs 33 = .ok (.iload_n 1, 1) := by decide +kernel
theorem dX6_rateAs_34 : decode cX6_rateAs 34 = .ok (.tableswitch 130 1 5 #[34, 54, 77, 89, 112], 34) := by decide +kernel
theorem dX6_rateAs_68 : decode cX6_rateAs 68 = .ok (.aload_n 0, 1) := by decide +kernel
theorem dX6_rateAs_69 : decode cX6_rateAs 69 = .ok (.iconst 0, 1) := by decide +kernel
theorem dX6_rateAs_70 : decode cX6_rateAs 70 = .ok (.iload_n 2, 1) := by decide +kernel
theorem dX6_rateAs_71 : decode cX6_rateAs 71 = .ok (.iload_n 3, 1) := by decide +kernel
theorem dX6_rateAs_72 : decode cX6_rateAs 72 = .ok (.iconst 1, 1) := by decide +kernel
theorem dX6_rateAs_73 : decode cX6_rateAs 73 = .ok (.iadd, 1) := by decide +kernel
theorem dX6_rateAs_74 : decode cX6_rateAs 74 = .ok (.invokevirtual 277, 3) := by decide +kernel
theorem dX6_rateAs_77 : decode cX6_rateAs 77 = .ok (.aload_n 0, 1) := by decide +kernel
theorem dX6_rateAs_78 : decode cX6_rateAs 78 = .ok (.getfield 19, 3) := by decide +kernel
theorem dX6_rateAs_81 : decode cX6_rateAs 81 = .ok (.getfield 109, 3) := by decide +kernel
theorem dX6_rateAs_84 : decode cX6_rateAs 84 = .ok (.iload_n 2, 1) := by decide +kernel
theorem dX6_rateAs_85 : decode cX6_rateAs 85 = .ok (.iaload, 1) := by decide +kernel
theorem dX6_rateAs_86 : decode cX6_rateAs 86 = .ok (.iadd, 1) := by decide +kernel
theorem dX6_rateAs_87 : decode cX6_rateAs 87 = .ok (.ireturn, 1) := by decide +kernel
theorem dX6_rateAs_88 : decode cX6_rateAs 88 = .ok (.aload_n 0, 1) := by decide +kernel
theorem dX6_rateAs_89 : decode cX6_rateAs 89 = .ok (.iconst 0, 1) := by decide +kernel
theorem dX6_rateAs_90 : decode cX6_rateAs 90 = .ok (.iload_n 2, 1) := by decide +kernel
theorem dX6_rateAs_91 : decode cX6_rateAs 91 = .ok (.iload_n 3, 1) := by decide +kernel
theorem dX6_rateAs_92 : decode cX6_rateAs 92 = .ok (.iconst 1, 1) := by decide +kernel
theorem dX6_rateAs_93 : decode cX6_rateAs 93 = .ok (.iadd, 1) := by decide +kernel
theorem dX6_rateAs_94 : decode cX6_rateAs 94 = .ok (.invokevirtual 277, 3) := by decide +kernel
theorem dX6_rateAs_97 : decode cX6_rateAs 97 = .ok (.aload_n 0, 1) := by decide +kernel
theorem dX6_rateAs_98 : decode cX6_rateAs 98 = .ok (.getfield 19, 3) := by decide +kernel
theorem dX6_rateAs_101 : decode cX6_rateAs 101 = .ok (.getfield 115, 3) := by decide +kernel
theorem dX6_rateAs_104 : decode cX6_rateAs 104 = .ok (.iload_n 2, 1) := by decide +kernel
theorem dX6_rateAs_105 : decode cX6_rateAs 105 = .ok (.iaload, 1) := by decide +kernel
theorem dX6_rateAs_106 : decode cX6_rateAs 106 = .ok (.invokestatic 223, 3) := by decide +kernel
theorem dX6_rateAs_109 : decode cX6_rateAs 109 = .ok (.isub, 1) := by decide +kernel
theorem dX6_rateAs_110 : decode cX6_rateAs 110 = .ok (.ireturn, 1) := by decide +kernel
theorem dX6_rateAs_111 : decode cX6_rateAs 111 = .ok (.aload_n 0, 1) := by decide +kernel
theorem dX6_rateAs_112 : decode cX6_rateAs 112 = .ok (.iconst 1, 1) := by decide +kernel
theorem dX6_rateAs_113 : decode cX6_rateAs 113 = .ok (.iload_n 2, 1) := by decide +kernel
theorem dX6_rateAs_114 : decode cX6_rateAs 114 = .ok (.iload_n 3, 1) := by decide +kernel
theorem dX6_rateAs_115 : decode cX6_rateAs 115 = .ok (.iconst 1, 1) := by decide +kernel
theorem dX6_rateAs_116 : decode cX6_rateAs 116 = .ok (.iadd, 1) := by decide +kernel
theorem dX6_rateAs_117 : decode cX6_rateAs 117 = .ok (.invokevirtual 277, 3) := by decide +kernel
theorem dX6_rateAs_120 : decode cX6_rateAs 120 = .ok (.iconst 2, 1) := by decide +kernel
theorem dX6_rateAs_121 : decode cX6_rateAs 121 = .ok (.imul, 1) := by decide +kernel
theorem dX6_rateAs_122 : decode cX6_rateAs 122 = .ok (.ireturn, 1) := by decide +kernel
theorem dX6_rateAs_123 : decode cX6_rateAs 123 = .ok (.aload_n 0, 1) := by decide +kernel
theorem dX6_rateAs_124 : decode cX6_rateAs 124 = .ok (.iconst 2, 1) := by decide +kernel
theorem dX6_rateAs_125 : decode cX6_rateAs 125 = .ok (.iload_n 2, 1) := by decide +kernel
theorem dX6_rateAs_126 : decode cX6_rateAs 126 = .ok (.iload_n 3, 1) := by decide +kernel
theorem dX6_rateAs_127 : decode cX6_rateAs 127 = .ok (.iconst 1, 1) := by decide +kernel
theorem dX6_rateAs_128 : decode cX6_rateAs 128 = .ok (.iadd, 1) := by decide +kernel
theorem dX6_rateAs_129 : decode cX6_rateAs 129 = .ok (.invokevirtual 277, 3) := by decide +kernel
theorem dX6_rateAs_132 : decode cX6_rateAs 132 = .ok (.aload_n 0, 1) := by decide +kernel
theorem dX6_rateAs_133 : decode cX6_rateAs 133 = .ok (.getfield 19, 3) := by decide +kernel
theorem dX6_rateAs_136 : decode cX6_rateAs 136 = .ok (.getfield 118, 3) := by decide +kernel
theorem dX6_rateAs_139 : decode cX6_rateAs 139 = .ok (.iload_n 2, 1) := by decide +kernel
theorem dX6_rateAs_140 : decode cX6_rateAs 140 = .ok (.iaload, 1) := by decide +kernel
theorem dX6_rateAs_141 : decode cX6_rateAs 141 = .ok (.invokestatic 223, 3) := by decide +kernel
theorem dX6_rateAs_144 : decode cX6_rateAs 144 = .ok (.iadd, 1) := by decide +kernel
theorem dX6_rateAs_145 : decode cX6_rateAs 145 = .ok (.ireturn, 1) := by decide +kernel
theorem dX6_rateAs_146 : decode cX6_rateAs 146 = .ok (.aload_n 0, 1) := by decide +kernel
theorem dX6_rateAs_147 : decode cX6_rateAs 147 = .ok (.iconst 0, 1) := by decide +kernel
theorem dX6_rateAs_148 : decode cX6_rateAs 148 = .ok (.iload_n 2, 1) := by decide +kernel
theorem dX6_rateAs_149 : decode cX6_rateAs 149 = .ok (.iload_n 3, 1) := by decide +kernel
theorem dX6_rateAs_150 : decode cX6_rateAs 150 = .ok (.iconst 1, 1) := by decide +kernel
theorem dX6_rateAs_151 : decode cX6_rateAs 151 = .ok (.iadd, 1) := by decide +kernel
theorem dX6_rateAs_152 : decode cX6_rateAs 152 = .ok (.invokevirtual 277, 3) := by decide +kernel
theorem dX6_rateAs_155 : decode cX6_rateAs 155 = .ok (.aload_n 0, 1) := by decide +kernel
theorem dX6_rateAs_156 : decode cX6_rateAs 156 = .ok (.getfield 29, 3) := by decide +kernel
theorem dX6_rateAs_159 : decode cX6_rateAs 159 = .ok (.getfield 140, 3) := by decide +kernel
theorem dX6_rateAs_162 : decode cX6_rateAs 162 = .ok (.iadd, 1) := by decide +kernel
theorem dX6_rateAs_163 : decode cX6_rateAs 163 = .ok (.ireturn, 1) := by decide +kernel
theorem dX6_rateAs_164 : decode cX6_rateAs 164 = .ok (.aload_n 0, 1) := by decide +kernel
theorem dX6_rateAs_165 : decode cX6_rateAs 165 = .ok (.getfield 19, 3) := by decide +kernel
theorem dX6_rateAs_168 : decode cX6_rateAs 168 = .ok (.getfield 112, 3) := by decide +kernel
theorem dX6_rateAs_171 : decode cX6_rateAs 171 = .ok (.iload_n 2, 1) := by decide +kernel
theorem dX6_rateAs_172 : decode cX6_rateAs 172 = .ok (.iaload, 1) := by decide +kernel
theorem dX6_rateAs_173 : decode cX6_rateAs 173 = .ok (.ireturn, 1) := by decide +kernel
set_option maxRecDepth 20000 in
theorem ggX6_keep_X1_become : GoodIn wsX6_keep wsX1_become := goodIn_r _ [9, 10, 11, 12, 13, 14, 15, 16, 17, 18, 19, 20, 21, 22, 33, 34, 35, 36, 37, 38, 39, 40, 41] (by decide +kernel) (by decide +kernel)
set_option maxRecDepth 20000 in
theorem gX6_keep_X1_become : GoodIn wsX6_keep (wsV RX6 284 RX1 yX1_become wsX1_become) := goodIn_app (goodIn_of _ (by decide +kernel)) ggX6_keep_X1_become
theorem dX6_keep_0 : decode cX6_keep 0 = .ok (.iload_n 1, 1) := by decide +kernel
theorem dX6_keep_1 : decode cX6_keep 1 = .ok (.ifCond .lt 8, 3) := by decide +kernel
theorem dX6_keep_4 : decode cX6_keep 4 = .ok (.iload_n 1, 1) := by decide +kernel
theorem dX6_keep_5 : decode cX6_keep 5 = .ok (.iconst 2, 1) := by decide +kernel
theorem dX6_keep_6 : decode cX6_keep 6 = .ok (.if_icmp .lt 5, 3) := by decide +kernel
theorem dX6_keep_9 : decode cX6_keep 9 = .ok (.iconst (-1), 1) := by decide +kernel
theorem dX6_keep_10 : decode cX6_keep 10 = .ok (.ireturn, 1) := by decide +kernel
theorem dX6_keep_11 : decode cX6_keep 11 = .ok (.aload_n 0, 1) := by decide +kernel
theorem dX6_keep_12 : decode cX6_keep 12 = .ok (.getfield 33, 3) := by decide +kernel
theorem dX6_keep_15 : decode cX6_keep 15 = .ok (.iload_n 1, 1) := by decide +kernel
theorem dX6_keep_16 : decode cX6_keep 16 = .ok (.aaload, 1) := by decide +kernel
theorem dX6_keep_17 : decode cX6_keep 17 = .ok (.aload_n 0, 1) := by decide +kernel
theorem dX6_keep_18 : decode cX6_keep 18 = .ok (.getfield 29, 3) := by decide +kernel
theorem dX6_keep_21 : decode cX6_keep 21 = .ok (.invokevirtual 284, 3) := by decide +kernel
theorem dX6_keep_24 : decode cX6_keep 24 = .ok (.aload_n 0, 1) := by decide +kernel
theorem dX6_keep_25 : decode cX6_keep 25 = .ok (.getfield 37, 3) := by decide +kernel
theorem dX6_keep_28 : decode cX6_keep 28 = .ok (.iload_n 1, 1) := by decide +kernel
theorem dX6_keep_29 : decode cX6_keep 29 = .ok (.iconst 1, 1) := by decide +kernel
theorem dX6_keep_30 : decode cX6_keep 30 = .ok (.bastore, 1) := by decide +kernel
theorem dX6_keep_31 : decode cX6_keep 31 = .ok (.aload_n 0, 1) := by decide +kernel
theorem dX6_keep_32 : decode cX6_keep 32 = .ok (.getfield 29, 3) := by decide +kernel
theorem dX6_keep_35 : decode cX6_keep 35 = .ok (.getfield 140, 3) := by decide +kernel
theorem dX6_keep_38 : decode cX6_keep 38 = .ok (.ireturn, 1) := by decide +kernel
set_option maxRecDepth 20000 in
theorem ggX6_back_X1_become : GoodIn wsX6_back wsX1_become := goodIn_r _ [9, 10, 11, 12, 13, 14, 15, 16, 17, 18, 19, 20, 21, 22, 33, 34, 35, 36, 37, 38, 39, 40, 41] (by decide +kernel) (by decide +kernel)
set_option maxRecDepth 20000 in
theorem gX6_back_X1_become : GoodIn wsX6_back (wsV RX6 284 RX1 yX1_become wsX1_become) := goodIn_app (goodIn_of _ (by decide +kernel)) ggX6_back_X1_become
theorem dX6_back_0 : decode cX6_back 0 = .ok (.iload_n 1, 1) := by decide +kernel
theorem dX6_back_1 : decode cX6_back 1 = .ok (.ifCond .lt 8, 3) := by decide +kernel
theorem dX6_back_4 : decode cX6_back 4 = .ok (.iload_n 1, 1) := by decide +kernel
theorem dX6_back_5 : decode cX6_back 5 = .ok (.iconst 2, 1) := by decide +kernel
theorem dX6_back_6 : decode cX6_back 6 = .ok (.if_icmp .lt 5, 3) := by decide +kernel
theorem dX6_back_9 : decode cX6_back 9 = .ok (.iconst (-1), 1) := by decide +kernel
theorem dX6_back_10 : decode cX6_back 10 = .ok (.ireturn, 1) := by decide +kernel
theorem dX6_back_11 : decode cX6_back 11 = .ok (.aload_n 0, 1) := by decide +kernel
theorem dX6_back_12 : decode cX6_back 12 = .ok (.getfield 37, 3) := by decide +kernel
theorem dX6_back_15 : decode cX6_back 15 = .ok (.iload_n 1, 1) := by decide +kernel
theorem dX6_back_16 : decode cX6_back 16 = .ok (.baload, 1) := by decide +kernel
theorem dX6_back_17 : decode cX6_back 17 = .ok (.ifCond .ne 6, 3) := by decide +kernel
theorem dX6_back_20 : decode cX6_back 20 = .ok (.bipush (-2), 2) := by decide +kernel
theorem dX6_back_22 : decode cX6_back 22 = .ok (.ireturn, 1) := by decide +kernel
theorem dX6_back_23 : decode cX6_back 23 = .ok (.aload_n 0, 1) := by decide +kernel
theorem dX6_back_24 : decode cX6_back 24 = .ok (.getfield 29, 3) := by decide +kernel
theorem dX6_back_27 : decode cX6_back 27 = .ok (.aload_n 0, 1) := by decide +kernel
theorem dX6_back_28 : decode cX6_back 28 = .ok (.getfield 33, 3) := by decide +kernel
theorem dX6_back_31 : decode cX6_back 31 = .ok (.iload_n 1, 1) := by decide +kernel
theorem dX6_back_32 : decode cX6_back 32 = .ok (.aaload, 1) := by decide +kernel
theorem dX6_back_33 : decode cX6_back 33 = .ok (.invokevirtual 284, 3) := by decide +kernel
theorem dX6_back_36 : decode cX6_back 36 = .ok (.aload_n 0, 1) := by decide +kernel
theorem dX6_back_37 : decode cX6_back 37 = .ok (.getfield 29, 3) := by decide +kernel
theorem dX6_back_40 : decode cX6_back 40 = .ok (.getfield 140, 3) := by decide +kernel
theorem dX6_back_43 : decode cX6_back 43 = .ok (.ireturn, 1) := by decide +kernel
theorem dX6_count_0 : decode cX6_count 0 = .ok (.iload_n 1, 1) := by decide +kernel
theorem dX6_count_1 : decode cX6_count 1 = .ok (.tableswitch 135 0 9 #[55, 63, 71, 79, 87, 95, 103, 111, 119, 127], 55) := by decide +kernel
theorem dX6_count_56 : decode cX6_count 56 = .ok (.aload_n 0, 1) := by decide +kernel
theorem dX6_count_57 : decode cX6_count 57 = .ok (.getfield 19, 3) := by decide +kernel
theorem dX6_count_60 : decode cX6_count 60 = .ok (.getfield 163, 3) := by decide +kernel
theorem dX6_count_63 : decode cX6_count 63 = .ok (.ireturn, 1) := by decide +kernel
theorem dX6_count_64 : decode cX6_count 64 = .ok (.aload_n 0, 1) := by decide +kernel
theorem dX6_count_65 : decode cX6_count 65 = .ok (.getfield 19, 3) := by decide +kernel
theorem dX6_count_68 : decode cX6_count 68 = .ok (.getfield 191, 3) := by decide +kernel
theorem dX6_count_71 : decode cX6_count 71 = .ok (.ireturn, 1) := by decide +kernel
theorem dX6_count_72 : decode cX6_count 72 = .ok (.aload_n 0, 1) := by decide +kernel
theorem dX6_count_73 : decode cX6_count 73 = .ok (.getfield 19, 3) := by decide +kernel
theorem dX6_count_76 : decode cX6_count 76 = .ok (.getfield 194, 3) := by decide +kernel
theorem dX6_count_79 : decode cX6_count 79 = .ok (.ireturn, 1) := by decide +kernel
theorem dX6_count_80 : decode cX6_count 80 = .ok (.aload_n 0, 1) := by decide +kernel
theorem dX6_count_81 : decode cX6_count 81 = .ok (.getfield 19, 3) := by decide +kernel
theorem dX6_count_84 : decode cX6_count 84 = .ok (.getfield 130, 3) := by decide +kernel
theorem dX6_count_87 : decode cX6_count 87 = .ok (.ireturn, 1) := by decide +kernel
theorem dX6_count_88 : decode cX6_count 88 = .ok (.aload_n 0, 1) := by decide +kernel
theorem dX6_count_89 : decode cX6_count 89 = .ok (.getfield 19, 3) := by decide +kernel
theorem dX6_count_92 : decode cX6_count 92 = .ok (.getfield 288, 3) := by decide +kernel
theorem dX6_count_95 : decode cX6_count 95 = .ok (.ireturn, 1) := by decide +kernel
theorem dX6_count_96 : decode cX6_count 96 = .ok (.aload_n 0, 1) := by decide +kernel
theorem dX6_count_97 : decode cX6_count 97 = .ok (.getfield 51, 3) := by decide +kernel
theorem dX6_count_100 : decode cX6_count 100 = .ok (.getfield 231, 3) := by decide +kernel
theorem dX6_count_103 : decode cX6_count 103 = .ok (.ireturn, 1) := by decide +kernel
theorem dX6_count_104 : decode cX6_count 104 = .ok (.aload_n 0, 1) := by decide +kernel
theorem dX6_count_105 : decode cX6_count 105 = .ok (.getfield 51, 3) := by decide +kernel
theorem dX6_count_108 : decode cX6_count 108 = .ok (.getfield 234, 3) := by decide +kernel
theorem dX6_count_111 : decode cX6_count 111 = .ok (.ireturn, 1) := by decide +kernel
theorem dX6_count_112 : decode cX6_count 112 = .ok (.aload_n 0, 1) := by decide +kernel
theorem dX6_count_113 : decode cX6_count 113 = .ok (.getfield 58, 3) := by decide +kernel
theorem dX6_count_116 : decode cX6_count 116 = .ok (.getfield 84, 3) := by decide +kernel
theorem dX6_count_119 : decode cX6_count 119 = .ok (.ireturn, 1) := by decide +kernel
theorem dX6_count_120 : decode cX6_count 120 = .ok (.aload_n 0, 1) := by decide +kernel
theorem dX6_count_121 : decode cX6_count 121 = .ok (.getfield 29, 3) := by decide +kernel
theorem dX6_count_124 : decode cX6_count 124 = .ok (.getfield 160, 3) := by decide +kernel
theorem dX6_count_127 : decode cX6_count 127 = .ok (.ireturn, 1) := by decide +kernel
theorem dX6_count_128 : decode cX6_count 128 = .ok (.aload_n 0, 1) := by decide +kernel
theorem dX6_count_129 : decode cX6_count 129 = .ok (.getfield 10, 3) := by decide +kernel
theorem dX6_count_132 : decode cX6_count 132 = .ok (.getfield 70, 3) := by decide +kernel
theorem dX6_count_135 : decode cX6_count 135 = .ok (.ireturn, 1) := by decide +kernel
theorem dX6_count_136 : decode cX6_count 136 = .ok (.iconst (-1), 1) := by decide +kernel
theorem dX6_count_137 : decode cX6_count 137 = .ok (.ireturn, 1) := by decide +kernel
theorem dX6_trace_0 : decode cX6_trace 0 = .ok (.aload_n 0, 1) := by decide +kernel
theorem dX6_trace_1 : decode cX6_trace 1 = .ok (.getfield 62, 3) := by decide +kernel
theorem dX6_trace_4 : decode cX6_trace 4 = .ok (.lreturn, 1) := by decide +kernel
theorem dX7_in_0 : decode cX7_in 0 = .ok (.lload_n 0, 1) := by decide +kernel
theorem dX7_in_1 : decode cX7_in 1 = .ok (.lload_n 2, 1) := by decide +kernel
theorem dX7_in_2 : decode cX7_in 2 = .ok (.lcmp, 1) := by decide +kernel
theorem dX7_in_3 : decode cX7_in 3 = .ok (.ifCond .lt 14, 3) := by decide +kernel
theorem dX7_in_6 : decode cX7_in 6 = .ok (.lload_n 0, 1) := by decide +kernel
theorem dX7_in_7 : decode cX7_in 7 = .ok (.lload 4, 2) := by decide +kernel
theorem dX7_in_9 : decode cX7_in 9 = .ok (.lcmp, 1) := by decide +kernel
theorem dX7_in_10 : decode cX7_in 10 = .ok (.ifCond .gt 7, 3) := by decide +kernel
theorem dX7_in_13 : decode cX7_in 13 = .ok (.iconst 1, 1) := by decide +kernel
theorem dX7_in_14 : decode cX7_in 14 = .ok (.goto 4, 3) := by decide +kernel
theorem dX7_in_17 : decode cX7_in 17 = .ok (.iconst 0, 1) := by decide +kernel
theorem dX7_in_18 : decode cX7_in 18 = .ok (.ireturn, 1) := by decide +kernel
set_option maxRecDepth 20000 in
theorem ggX7_init_X7_plain : GoodIn wsX7_init wsX7_plain := goodIn_r _ [32, 6, 41, 42, 43, 44, 45, 46, 47, 48, 49, 50, 51, 52, 53, 54, 55, 56, 57, 58, 59, 60, 61, 62, 63, 64, 65, 66, 67, 68, 69, 70, 71, 72, 73, 74] (by decide +kernel) (by decide +kernel)
set_option maxRecDepth 20000 in
theorem gX7_init_X7_plain : GoodIn wsX7_init (wsV RX7 79 RX7 yX7_plain wsX7_plain) := goodIn_app (goodIn_of _ (by decide +kernel)) ggX7_init_X7_plain
set_option maxRecDepth 20000 in
theorem ggX7_init_X7_takes : GoodIn wsX7_init wsX7_takes := goodIn_r _ [36, 7, 6, 8, 37, 38, 39, 40, 27, 41, 42, 43, 44, 45, 46, 47, 48, 49, 50, 51, 52, 53, 54, 55, 56, 57, 58, 59, 60, 61, 62, 63, 64, 65, 66, 67, 68, 69, 70, 71, 72, 73, 74] (by decide +kernel) (by decide +kernel)
set_option maxRecDepth 20000 in
theorem gX7_init_X7_takes : GoodIn wsX7_init (wsV RX7 82 RX7 yX7_takes wsX7_takes) := goodIn_app (goodIn_of _ (by decide +kernel)) ggX7_init_X7_takes
theorem dX7_init_0 : decode cX7_init 0 = .ok (.aload_n 0, 1) := by decide +kernel
theorem dX7_init_1 : decode cX7_init 1 = .ok (.invokespecial 1, 3) := by decide +kernel
theorem dX7_init_4 : decode cX7_init 4 = .ok (.aload_n 0, 1) := by decide +kernel
theorem dX7_init_5 : decode cX7_init 5 = .ok (.sipush 200, 3) := by decide +kernel
theorem dX7_init_8 : decode cX7_init 8 = .ok (.newarray .int, 2) := by decide +kernel
theorem dX7_init_10 : decode cX7_init 10 = .ok (.putfield 7, 3) := by decide +kernel
theorem dX7_init_13 : decode cX7_init 13 = .ok (.aload_n 0, 1) := by decide +kernel
theorem dX7_init_14 : decode cX7_init 14 = .ok (.bipush 64, 2) := by decide +kernel
theorem dX7_init_16 : decode cX7_init 16 = .ok (.newarray .int, 2) := by decide +kernel
theorem dX7_init_18 : decode cX7_init 18 = .ok (.putfield 13, 3) := by decide +kernel
theorem dX7_init_21 : decode cX7_init 21 = .ok (.aload_n 0, 1) := by decide +kernel
theorem dX7_init_22 : decode cX7_init 22 = .ok (.bipush 64, 2) := by decide +kernel
theorem dX7_init_24 : decode cX7_init 24 = .ok (.newarray .int, 2) := by decide +kernel
theorem dX7_init_26 : decode cX7_init 26 = .ok (.putfield 16, 3) := by decide +kernel
theorem dX7_init_29 : decode cX7_init 29 = .ok (.aload_n 0, 1) := by decide +kernel
theorem dX7_init_30 : decode cX7_init 30 = .ok (.iconst 4, 1) := by decide +kernel
theorem dX7_init_31 : decode cX7_init 31 = .ok (.newarray .int, 2) := by decide +kernel
theorem dX7_init_33 : decode cX7_init 33 = .ok (.putfield 19, 3) := by decide +kernel
theorem dX7_init_36 : decode cX7_init 36 = .ok (.aload_n 0, 1) := by decide +kernel
theorem dX7_init_37 : decode cX7_init 37 = .ok (.bipush 40, 2) := by decide +kernel
theorem dX7_init_39 : decode cX7_init 39 = .ok (.newarray .int, 2) := by decide +kernel
theorem dX7_init_41 : decode cX7_init 41 = .ok (.putfield 22, 3) := by decide +kernel
theorem dX7_init_44 : decode cX7_init 44 = .ok (.aload_n 0, 1) := by decide +kernel
theorem dX7_init_45 : decode cX7_init 45 = .ok (.bipush 28, 2) := by decide +kernel
theorem dX7_init_47 : decode cX7_init 47 = .ok (.newarray .int, 2) := by decide +kernel
theorem dX7_init_49 : decode cX7_init 49 = .ok (.putfield 25, 3) := by decide +kernel
theorem dX7_init_52 : decode cX7_init 52 = .ok (.aload_n 0, 1) := by decide +kernel
theorem dX7_init_53 : decode cX7_init 53 = .ok (.bipush 28, 2) := by decide +kernel
theorem dX7_init_55 : decode cX7_init 55 = .ok (.newarray .int, 2) := by decide +kernel
theorem dX7_init_57 : decode cX7_init 57 = .ok (.putfield 28, 3) := by decide +kernel
theorem dX7_init_60 : decode cX7_init 60 = .ok (.aload_n 0, 1) := by decide +kernel
theorem dX7_init_61 : decode cX7_init 61 = .ok (.bipush 28, 2) := by decide +kernel
theorem dX7_init_63 : decode cX7_init 63 = .ok (.newarray .int, 2) := by decide +kernel
theorem dX7_init_65 : decode cX7_init 65 = .ok (.putfield 31, 3) := by decide +kernel
theorem dX7_init_68 : decode cX7_init 68 = .ok (.aload_n 0, 1) := by decide +kernel
theorem dX7_init_69 : decode cX7_init 69 = .ok (.bipush 8, 2) := by decide +kernel
theorem dX7_init_71 : decode cX7_init 71 = .ok (.newarray .int, 2) := by decide +kernel
theorem dX7_init_73 : decode cX7_init 73 = .ok (.putfield 34, 3) := by decide +kernel
theorem dX7_init_76 : decode cX7_init 76 = .ok (.aload_n 0, 1) := by decide +kernel
theorem dX7_init_77 : decode cX7_init 77 = .ok (.bipush 8, 2) := by decide +kernel
theorem dX7_init_79 : decode cX7_init 79 = .ok (.newarray .int, 2) := by decide +kernel
theorem dX7_init_81 : decode cX7_init 81 = .ok (.putfield 37, 3) := by decide +kernel
theorem dX7_init_84 : decode cX7_init 84 = .ok (.aload_n 0, 1) := by decide +kernel
theorem dX7_init_85 : decode cX7_init 85 = .ok (.bipush 8, 2) := by decide +kernel
theorem dX7_init_87 : decode cX7_init 87 = .ok (.newarray .int, 2) := by decide +kernel
theorem dX7_init_89 : decode cX7_init 89 = .ok (.putfield 40, 3) := by decide +kernel
theorem dX7_init_92 : decode cX7_init 92 = .ok (.aload_n 0, 1) := by decide +kernel
theorem dX7_init_93 : decode cX7_init 93 = .ok (.sipush 512, 3) := by decide +kernel
theorem dX7_init_96 : decode cX7_init 96 = .ok (.newarray .int, 2) := by decide +kernel
theorem dX7_init_98 : decode cX7_init 98 = .ok (.putfield 43, 3) := by decide +kernel
theorem dX7_init_101 : decode cX7_init 101 = .ok (.aload_n 0, 1) := by decide +kernel
theorem dX7_init_102 : decode cX7_init 102 = .ok (.bipush 6, 2) := by decide +kernel
theorem dX7_init_104 : decode cX7_init 104 = .ok (.newarray .int, 2) := by decide +kernel
theorem dX7_init_106 : decode cX7_init 106 = .ok (.putfield 46, 3) := by decide +kernel
theorem dX7_init_109 : decode cX7_init 109 = .ok (.aload_n 0, 1) := by decide +kernel
theorem dX7_init_110 : decode cX7_init 110 = .ok (.bipush 6, 2) := by decide +kernel
theorem dX7_init_112 : decode cX7_init 112 = .ok (.newarray .int, 2) := by decide +kernel
theorem dX7_init_114 : decode cX7_init 114 = .ok (.putfield 49, 3) := by decide +kernel
theorem dX7_init_117 : decode cX7_init 117 = .ok (.aload_n 0, 1) := by decide +kernel
theorem dX7_init_118 : decode cX7_init 118 = .ok (.bipush 7, 2) := by decide +kernel
theorem dX7_init_120 : decode cX7_init 120 = .ok (.newarray .int, 2) := by decide +kernel
theorem dX7_init_122 : decode cX7_init 122 = .ok (.putfield 52, 3) := by decide +kernel
theorem dX7_init_125 : decode cX7_init 125 = .ok (.aload_n 0, 1) := by decide +kernel
theorem dX7_init_126 : decode cX7_init 126 = .ok (.bipush 7, 2) := by decide +kernel
theorem dX7_init_128 : decode cX7_init 128 = .ok (.newarray .int, 2) := by decide +kernel
theorem dX7_init_130 : decode cX7_init 130 = .ok (.putfield 55, 3) := by decide +kernel
theorem dX7_init_133 : decode cX7_init 133 = .ok (.aload_n 0, 1) := by decide +kernel
theorem dX7_init_134 : decode cX7_init 134 = .ok (.bipush 7, 2) := by decide +kernel
theorem dX7_init_136 : decode cX7_init 136 = .ok (.newarray .int, 2) := by decide +kernel
theorem dX7_init_138 : decode cX7_init 138 = .ok (.putfield 58, 3) := by decide +kernel
theorem dX7_init_141 : decode cX7_init 141 = .ok (.aload_n 0, 1) := by decide +kernel
theorem dX7_init_142 : decode cX7_init 142 = .ok (.bipush 7, 2) := by decide +kernel
theorem dX7_init_144 : decode cX7_init 144 = .ok (.newarray .int, 2) := by decide +kernel
theorem dX7_init_146 : decode cX7_init 146 = .ok (.putfield 61, 3) := by decide +kernel
theorem dX7_init_149 : decode cX7_init 149 = .ok (.aload_n 0, 1) := by decide +kernel
theorem dX7_init_150 : decode cX7_init 150 = .ok (.iconst 4, 1) := by decide +kernel
theorem dX7_init_151 : decode cX7_init 151 = .ok (.newarray .int, 2) := by decide +kernel
theorem dX7_init_153 : decode cX7_init 153 = .ok (.putfield 64, 3) := by decide +kernel
theorem dX7_init_156 : decode cX7_init 156 = .ok (.aload_n 0, 1) := by decide +kernel
theorem dX7_init_157 : decode cX7_init 157 = .ok (.iconst 4, 1) := by decide +kernel
theorem dX7_init_158 : decode cX7_init 158 = .ok (.newarray .int, 2) := by decide +kernel
theorem dX7_init_160 : decode cX7_init 160 = .ok (.putfield 67, 3) := by decide +kernel
theorem dX7_init_163 : decode cX7_init 163 = .ok (.aload_n 0, 1) := by decide +kernel
theorem dX7_init_164 : decode cX7_init 164 = .ok (.iconst 4, 1) := by decide +kernel
theorem dX7_init_165 : decode cX7_init 165 = .ok (.newarray .int, 2) := by decide +kernel
theorem dX7_init_167 : decode cX7_init 167 = .ok (.putfield 70, 3) := by decide +kernel
theorem dX7_init_170 : decode cX7_init 170 = .ok (.aload_n 0, 1) := by decide +kernel
theorem dX7_init_171 : decode cX7_init 171 = .ok (.bipush 49, 2) := by decide +kernel
theorem dX7_init_173 : decode cX7_init 173 = .ok (.newarray .int, 2) := by decide +kernel
theorem dX7_init_175 : decode cX7_init 175 = .ok (.putfield 73, 3) := by decide +kernel
theorem dX7_init_178 : decode cX7_init 178 = .ok (.aload_n 0, 1) := by decide +kernel
theorem dX7_init_179 : decode cX7_init 179 = .ok (.bipush 92, 2) := by decide +kernel
theorem dX7_init_181 : decode cX7_init 181 = .ok (.newarray .int, 2) := by decide +kernel
theorem dX7_init_183 : decode cX7_init 183 = .ok (.putfield 76, 3) := by decide +kernel
theorem dX7_init_186 : decode cX7_init 186 = .ok (.aload_n 0, 1) := by decide +kernel
theorem dX7_init_187 : decode cX7_init 187 = .ok (.invokevirtual 79, 3) := by decide +kernel
theorem dX7_init_190 : decode cX7_init 190 = .ok (.aload_n 0, 1) := by decide +kernel
theorem dX7_init_191 : decode cX7_init 191 = .ok (.invokevirtual 82, 3) := by decide +kernel
theorem dX7_init_194 : decode cX7_init 194 = .ok (.return_, 1) := by decide +kernel
set_option maxRecDepth 20000 in
theorem ggX7_type_X7_in : GoodIn wsX7_type wsX7_in := goodIn_r _ [7] (by decide +kernel) (by decide +kernel)
set_option maxRecDepth 20000 in
theorem gX7_type_X7_in : GoodIn wsX7_type (va_wsS RX7 87 yX7_in wsX7_in) := goodIn_app (goodIn_of _ (by decide +kernel)) ggX7_type_X7_in
theorem dX7_type_0 : decode cX7_type 0 = .ok (.iload_n 1, 1) := by decide +kernel
theorem dX7_type_1 : decode cX7_type 1 = .ok (.i2l, 1) := by decide +kernel
theorem dX7_type_2 : decode cX7_type 2 = .ok (.lconst 0, 1) := by decide +kernel
theorem dX7_type_3 : decode cX7_type 3 = .ok (.ldc2_w 85, 3) := by decide +kernel
theorem dX7_type_6 : decode cX7_type 6 = .ok (.invokestatic 87, 3) := by decide +kernel
theorem dX7_type_9 : decode cX7_type 9 = .ok (.ifCond .ne 5, 3) := by decide +kernel
theorem dX7_type_12 : decode cX7_type 12 = .ok (.iconst (-1), 1) := by decide +kernel
theorem dX7_type_13 : decode cX7_type 13 = .ok (.ireturn, 1) := by decide +kernel
theorem dX7_type_14 : decode cX7_type 14 = .ok (.aload_n 0, 1) := by decide +kernel
theorem dX7_type_15 : decode cX7_type 15 = .ok (.getfield 91, 3) := by decide +kernel
theorem dX7_type_18 : decode cX7_type 18 = .ok (.sipush 200, 3) := by decide +kernel
theorem dX7_type_21 : decode cX7_type 21 = .ok (.if_icmp .ne 6, 3) := by decide +kernel
theorem dX7_type_24 : decode cX7_type 24 = .ok (.bipush (-3), 2) := by decide +kernel
theorem dX7_type_26 : decode cX7_type 26 = .ok (.ireturn, 1) := by decide +kernel
theorem dX7_type_27 : decode cX7_type 27 = .ok (.aload_n 0, 1) := by decide +kernel
theorem dX7_type_28 : decode cX7_type 28 = .ok (.getfield 7, 3) := by decide +kernel
theorem dX7_type_31 : decode cX7_type 31 = .ok (.aload_n 0, 1) := by decide +kernel
theorem dX7_type_32 : decode cX7_type 32 = .ok (.getfield 91, 3) := by decide +kernel
theorem dX7_type_35 : decode cX7_type 35 = .ok (.iload_n 1, 1) := by decide +kernel
theorem dX7_type_36 : decode cX7_type 36 = .ok (.iastore, 1) := by decide +kernel
theorem dX7_type_37 : decode cX7_type 37 = .ok (.aload_n 0, 1) := by decide +kernel
theorem dX7_type_38 : decode cX7_type 38 = .ok (.dup, 1) := by decide +kernel
theorem dX7_type_39 : decode cX7_type 39 = .ok (.getfield 91, 3) := by decide +kernel
theorem dX7_type_42 : decode cX7_type 42 = .ok (.iconst 1, 1) := by decide +kernel
theorem dX7_type_43 : decode cX7_type 43 = .ok (.iadd, 1) := by decide +kernel
theorem dX7_type_44 : decode cX7_type 44 = .ok (.putfield 91, 3) := by decide +kernel
theorem dX7_type_47 : decode cX7_type 47 = .ok (.aload_n 0, 1) := by decide +kernel
theorem dX7_type_48 : decode cX7_type 48 = .ok (.getfield 91, 3) := by decide +kernel
theorem dX7_type_51 : decode cX7_type 51 = .ok (.ireturn, 1) := by decide +kernel
theorem dX7_clear_0 : decode cX7_clear 0 = .ok (.aload_n 0, 1) := by decide +kernel
theorem dX7_clear_1 : decode cX7_clear 1 = .ok (.getfield 91, 3) := by decide +kernel
theorem dX7_clear_4 : decode cX7_clear 4 = .ok (.istore_n 1, 1) := by decide +kernel
theorem dX7_clear_5 : decode cX7_clear 5 = .ok (.aload_n 0, 1) := by decide +kernel
theorem dX7_clear_6 : decode cX7_clear 6 = .ok (.iconst 0, 1) := by decide +kernel
theorem dX7_clear_7 : decode cX7_clear 7 = .ok (.putfield 91, 3) := by decide +kernel
theorem dX7_clear_10 : decode cX7_clear 10 = .ok (.iload_n 1, 1) := by decide +kernel
theorem dX7_clear_11 : decode cX7_clear 11 = .ok (.ireturn, 1) := by decide +kernel
set_option maxRecDepth 20000 in
theorem ggX7_isLetter_X7_in : GoodIn wsX7_isLetter wsX7_in := goodIn_r _ [6] (by decide +kernel) (by decide +kernel)
set_option maxRecDepth 20000 in
theorem gX7_isLetter_X7_in : GoodIn wsX7_isLetter (va_wsS RX7 87 yX7_in wsX7_in) := goodIn_app (goodIn_of _ (by decide +kernel)) ggX7_isLetter_X7_in
theorem dX7_isLetter_0 : decode cX7_isLetter 0 = .ok (.iload_n 0, 1) := by decide +kernel
theorem dX7_isLetter_1 : decode cX7_isLetter 1 = .ok (.i2l, 1) := by decide +kernel
theorem dX7_isLetter_2 : decode cX7_isLetter 2 = .ok (.ldc2_w 95, 3) := by decide +kernel
theorem dX7_isLetter_5 : decode cX7_isLetter 5 = .ok (.ldc2_w 97, 3) := by decide +kernel
theorem dX7_isLetter_8 : decode cX7_isLetter 8 = .ok (.invokestatic 87, 3) := by decide +kernel
theorem dX7_isLetter_11 : decode cX7_isLetter 11 = .ok (.ireturn, 1) := by decide +kernel
set_option maxRecDepth 20000 in
theorem ggX7_isFigure_X7_in : GoodIn wsX7_isFigure wsX7_in := goodIn_r _ [6] (by decide +kernel) (by decide +kernel)
set_option maxRecDepth 20000 in
theorem gX7_isFigure_X7_in : GoodIn wsX7_isFigure (va_wsS RX7 87 yX7_in wsX7_in) := goodIn_app (goodIn_of _ (by decide +kernel)) ggX7_isFigure_X7_in
theorem dX7_isFigure_0 : decode cX7_isFigure 0 = .ok (.iload_n 0, 1) := by decide +kernel
theorem dX7_isFigure_1 : decode cX7_isFigure 1 = .ok (.i2l, 1) := by decide +kernel
theorem dX7_isFigure_2 : decode cX7_isFigure 2 = .ok (.ldc2_w 99, 3) := by decide +kernel
theorem dX7_isFigure_5 : decode cX7_isFigure 5 = .ok (.ldc2_w 101, 3) := by decide +kernel
theorem dX7_isFigure_8 : decode cX7_isFigure 8 = .ok (.invokestatic 87, 3) := by decide +kernel
theorem dX7_isFigure_11 : decode cX7_isFigure 11 = .ok (.ireturn, 1) := by decide +kernel
set_option maxRecDepth 20000 in
theorem ggX7_readLetters_X7_isLetter : GoodIn wsX7_readLetters wsX7_isLetter := goodIn_r _ [10, 11, 12, 13, 14, 9, 15] (by decide +kernel) (by decide +kernel)
set_option maxRecDepth 20000 in
theorem gX7_readLetters_X7_isLetter : GoodIn wsX7_readLetters (va_wsS RX7 109 yX7_isLetter wsX7_isLetter) := goodIn_app (goodIn_of _ (by decide +kernel)) ggX7_readLetters_X7_isLetter
theorem dX7_readLetters_0 : decode cX7_readLetters 0 = .ok (.aload_n 0, 1) := by decide +kernel
theorem dX7_readLetters_1 : decode cX7_readLetters 1 = .ok (.aload_n 0, 1) := by decide +kernel
theorem dX7_readLetters_2 : decode cX7_readLetters 2 = .ok (.getfield 7, 3) := by decide +kernel
theorem dX7_readLetters_5 : decode cX7_readLetters 5 = .ok (.aload_n 0, 1) := by decide +kernel
theorem dX7_readLetters_6 : decode cX7_readLetters 6 = .ok (.getfield 103, 3) := by decide +kernel
theorem dX7_readLetters_9 : decode cX7_readLetters 9 = .ok (.iaload, 1) := by decide +kernel
theorem dX7_readLetters_10 : decode cX7_readLetters 10 = .ok (.putfield 106, 3) := by decide +kernel
theorem dX7_readLetters_13 : decode cX7_readLetters 13 = .ok (.aload_n 0, 1) := by decide +kernel
theorem dX7_readLetters_14 : decode cX7_readLetters 14 = .ok (.getfield 103, 3) := by decide +kernel
theorem dX7_readLetters_17 : decode cX7_readLetters 17 = .ok (.aload_n 0, 1) := by decide +kernel
theorem dX7_readLetters_18 : decode cX7_readLetters 18 = .ok (.getfield 91, 3) := by decide +kernel
theorem dX7_readLetters_21 : decode cX7_readLetters 21 = .ok (.if_icmp .ge 31, 3) := by decide +kernel
theorem dX7_readLetters_24 : decode cX7_readLetters 24 = .ok (.aload_n 0, 1) := by decide +kernel
theorem dX7_readLetters_25 : decode cX7_readLetters 25 = .ok (.getfield 7, 3) := by decide +kernel
theorem dX7_readLetters_28 : decode cX7_readLetters 28 = .ok (.aload_n 0, 1) := by decide +kernel
theorem dX7_readLetters_29 : decode cX7_readLetters 29 = .ok (.getfield 103, 3) := by decide +kernel
theorem dX7_readLetters_32 : decode cX7_readLetters 32 = .ok (.iaload, 1) := by decide +kernel
theorem dX7_readLetters_33 : decode cX7_readLetters 33 = .ok (.invokestatic 109, 3) := by decide +kernel
theorem dX7_readLetters_36 : decode cX7_readLetters 36 = .ok (.ifCond .eq 16, 3) := by decide +kernel
theorem dX7_readLetters_39 : decode cX7_readLetters 39 = .ok (.aload_n 0, 1) := by decide +kernel
theorem dX7_readLetters_40 : decode cX7_readLetters 40 = .ok (.dup, 1) := by decide +kernel
theorem dX7_readLetters_41 : decode cX7_readLetters 41 = .ok (.getfield 103, 3) := by decide +kernel
theorem dX7_readLetters_44 : decode cX7_readLetters 44 = .ok (.iconst 1, 1) := by decide +kernel
theorem dX7_readLetters_45 : decode cX7_readLetters 45 = .ok (.iadd, 1) := by decide +kernel
theorem dX7_readLetters_46 : decode cX7_readLetters 46 = .ok (.putfield 103, 3) := by decide +kernel
theorem dX7_readLetters_49 : decode cX7_readLetters 49 = .ok (.goto (-36), 3) := by decide +kernel
theorem dX7_readLetters_52 : decode cX7_readLetters 52 = .ok (.aload_n 0, 1) := by decide +kernel
theorem dX7_readLetters_53 : decode cX7_readLetters 53 = .ok (.getfield 106, 3) := by decide +kernel
theorem dX7_readLetters_56 : decode cX7_readLetters 56 = .ok (.bipush 99, 2) := by decide +kernel
theorem dX7_readLetters_58 : decode cX7_readLetters 58 = .ok (.if_icmp .eq 39, 3) := by decide +kernel
theorem dX7_readLetters_61 : decode cX7_readLetters 61 = .ok (.aload_n 0, 1) := by decide +kernel
theorem dX7_readLetters_62 : decode cX7_readLetters 62 = .ok (.getfield 106, 3) := by decide +kernel
theorem dX7_readLetters_65 : decode cX7_readLetters 65 = .ok (.bipush 115, 2) := by decide +kernel
theorem dX7_readLetters_67 : decode cX7_readLetters 67 = .ok (.if_icmp .eq 30, 3) := by decide +kernel
theorem dX7_readLetters_70 : decode cX7_readLetters 70 = .ok (.aload_n 0, 1) := by decide +kernel
theorem dX7_readLetters_71 : decode cX7_readLetters 71 = .ok (.getfield 106, 3) := by decide +kernel
theorem dX7_readLetters_74 : decode cX7_readLetters 74 = .ok (.bipush 103, 2) := by decide +kernel
theorem dX7_readLetters_76 : decode cX7_readLetters 76 = .ok (.if_icmp .eq 21, 3) := by decide +kernel
theorem dX7_readLetters_79 : decode cX7_readLetters 79 = .ok (.aload_n 0, 1) := by decide +kernel
theorem dX7_readLetters_80 : decode cX7_readLetters 80 = .ok (.getfield 106, 3) := by decide +kernel
theorem dX7_readLetters_83 : decode cX7_readLetters 83 = .ok (.bipush 102, 2) := by decide +kernel
theorem dX7_readLetters_85 : decode cX7_readLetters 85 = .ok (.if_icmp .eq 12, 3) := by decide +kernel
theorem dX7_readLetters_88 : decode cX7_readLetters 88 = .ok (.aload_n 0, 1) := by decide +kernel
theorem dX7_readLetters_89 : decode cX7_readLetters 89 = .ok (.getfield 106, 3) := by decide +kernel
theorem dX7_readLetters_92 : decode cX7_readLetters 92 = .ok (.bipush 104, 2) := by decide +kernel
theorem dX7_readLetters_94 : decode cX7_readLetters 94 = .ok (.if_icmp .ne 7, 3) := by decide +kernel
theorem dX7_readLetters_97 : decode cX7_readLetters 97 = .ok (.iconst 1, 1) := by decide +kernel
theorem dX7_readLetters_98 : decode cX7_readLetters 98 = .ok (.goto 4, 3) := by decide +kernel
theorem dX7_readLetters_101 : decode cX7_readLetters 101 = .ok (.iconst 0, 1) := by decide +kernel
theorem dX7_readLetters_102 : decode cX7_readLetters 102 = .ok (.istore_n 1, 1) := by decide +kernel
theorem dX7_readLetters_103 : decode cX7_readLetters 103 = .ok (.aload_n 0, 1) := by decide +kernel
theorem dX7_readLetters_104 : decode cX7_readLetters 104 = .ok (.iload_n 1, 1) := by decide +kernel
theorem dX7_readLetters_105 : decode cX7_readLetters 105 = .ok (.ifCond .eq 20, 3) := by decide +kernel
theorem dX7_readLetters_108 : decode cX7_readLetters 108 = .ok (.aload_n 0, 1) := by decide +kernel
theorem dX7_readLetters_109 : decode cX7_readLetters 109 = .ok (.getfield 103, 3) := by decide +kernel
theorem dX7_readLetters_112 : decode cX7_readLetters 112 = .ok (.aload_n 0, 1) := by decide +kernel
theorem dX7_readLetters_113 : decode cX7_readLetters 113 = .ok (.getfield 113, 3) := by decide +kernel
theorem dX7_readLetters_116 : decode cX7_readLetters 116 = .ok (.isub, 1) := by decide +kernel
theorem dX7_readLetters_117 : decode cX7_readLetters 117 = .ok (.iconst 1, 1) := by decide +kernel
theorem dX7_readLetters_118 : decode cX7_readLetters 118 = .ok (.if_icmp .ne 7, 3) := by decide +kernel
theorem dX7_readLetters_121 : decode cX7_readLetters 121 = .ok (.iconst 1, 1) := by decide +kernel
theorem dX7_readLetters_122 : decode cX7_readLetters 122 = .ok (.goto 4, 3) := by decide +kernel
theorem dX7_readLetters_125 : decode cX7_readLetters 125 = .ok (.iconst 4, 1) := by decide +kernel
theorem dX7_readLetters_126 : decode cX7_readLetters 126 = .ok (.putfield 116, 3) := by decide +kernel
theorem dX7_readLetters_129 : decode cX7_readLetters 129 = .ok (.return_, 1) := by decide +kernel
set_option maxRecDepth 20000 in
theorem ggX7_readNumber_X7_isFigure : GoodIn wsX7_readNumber wsX7_isFigure := goodIn_r _ [10, 11, 12, 13, 14, 9, 15] (by decide +kernel) (by decide +kernel)
set_option maxRecDepth 20000 in
theorem gX7_readNumber_X7_isFigure : GoodIn wsX7_readNumber (va_wsS RX7 119 yX7_isFigure wsX7_isFigure) := goodIn_app (goodIn_of _ (by decide +kernel)) ggX7_readNumber_X7_isFigure
theorem dX7_readNumber_0 : decode cX7_readNumber 0 = .ok (.iconst 0, 1) := by decide +kernel
theorem dX7_readNumber_1 : decode cX7_readNumber 1 = .ok (.istore_n 1, 1) := by decide +kernel
theorem dX7_readNumber_2 : decode cX7_readNumber 2 = .ok (.aload_n 0, 1) := by decide +kernel
theorem dX7_readNumber_3 : decode cX7_readNumber 3 = .ok (.getfield 103, 3) := by decide +kernel
theorem dX7_readNumber_6 : decode cX7_readNumber 6 = .ok (.aload_n 0, 1) := by decide +kernel
theorem dX7_readNumber_7 : decode cX7_readNumber 7 = .ok (.getfield 91, 3) := by decide +kernel
theorem dX7_readNumber_10 : decode cX7_readNumber 10 = .ok (.if_icmp .ge 59, 3) := by decide +kernel
theorem dX7_readNumber_13 : decode cX7_readNumber 13 = .ok (.aload_n 0, 1) := by decide +kernel
theorem dX7_readNumber_14 : decode cX7_readNumber 14 = .ok (.getfield 7, 3) := by decide +kernel
theorem dX7_readNumber_17 : decode cX7_readNumber 17 = .ok (.aload_n 0, 1) := by decide +kernel
theorem dX7_readNumber_18 : decode cX7_readNumber 18 = .ok (.getfield 103, 3) := by decide +kernel
theorem dX7_readNumber_21 : decode cX7_readNumber 21 = .ok (.iaload, 1) := by decide +kernel
theorem dX7_readNumber_22 : decode cX7_readNumber 22 = .ok (.invokestatic 119, 3) := by decide +kernel
theorem dX7_readNumber_25 : decode cX7_readNumber 25 = .ok (.ifCond .eq 44, 3) := by decide +kernel
theorem dX7_readNumber_28 : decode cX7_readNumber 28 = .ok (.iload_n 1, 1) := by decide +kernel
theorem dX7_readNumber_29 : decode cX7_readNumber 29 = .ok (.bipush 99, 2) := by decide +kernel
theorem dX7_readNumber_31 : decode cX7_readNumber 31 = .ok (.if_icmp .le 7, 3) := by decide +kernel
theorem dX7_readNumber_34 : decode cX7_readNumber 34 = .ok (.iload_n 1, 1) := by decide +kernel
theorem dX7_readNumber_35 : decode cX7_readNumber 35 = .ok (.goto 20, 3) := by decide +kernel
theorem dX7_readNumber_38 : decode cX7_readNumber 38 = .ok (.bipush 10, 2) := by decide +kernel
theorem dX7_readNumber_40 : decode cX7_readNumber 40 = .ok (.iload_n 1, 1) := by decide +kernel
theorem dX7_readNumber_41 : decode cX7_readNumber 41 = .ok (.imul, 1) := by decide +kernel
theorem dX7_readNumber_42 : decode cX7_readNumber 42 = .ok (.aload_n 0, 1) := by decide +kernel
theorem dX7_readNumber_43 : decode cX7_readNumber 43 = .ok (.getfield 7, 3) := by decide +kernel
theorem dX7_readNumber_46 : decode cX7_readNumber 46 = .ok (.aload_n 0, 1) := by decide +kernel
theorem dX7_readNumber_47 : decode cX7_readNumber 47 = .ok (.getfield 103, 3) := by decide +kernel
theorem dX7_readNumber_50 : decode cX7_readNumber 50 = .ok (.iaload, 1) := by decide +kernel
theorem dX7_readNumber_51 : decode cX7_readNumber 51 = .ok (.iadd, 1) := by decide +kernel
theorem dX7_readNumber_52 : decode cX7_readNumber 52 = .ok (.bipush 48, 2) := by decide +kernel
theorem dX7_readNumber_54 : decode cX7_readNumber 54 = .ok (.isub, 1) := by decide +kernel
theorem dX7_readNumber_55 : decode cX7_readNumber 55 = .ok (.istore_n 1, 1) := by decide +kernel
theorem dX7_readNumber_56 : decode cX7_readNumber 56 = .ok (.aload_n 0, 1) := by decide +kernel
theorem dX7_readNumber_57 : decode cX7_readNumber 57 = .ok (.dup, 1) := by decide +kernel
theorem dX7_readNumber_58 : decode cX7_readNumber 58 = .ok (.getfield 103, 3) := by decide +kernel
theorem dX7_readNumber_61 : decode cX7_readNumber 61 = .ok (.iconst 1, 1) := by decide +kernel
theorem dX7_readNumber_62 : decode cX7_readNumber 62 = .ok (.iadd, 1) := by decide +kernel
theorem dX7_readNumber_63 : decode cX7_readNumber 63 = .ok (.putfield 103, 3) := by decide +kernel
theorem dX7_readNumber_66 : decode cX7_readNumber 66 = .ok (.goto (-64), 3) := by decide +kernel
theorem dX7_readNumber_69 : decode cX7_readNumber 69 = .ok (.aload_n 0, 1) := by decide +kernel
theorem dX7_readNumber_70 : decode cX7_readNumber 70 = .ok (.iload_n 1, 1) := by decide +kernel
theorem dX7_readNumber_71 : decode cX7_readNumber 71 = .ok (.bipush 99, 2) := by decide +kernel
theorem dX7_readNumber_73 : decode cX7_readNumber 73 = .ok (.if_icmp .gt 30, 3) := by decide +kernel

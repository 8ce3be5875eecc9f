theorem dX7_readNumber_76 : decode cX7_readNumber 76 = .ok (.aload_n 0, 1) := by decide +kernel
theorem dX7_readNumber_77 : decode cX7_readNumber 77 = .ok (.getfield 103, 3) := by decide +kernel
theorem dX7_readNumber_80 : decode cX7_readNumber 80 = .ok (.aload_n 0, 1) := by decide +kernel
theorem dX7_readNumber_81 : decode cX7_readNumber 81 = .ok (.getfield 113, 3) := by decide +kernel
theorem dX7_readNumber_84 : decode cX7_readNumber 84 = .ok (.isub, 1) := by decide +kernel
theorem dX7_readNumber_85 : decode cX7_readNumber 85 = .ok (.iconst 1, 1) := by decide +kernel
theorem dX7_readNumber_86 : decode cX7_readNumber 86 = .ok (.if_icmp .le 21, 3) := by decide +kernel
theorem dX7_readNumber_89 : decode cX7_readNumber 89 = .ok (.aload_n 0, 1) := by decide +kernel
theorem dX7_readNumber_90 : decode cX7_readNumber 90 = .ok (.getfield 7, 3) := by decide +kernel
theorem dX7_readNumber_93 : decode cX7_readNumber 93 = .ok (.aload_n 0, 1) := by decide +kernel
theorem dX7_readNumber_94 : decode cX7_readNumber 94 = .ok (.getfield 113, 3) := by decide +kernel
theorem dX7_readNumber_97 : decode cX7_readNumber 97 = .ok (.iaload, 1) := by decide +kernel
theorem dX7_readNumber_98 : decode cX7_readNumber 98 = .ok (.bipush 48, 2) := by decide +kernel
theorem dX7_readNumber_100 : decode cX7_readNumber 100 = .ok (.if_icmp .ne 7, 3) := by decide +kernel
theorem dX7_readNumber_103 : decode cX7_readNumber 103 = .ok (.iconst 4, 1) := by decide +kernel
theorem dX7_readNumber_104 : decode cX7_readNumber 104 = .ok (.goto 4, 3) := by decide +kernel
theorem dX7_readNumber_107 : decode cX7_readNumber 107 = .ok (.iconst 2, 1) := by decide +kernel
theorem dX7_readNumber_108 : decode cX7_readNumber 108 = .ok (.putfield 116, 3) := by decide +kernel
theorem dX7_readNumber_111 : decode cX7_readNumber 111 = .ok (.aload_n 0, 1) := by decide +kernel
theorem dX7_readNumber_112 : decode cX7_readNumber 112 = .ok (.iload_n 1, 1) := by decide +kernel
theorem dX7_readNumber_113 : decode cX7_readNumber 113 = .ok (.putfield 106, 3) := by decide +kernel
theorem dX7_readNumber_116 : decode cX7_readNumber 116 = .ok (.return_, 1) := by decide +kernel
set_option maxRecDepth 20000 in
theorem ggX7_reads_X7_isLetter : GoodIn wsX7_reads wsX7_isLetter := goodIn_r _ [9, 10, 11, 12, 13, 8, 14] (by decide +kernel) (by decide +kernel)
set_option maxRecDepth 20000 in
theorem gX7_reads_X7_isLetter : GoodIn wsX7_reads (va_wsS RX7 109 yX7_isLetter wsX7_isLetter) := goodIn_app (goodIn_of _ (by decide +kernel)) ggX7_reads_X7_isLetter
set_option maxRecDepth 20000 in
theorem ggX7_reads_X7_readLetters : GoodIn wsX7_reads wsX7_readLetters := goodIn_r _ [18, 3, 1, 19, 2, 4, 5, 6, 7, 8, 9, 10, 11, 12, 13, 14, 29, 30, 31, 32, 33, 34, 35, 36, 37, 38, 39, 40, 41, 42, 43, 44, 45, 46, 47, 48, 49, 50, 51, 52, 53, 54, 55, 56, 57, 58, 59, 60, 61, 62] (by decide +kernel) (by decide +kernel)
set_option maxRecDepth 20000 in
theorem gX7_reads_X7_readLetters : GoodIn wsX7_reads (wsV RX7 122 RX7 yX7_readLetters wsX7_readLetters) := goodIn_app (goodIn_of _ (by decide +kernel)) ggX7_reads_X7_readLetters
set_option maxRecDepth 20000 in
theorem ggX7_reads_X7_isFigure : GoodIn wsX7_reads wsX7_isFigure := goodIn_r _ [22, 23, 24, 12, 13, 8, 14] (by decide +kernel) (by decide +kernel)
set_option maxRecDepth 20000 in
theorem gX7_reads_X7_isFigure : GoodIn wsX7_reads (va_wsS RX7 119 yX7_isFigure wsX7_isFigure) := goodIn_app (goodIn_of _ (by decide +kernel)) ggX7_reads_X7_isFigure
set_option maxRecDepth 20000 in
theorem ggX7_reads_X7_readNumber : GoodIn wsX7_reads wsX7_readNumber := goodIn_r _ [28, 1, 2, 3, 4, 5, 19, 20, 21, 8, 22, 23, 24, 12, 13, 14, 29, 30, 31, 32, 33, 34, 35, 36, 37, 38, 39, 40, 41, 42, 43, 44, 45, 46, 47, 48, 49, 50, 51, 52, 53, 54, 55, 56, 57, 58, 59, 60, 61, 62] (by decide +kernel) (by decide +kernel)
set_option maxRecDepth 20000 in
theorem gX7_reads_X7_readNumber : GoodIn wsX7_reads (wsV RX7 125 RX7 yX7_readNumber wsX7_readNumber) := goodIn_app (goodIn_of _ (by decide +kernel)) ggX7_reads_X7_readNumber
theorem dX7_reads_0 : decode cX7_reads 0 = .ok (.aload_n 0, 1) := by decide +kernel
theorem dX7_reads_1 : decode cX7_reads 1 = .ok (.getfield 103, 3) := by decide +kernel
theorem dX7_reads_4 : decode cX7_reads 4 = .ok (.aload_n 0, 1) := by decide +kernel
theorem dX7_reads_5 : decode cX7_reads 5 = .ok (.getfield 91, 3) := by decide +kernel
theorem dX7_reads_8 : decode cX7_reads 8 = .ok (.if_icmp .ge 30, 3) := by decide +kernel
theorem dX7_reads_11 : decode cX7_reads 11 = .ok (.aload_n 0, 1) := by decide +kernel
theorem dX7_reads_12 : decode cX7_reads 12 = .ok (.getfield 7, 3) := by decide +kernel
theorem dX7_reads_15 : decode cX7_reads 15 = .ok (.aload_n 0, 1) := by decide +kernel
theorem dX7_reads_16 : decode cX7_reads 16 = .ok (.getfield 103, 3) := by decide +kernel
theorem dX7_reads_19 : decode cX7_reads 19 = .ok (.iaload, 1) := by decide +kernel
theorem dX7_reads_20 : decode cX7_reads 20 = .ok (.bipush 32, 2) := by decide +kernel
theorem dX7_reads_22 : decode cX7_reads 22 = .ok (.if_icmp .ne 16, 3) := by decide +kernel
theorem dX7_reads_25 : decode cX7_reads 25 = .ok (.aload_n 0, 1) := by decide +kernel
theorem dX7_reads_26 : decode cX7_reads 26 = .ok (.dup, 1) := by decide +kernel
theorem dX7_reads_27 : decode cX7_reads 27 = .ok (.getfield 103, 3) := by decide +kernel
theorem dX7_reads_30 : decode cX7_reads 30 = .ok (.iconst 1, 1) := by decide +kernel
theorem dX7_reads_31 : decode cX7_reads 31 = .ok (.iadd, 1) := by decide +kernel
theorem dX7_reads_32 : decode cX7_reads 32 = .ok (.putfield 103, 3) := by decide +kernel
theorem dX7_reads_35 : decode cX7_reads 35 = .ok (.goto (-35), 3) := by decide +kernel
theorem dX7_reads_38 : decode cX7_reads 38 = .ok (.aload_n 0, 1) := by decide +kernel
theorem dX7_reads_39 : decode cX7_reads 39 = .ok (.aload_n 0, 1) := by decide +kernel
theorem dX7_reads_40 : decode cX7_reads 40 = .ok (.getfield 103, 3) := by decide +kernel
theorem dX7_reads_43 : decode cX7_reads 43 = .ok (.putfield 113, 3) := by decide +kernel
theorem dX7_reads_46 : decode cX7_reads 46 = .ok (.aload_n 0, 1) := by decide +kernel
theorem dX7_reads_47 : decode cX7_reads 47 = .ok (.getfield 103, 3) := by decide +kernel
theorem dX7_reads_50 : decode cX7_reads 50 = .ok (.aload_n 0, 1) := by decide +kernel
theorem dX7_reads_51 : decode cX7_reads 51 = .ok (.getfield 91, 3) := by decide +kernel
theorem dX7_reads_54 : decode cX7_reads 54 = .ok (.if_icmp .ne 11, 3) := by decide +kernel
theorem dX7_reads_57 : decode cX7_reads 57 = .ok (.aload_n 0, 1) := by decide +kernel
theorem dX7_reads_58 : decode cX7_reads 58 = .ok (.iconst 0, 1) := by decide +kernel
theorem dX7_reads_59 : decode cX7_reads 59 = .ok (.putfield 116, 3) := by decide +kernel
theorem dX7_reads_62 : decode cX7_reads 62 = .ok (.goto 92, 3) := by decide +kernel
theorem dX7_reads_65 : decode cX7_reads 65 = .ok (.aload_n 0, 1) := by decide +kernel
theorem dX7_reads_66 : decode cX7_reads 66 = .ok (.getfield 7, 3) := by decide +kernel
theorem dX7_reads_69 : decode cX7_reads 69 = .ok (.aload_n 0, 1) := by decide +kernel
theorem dX7_reads_70 : decode cX7_reads 70 = .ok (.getfield 103, 3) := by decide +kernel
theorem dX7_reads_73 : decode cX7_reads 73 = .ok (.iaload, 1) := by decide +kernel
theorem dX7_reads_74 : decode cX7_reads 74 = .ok (.invokestatic 109, 3) := by decide +kernel
theorem dX7_reads_77 : decode cX7_reads 77 = .ok (.ifCond .eq 10, 3) := by decide +kernel
theorem dX7_reads_80 : decode cX7_reads 80 = .ok (.aload_n 0, 1) := by decide +kernel
theorem dX7_reads_81 : decode cX7_reads 81 = .ok (.invokevirtual 122, 3) := by decide +kernel
theorem dX7_reads_84 : decode cX7_reads 84 = .ok (.goto 70, 3) := by decide +kernel
theorem dX7_reads_87 : decode cX7_reads 87 = .ok (.aload_n 0, 1) := by decide +kernel
theorem dX7_reads_88 : decode cX7_reads 88 = .ok (.getfield 7, 3) := by decide +kernel
theorem dX7_reads_91 : decode cX7_reads 91 = .ok (.aload_n 0, 1) := by decide +kernel
theorem dX7_reads_92 : decode cX7_reads 92 = .ok (.getfield 103, 3) := by decide +kernel
theorem dX7_reads_95 : decode cX7_reads 95 = .ok (.iaload, 1) := by decide +kernel
theorem dX7_reads_96 : decode cX7_reads 96 = .ok (.invokestatic 119, 3) := by decide +kernel
theorem dX7_reads_99 : decode cX7_reads 99 = .ok (.ifCond .eq 10, 3) := by decide +kernel
theorem dX7_reads_102 : decode cX7_reads 102 = .ok (.aload_n 0, 1) := by decide +kernel
theorem dX7_reads_103 : decode cX7_reads 103 = .ok (.invokevirtual 125, 3) := by decide +kernel
theorem dX7_reads_106 : decode cX7_reads 106 = .ok (.goto 48, 3) := by decide +kernel
theorem dX7_reads_109 : decode cX7_reads 109 = .ok (.aload_n 0, 1) := by decide +kernel
theorem dX7_reads_110 : decode cX7_reads 110 = .ok (.aload_n 0, 1) := by decide +kernel
theorem dX7_reads_111 : decode cX7_reads 111 = .ok (.getfield 7, 3) := by decide +kernel
theorem dX7_reads_114 : decode cX7_reads 114 = .ok (.aload_n 0, 1) := by decide +kernel
theorem dX7_reads_115 : decode cX7_reads 115 = .ok (.getfield 103, 3) := by decide +kernel
theorem dX7_reads_118 : decode cX7_reads 118 = .ok (.iaload, 1) := by decide +kernel
theorem dX7_reads_119 : decode cX7_reads 119 = .ok (.bipush 59, 2) := by decide +kernel
theorem dX7_reads_121 : decode cX7_reads 121 = .ok (.if_icmp .ne 7, 3) := by decide +kernel
theorem dX7_reads_124 : decode cX7_reads 124 = .ok (.iconst 3, 1) := by decide +kernel
theorem dX7_reads_125 : decode cX7_reads 125 = .ok (.goto 4, 3) := by decide +kernel
theorem dX7_reads_128 : decode cX7_reads 128 = .ok (.iconst 4, 1) := by decide +kernel
theorem dX7_reads_129 : decode cX7_reads 129 = .ok (.putfield 116, 3) := by decide +kernel
theorem dX7_reads_132 : decode cX7_reads 132 = .ok (.aload_n 0, 1) := by decide +kernel
theorem dX7_reads_133 : decode cX7_reads 133 = .ok (.dup, 1) := by decide +kernel
theorem dX7_reads_134 : decode cX7_reads 134 = .ok (.getfield 103, 3) := by decide +kernel
theorem dX7_reads_137 : decode cX7_reads 137 = .ok (.aload_n 0, 1) := by decide +kernel
theorem dX7_reads_138 : decode cX7_reads 138 = .ok (.getfield 116, 3) := by decide +kernel
theorem dX7_reads_141 : decode cX7_reads 141 = .ok (.iconst 3, 1) := by decide +kernel
theorem dX7_reads_142 : decode cX7_reads 142 = .ok (.if_icmp .ne 7, 3) := by decide +kernel
theorem dX7_reads_145 : decode cX7_reads 145 = .ok (.iconst 1, 1) := by decide +kernel
theorem dX7_reads_146 : decode cX7_reads 146 = .ok (.goto 4, 3) := by decide +kernel
theorem dX7_reads_149 : decode cX7_reads 149 = .ok (.iconst 0, 1) := by decide +kernel
theorem dX7_reads_150 : decode cX7_reads 150 = .ok (.iadd, 1) := by decide +kernel
theorem dX7_reads_151 : decode cX7_reads 151 = .ok (.putfield 103, 3) := by decide +kernel
theorem dX7_reads_154 : decode cX7_reads 154 = .ok (.return_, 1) := by decide +kernel
set_option maxRecDepth 20000 in
theorem ggX7_number_X7_reads : GoodIn wsX7_number wsX7_reads := goodIn_r _ [7, 8, 9, 10, 11, 1, 12, 13, 6, 14, 15, 16, 17, 18, 19, 20, 21, 22, 23, 2, 24, 25, 26, 27, 28, 29, 30, 31, 32, 33, 34, 35, 36, 37, 38, 39, 40, 41, 42, 43, 44, 45, 46, 47, 48, 49, 50, 51, 52, 53, 54, 55, 56, 57, 58, 59, 60, 61, 62, 63, 64, 65, 66] (by decide +kernel) (by decide +kernel)
set_option maxRecDepth 20000 in
theorem gX7_number_X7_reads : GoodIn wsX7_number (wsV RX7 128 RX7 yX7_reads wsX7_reads) := goodIn_app (goodIn_of _ (by decide +kernel)) ggX7_number_X7_reads
set_option maxRecDepth 20000 in
theorem ggX7_number_X7_in : GoodIn wsX7_number wsX7_in := goodIn_r _ [19] (by decide +kernel) (by decide +kernel)
set_option maxRecDepth 20000 in
theorem gX7_number_X7_in : GoodIn wsX7_number (va_wsS RX7 87 yX7_in wsX7_in) := goodIn_app (goodIn_of _ (by decide +kernel)) ggX7_number_X7_in
theorem dX7_number_0 : decode cX7_number 0 = .ok (.aload_n 0, 1) := by decide +kernel
theorem dX7_number_1 : decode cX7_number 1 = .ok (.invokevirtual 128, 3) := by decide +kernel
theorem dX7_number_4 : decode cX7_number 4 = .ok (.aload_n 0, 1) := by decide +kernel
theorem dX7_number_5 : decode cX7_number 5 = .ok (.getfield 116, 3) := by decide +kernel
theorem dX7_number_8 : decode cX7_number 8 = .ok (.iconst 2, 1) := by decide +kernel
theorem dX7_number_9 : decode cX7_number 9 = .ok (.if_icmp .ne 22, 3) := by decide +kernel
theorem dX7_number_12 : decode cX7_number 12 = .ok (.aload_n 0, 1) := by decide +kernel
theorem dX7_number_13 : decode cX7_number 13 = .ok (.getfield 106, 3) := by decide +kernel
theorem dX7_number_16 : decode cX7_number 16 = .ok (.i2l, 1) := by decide +kernel
theorem dX7_number_17 : decode cX7_number 17 = .ok (.iload_n 1, 1) := by decide +kernel
theorem dX7_number_18 : decode cX7_number 18 = .ok (.i2l, 1) := by decide +kernel
theorem dX7_number_19 : decode cX7_number 19 = .ok (.iload_n 2, 1) := by decide +kernel
theorem dX7_number_20 : decode cX7_number 20 = .ok (.i2l, 1) := by decide +kernel
theorem dX7_number_21 : decode cX7_number 21 = .ok (.invokestatic 87, 3) := by decide +kernel
theorem dX7_number_24 : decode cX7_number 24 = .ok (.ifCond .eq 7, 3) := by decide +kernel
theorem dX7_number_27 : decode cX7_number 27 = .ok (.iconst 1, 1) := by decide +kernel
theorem dX7_number_28 : decode cX7_number 28 = .ok (.goto 4, 3) := by decide +kernel
theorem dX7_number_31 : decode cX7_number 31 = .ok (.iconst 0, 1) := by decide +kernel
theorem dX7_number_32 : decode cX7_number 32 = .ok (.ireturn, 1) := by decide +kernel
set_option maxRecDepth 20000 in
theorem ggX7_ends_X7_reads : GoodIn wsX7_ends wsX7_reads := goodIn_r _ [6, 7, 8, 9, 10, 1, 11, 12, 5, 13, 14, 15, 16, 17, 18, 19, 20, 21, 22, 23, 24, 25, 26, 27, 28, 29, 30, 31, 32, 33, 34, 35, 36, 37, 38, 39, 40, 41, 42, 43, 44, 45, 46, 47, 48, 49, 50, 51, 52, 53, 54, 55, 56, 57, 58, 59, 60, 61, 62, 63, 64, 65, 66] (by decide +kernel) (by decide +kernel)
set_option maxRecDepth 20000 in
theorem gX7_ends_X7_reads : GoodIn wsX7_ends (wsV RX7 128 RX7 yX7_reads wsX7_reads) := goodIn_app (goodIn_of _ (by decide +kernel)) ggX7_ends_X7_reads
theorem dX7_ends_0 : decode cX7_ends 0 = .ok (.aload_n 0, 1) := by decide +kernel
theorem dX7_ends_1 : decode cX7_ends 1 = .ok (.invokevirtual 128, 3) := by decide +kernel
theorem dX7_ends_4 : decode cX7_ends 4 = .ok (.aload_n 0, 1) := by decide +kernel
theorem dX7_ends_5 : decode cX7_ends 5 = .ok (.getfield 116, 3) := by decide +kernel
theorem dX7_ends_8 : decode cX7_ends 8 = .ok (.iconst 3, 1) := by decide +kernel
theorem dX7_ends_9 : decode cX7_ends 9 = .ok (.if_icmp .ne 7, 3) := by decide +kernel
theorem dX7_ends_12 : decode cX7_ends 12 = .ok (.iconst 1, 1) := by decide +kernel
theorem dX7_ends_13 : decode cX7_ends 13 = .ok (.goto 4, 3) := by decide +kernel
theorem dX7_ends_16 : decode cX7_ends 16 = .ok (.iconst 0, 1) := by decide +kernel
theorem dX7_ends_17 : decode cX7_ends 17 = .ok (.ireturn, 1) := by decide +kernel
theorem dX7_plain_0 : decode cX7_plain 0 = .ok (.iconst 0, 1) := by decide +kernel
theorem dX7_plain_1 : decode cX7_plain 1 = .ok (.istore_n 1, 1) := by decide +kernel
theorem dX7_plain_2 : decode cX7_plain 2 = .ok (.iload_n 1, 1) := by decide +kernel
theorem dX7_plain_3 : decode cX7_plain 3 = .ok (.bipush 64, 2) := by decide +kernel
theorem dX7_plain_5 : decode cX7_plain 5 = .ok (.if_icmp .ge 16, 3) := by decide +kernel
theorem dX7_plain_8 : decode cX7_plain 8 = .ok (.aload_n 0, 1) := by decide +kernel
theorem dX7_plain_9 : decode cX7_plain 9 = .ok (.getfield 13, 3) := by decide +kernel
theorem dX7_plain_12 : decode cX7_plain 12 = .ok (.iload_n 1, 1) := by decide +kernel
theorem dX7_plain_13 : decode cX7_plain 13 = .ok (.iconst 0, 1) := by decide +kernel
theorem dX7_plain_14 : decode cX7_plain 14 = .ok (.iastore, 1) := by decide +kernel
theorem dX7_plain_15 : decode cX7_plain 15 = .ok (.iinc 1 1, 3) := by decide +kernel
theorem dX7_plain_18 : decode cX7_plain 18 = .ok (.goto (-16), 3) := by decide +kernel
theorem dX7_plain_21 : decode cX7_plain 21 = .ok (.aload_n 0, 1) := by decide +kernel
theorem dX7_plain_22 : decode cX7_plain 22 = .ok (.getfield 13, 3) := by decide +kernel
theorem dX7_plain_25 : decode cX7_plain 25 = .ok (.iconst 3, 1) := by decide +kernel
theorem dX7_plain_26 : decode cX7_plain 26 = .ok (.iconst 1, 1) := by decide +kernel
theorem dX7_plain_27 : decode cX7_plain 27 = .ok (.iastore, 1) := by decide +kernel
theorem dX7_plain_28 : decode cX7_plain 28 = .ok (.return_, 1) := by decide +kernel
set_option maxRecDepth 20000 in
theorem ggX7_readCorner_X7_number : GoodIn wsX7_readCorner wsX7_number := goodIn_r _ [7, 8, 2, 9, 10, 11, 6, 12, 13, 14, 15, 16, 17, 18, 19, 20, 21, 22, 23, 24, 25, 26, 27, 28, 29, 30, 31, 32, 33, 34, 35, 36, 37, 42, 43, 44, 45, 46, 47, 48, 49, 50, 51, 52, 53, 54, 55, 56, 57, 58, 59, 60, 61, 62, 63, 64, 65, 66, 67, 68, 69, 70, 71, 72, 73, 74, 75] (by decide +kernel) (by decide +kernel)
set_option maxRecDepth 20000 in
theorem gX7_readCorner_X7_number : GoodIn wsX7_readCorner (wsV RX7 131 RX7 yX7_number wsX7_number) := goodIn_app (goodIn_of _ (by decide +kernel)) ggX7_readCorner_X7_number
set_option maxRecDepth 20000 in
theorem ggX7_readCorner_X7_ends : GoodIn wsX7_readCorner wsX7_ends := goodIn_r _ [41, 8, 9, 10, 11, 6, 12, 13, 14, 15, 16, 17, 18, 19, 20, 21, 22, 23, 24, 25, 26, 27, 28, 2, 29, 30, 31, 32, 33, 34, 35, 36, 37, 42, 43, 44, 45, 46, 47, 48, 49, 50, 51, 52, 53, 54, 55, 56, 57, 58, 59, 60, 61, 62, 63, 64, 65, 66, 67, 68, 69, 70, 71, 72, 73, 74, 75] (by decide +kernel) (by decide +kernel)
set_option maxRecDepth 20000 in
theorem gX7_readCorner_X7_ends : GoodIn wsX7_readCorner (wsV RX7 135 RX7 yX7_ends wsX7_ends) := goodIn_app (goodIn_of _ (by decide +kernel)) ggX7_readCorner_X7_ends
theorem dX7_readCorner_0 : decode cX7_readCorner 0 = .ok (.aload_n 0, 1) := by decide +kernel
theorem dX7_readCorner_1 : decode cX7_readCorner 1 = .ok (.getfield 13, 3) := by decide +kernel
theorem dX7_readCorner_4 : decode cX7_readCorner 4 = .ok (.iconst 0, 1) := by decide +kernel
theorem dX7_readCorner_5 : decode cX7_readCorner 5 = .ok (.iaload, 1) := by decide +kernel
theorem dX7_readCorner_6 : decode cX7_readCorner 6 = .ok (.bipush 7, 2) := by decide +kernel
theorem dX7_readCorner_8 : decode cX7_readCorner 8 = .ok (.if_icmp .eq 12, 3) := by decide +kernel
theorem dX7_readCorner_11 : decode cX7_readCorner 11 = .ok (.aload_n 0, 1) := by decide +kernel
theorem dX7_readCorner_12 : decode cX7_readCorner 12 = .ok (.iconst 0, 1) := by decide +kernel
theorem dX7_readCorner_13 : decode cX7_readCorner 13 = .ok (.iconst 3, 1) := by decide +kernel
theorem dX7_readCorner_14 : decode cX7_readCorner 14 = .ok (.invokevirtual 131, 3) := by decide +kernel
theorem dX7_readCorner_17 : decode cX7_readCorner 17 = .ok (.ifCond .ne 5, 3) := by decide +kernel
theorem dX7_readCorner_20 : decode cX7_readCorner 20 = .ok (.iconst 0, 1) := by decide +kernel
theorem dX7_readCorner_21 : decode cX7_readCorner 21 = .ok (.ireturn, 1) := by decide +kernel
theorem dX7_readCorner_22 : decode cX7_readCorner 22 = .ok (.aload_n 0, 1) := by decide +kernel
theorem dX7_readCorner_23 : decode cX7_readCorner 23 = .ok (.getfield 13, 3) := by decide +kernel
theorem dX7_readCorner_26 : decode cX7_readCorner 26 = .ok (.bipush 6, 2) := by decide +kernel
theorem dX7_readCorner_28 : decode cX7_readCorner 28 = .ok (.aload_n 0, 1) := by decide +kernel
theorem dX7_readCorner_29 : decode cX7_readCorner 29 = .ok (.getfield 13, 3) := by decide +kernel
theorem dX7_readCorner_32 : decode cX7_readCorner 32 = .ok (.iconst 0, 1) := by decide +kernel
theorem dX7_readCorner_33 : decode cX7_readCorner 33 = .ok (.iaload, 1) := by decide +kernel
theorem dX7_readCorner_34 : decode cX7_readCorner 34 = .ok (.iadd, 1) := by decide +kernel
theorem dX7_readCorner_35 : decode cX7_readCorner 35 = .ok (.aload_n 0, 1) := by decide +kernel
theorem dX7_readCorner_36 : decode cX7_readCorner 36 = .ok (.getfield 106, 3) := by decide +kernel
theorem dX7_readCorner_39 : decode cX7_readCorner 39 = .ok (.iastore, 1) := by decide +kernel
theorem dX7_readCorner_40 : decode cX7_readCorner 40 = .ok (.aload_n 0, 1) := by decide +kernel
theorem dX7_readCorner_41 : decode cX7_readCorner 41 = .ok (.getfield 13, 3) := by decide +kernel
theorem dX7_readCorner_44 : decode cX7_readCorner 44 = .ok (.iconst 0, 1) := by decide +kernel
theorem dX7_readCorner_45 : decode cX7_readCorner 45 = .ok (.dup2, 1) := by decide +kernel
theorem dX7_readCorner_46 : decode cX7_readCorner 46 = .ok (.iaload, 1) := by decide +kernel
theorem dX7_readCorner_47 : decode cX7_readCorner 47 = .ok (.iconst 1, 1) := by decide +kernel
theorem dX7_readCorner_48 : decode cX7_readCorner 48 = .ok (.iadd, 1) := by decide +kernel
theorem dX7_readCorner_49 : decode cX7_readCorner 49 = .ok (.iastore, 1) := by decide +kernel
theorem dX7_readCorner_50 : decode cX7_readCorner 50 = .ok (.aload_n 0, 1) := by decide +kernel
theorem dX7_readCorner_51 : decode cX7_readCorner 51 = .ok (.invokevirtual 135, 3) := by decide +kernel
theorem dX7_readCorner_54 : decode cX7_readCorner 54 = .ok (.ireturn, 1) := by decide +kernel
set_option maxRecDepth 20000 in
theorem ggX7_readStreet_X7_number : GoodIn wsX7_readStreet wsX7_number := goodIn_r _ [7, 8, 2, 9, 10, 11, 6, 12, 13, 14, 15, 16, 17, 18, 19, 20, 21, 22, 23, 24, 25, 26, 27, 28, 29, 30, 31, 32, 33, 34, 35, 36, 37, 42, 43, 44, 45, 46, 47, 48, 49, 50, 51, 52, 53, 54, 55, 56, 57, 58, 59, 60, 61, 62, 63, 64, 65, 66, 67, 68, 69, 70, 71, 72, 73, 74, 75] (by decide +kernel) (by decide +kernel)
set_option maxRecDepth 20000 in
theorem gX7_readStreet_X7_number : GoodIn wsX7_readStreet (wsV RX7 131 RX7 yX7_number wsX7_number) := goodIn_app (goodIn_of _ (by decide +kernel)) ggX7_readStreet_X7_number
set_option maxRecDepth 20000 in
theorem ggX7_readStreet_X7_ends : GoodIn wsX7_readStreet wsX7_ends := goodIn_r _ [41, 8, 9, 10, 11, 6, 12, 13, 14, 15, 16, 17, 18, 19, 20, 21, 22, 23, 24, 25, 26, 27, 28, 2, 29, 30, 31, 32, 33, 34, 35, 36, 37, 42, 43, 44, 45, 46, 47, 48, 49, 50, 51, 52, 53, 54, 55, 56, 57, 58, 59, 60, 61, 62, 63, 64, 65, 66, 67, 68, 69, 70, 71, 72, 73, 74, 75] (by decide +kernel) (by decide +kernel)
set_option maxRecDepth 20000 in
theorem gX7_readStreet_X7_ends : GoodIn wsX7_readStreet (wsV RX7 135 RX7 yX7_ends wsX7_ends) := goodIn_app (goodIn_of _ (by decide +kernel)) ggX7_readStreet_X7_ends
theorem dX7_readStreet_0 : decode cX7_readStreet 0 = .ok (.bipush 13, 2) := by decide +kernel
theorem dX7_readStreet_2 : decode cX7_readStreet 2 = .ok (.iconst 3, 1) := by decide +kernel
theorem dX7_readStreet_3 : decode cX7_readStreet 3 = .ok (.aload_n 0, 1) := by decide +kernel
theorem dX7_readStreet_4 : decode cX7_readStreet 4 = .ok (.getfield 13, 3) := by decide +kernel
theorem dX7_readStreet_7 : decode cX7_readStreet 7 = .ok (.iconst 1, 1) := by decide +kernel
theorem dX7_readStreet_8 : decode cX7_readStreet 8 = .ok (.iaload, 1) := by decide +kernel
theorem dX7_readStreet_9 : decode cX7_readStreet 9 = .ok (.imul, 1) := by decide +kernel
theorem dX7_readStreet_10 : decode cX7_readStreet 10 = .ok (.iadd, 1) := by decide +kernel
theorem dX7_readStreet_11 : decode cX7_readStreet 11 = .ok (.istore_n 1, 1) := by decide +kernel
theorem dX7_readStreet_12 : decode cX7_readStreet 12 = .ok (.aload_n 0, 1) := by decide +kernel
theorem dX7_readStreet_13 : decode cX7_readStreet 13 = .ok (.getfield 13, 3) := by decide +kernel
theorem dX7_readStreet_16 : decode cX7_readStreet 16 = .ok (.iconst 1, 1) := by decide +kernel
theorem dX7_readStreet_17 : decode cX7_readStreet 17 = .ok (.iaload, 1) := by decide +kernel
theorem dX7_readStreet_18 : decode cX7_readStreet 18 = .ok (.bipush 9, 2) := by decide +kernel
theorem dX7_readStreet_20 : decode cX7_readStreet 20 = .ok (.if_icmp .eq 19, 3) := by decide +kernel
theorem dX7_readStreet_23 : decode cX7_readStreet 23 = .ok (.aload_n 0, 1) := by decide +kernel
theorem dX7_readStreet_24 : decode cX7_readStreet 24 = .ok (.iconst 0, 1) := by decide +kernel
theorem dX7_readStreet_25 : decode cX7_readStreet 25 = .ok (.aload_n 0, 1) := by decide +kernel
theorem dX7_readStreet_26 : decode cX7_readStreet 26 = .ok (.getfield 13, 3) := by decide +kernel
theorem dX7_readStreet_29 : decode cX7_readStreet 29 = .ok (.iconst 0, 1) := by decide +kernel
theorem dX7_readStreet_30 : decode cX7_readStreet 30 = .ok (.iaload, 1) := by decide +kernel
theorem dX7_readStreet_31 : decode cX7_readStreet 31 = .ok (.iconst 1, 1) := by decide +kernel
theorem dX7_readStreet_32 : decode cX7_readStreet 32 = .ok (.isub, 1) := by decide +kernel
theorem dX7_readStreet_33 : decode cX7_readStreet 33 = .ok (.invokevirtual 131, 3) := by decide +kernel
theorem dX7_readStreet_36 : decode cX7_readStreet 36 = .ok (.ifCond .ne 5, 3) := by decide +kernel
theorem dX7_readStreet_39 : decode cX7_readStreet 39 = .ok (.iconst 0, 1) := by decide +kernel
theorem dX7_readStreet_40 : decode cX7_readStreet 40 = .ok (.ireturn, 1) := by decide +kernel
theorem dX7_readStreet_41 : decode cX7_readStreet 41 = .ok (.aload_n 0, 1) := by decide +kernel
theorem dX7_readStreet_42 : decode cX7_readStreet 42 = .ok (.getfield 13, 3) := by decide +kernel
theorem dX7_readStreet_45 : decode cX7_readStreet 45 = .ok (.iload_n 1, 1) := by decide +kernel
theorem dX7_readStreet_46 : decode cX7_readStreet 46 = .ok (.aload_n 0, 1) := by decide +kernel
theorem dX7_readStreet_47 : decode cX7_readStreet 47 = .ok (.getfield 106, 3) := by decide +kernel
theorem dX7_readStreet_50 : decode cX7_readStreet 50 = .ok (.iastore, 1) := by decide +kernel
theorem dX7_readStreet_51 : decode cX7_readStreet 51 = .ok (.aload_n 0, 1) := by decide +kernel
theorem dX7_readStreet_52 : decode cX7_readStreet 52 = .ok (.iconst 0, 1) := by decide +kernel
theorem dX7_readStreet_53 : decode cX7_readStreet 53 = .ok (.aload_n 0, 1) := by decide +kernel
theorem dX7_readStreet_54 : decode cX7_readStreet 54 = .ok (.getfield 13, 3) := by decide +kernel
theorem dX7_readStreet_57 : decode cX7_readStreet 57 = .ok (.iconst 0, 1) := by decide +kernel
theorem dX7_readStreet_58 : decode cX7_readStreet 58 = .ok (.iaload, 1) := by decide +kernel
theorem dX7_readStreet_59 : decode cX7_readStreet 59 = .ok (.iconst 1, 1) := by decide +kernel
theorem dX7_readStreet_60 : decode cX7_readStreet 60 = .ok (.isub, 1) := by decide +kernel
theorem dX7_readStreet_61 : decode cX7_readStreet 61 = .ok (.invokevirtual 131, 3) := by decide +kernel
theorem dX7_readStreet_64 : decode cX7_readStreet 64 = .ok (.ifCond .eq 16, 3) := by decide +kernel
theorem dX7_readStreet_67 : decode cX7_readStreet 67 = .ok (.aload_n 0, 1) := by decide +kernel
theorem dX7_readStreet_68 : decode cX7_readStreet 68 = .ok (.getfield 106, 3) := by decide +kernel
theorem dX7_readStreet_71 : decode cX7_readStreet 71 = .ok (.aload_n 0, 1) := by decide +kernel
theorem dX7_readStreet_72 : decode cX7_readStreet 72 = .ok (.getfield 13, 3) := by decide +kernel
theorem dX7_readStreet_75 : decode cX7_readStreet 75 = .ok (.iload_n 1, 1) := by decide +kernel
theorem dX7_readStreet_76 : decode cX7_readStreet 76 = .ok (.iaload, 1) := by decide +kernel
theorem dX7_readStreet_77 : decode cX7_readStreet 77 = .ok (.if_icmp .ne 5, 3) := by decide +kernel
theorem dX7_readStreet_80 : decode cX7_readStreet 80 = .ok (.iconst 0, 1) := by decide +kernel
theorem dX7_readStreet_81 : decode cX7_readStreet 81 = .ok (.ireturn, 1) := by decide +kernel
theorem dX7_readStreet_82 : decode cX7_readStreet 82 = .ok (.aload_n 0, 1) := by decide +kernel
theorem dX7_readStreet_83 : decode cX7_readStreet 83 = .ok (.getfield 13, 3) := by decide +kernel
theorem dX7_readStreet_86 : decode cX7_readStreet 86 = .ok (.iload_n 1, 1) := by decide +kernel
theorem dX7_readStreet_87 : decode cX7_readStreet 87 = .ok (.iconst 1, 1) := by decide +kernel
theorem dX7_readStreet_88 : decode cX7_readStreet 88 = .ok (.iadd, 1) := by decide +kernel
theorem dX7_readStreet_89 : decode cX7_readStreet 89 = .ok (.aload_n 0, 1) := by decide +kernel
theorem dX7_readStreet_90 : decode cX7_readStreet 90 = .ok (.getfield 106, 3) := by decide +kernel
theorem dX7_readStreet_93 : decode cX7_readStreet 93 = .ok (.iastore, 1) := by decide +kernel
theorem dX7_readStreet_94 : decode cX7_readStreet 94 = .ok (.aload_n 0, 1) := by decide +kernel
theorem dX7_readStreet_95 : decode cX7_readStreet 95 = .ok (.iconst 1, 1) := by decide +kernel
theorem dX7_readStreet_96 : decode cX7_readStreet 96 = .ok (.bipush 9, 2) := by decide +kernel
theorem dX7_readStreet_98 : decode cX7_readStreet 98 = .ok (.invokevirtual 131, 3) := by decide +kernel
theorem dX7_readStreet_101 : decode cX7_readStreet 101 = .ok (.ifCond .ne 5, 3) := by decide +kernel
theorem dX7_readStreet_104 : decode cX7_readStreet 104 = .ok (.iconst 0, 1) := by decide +kernel
theorem dX7_readStreet_105 : decode cX7_readStreet 105 = .ok (.ireturn, 1) := by decide +kernel
theorem dX7_readStreet_106 : decode cX7_readStreet 106 = .ok (.aload_n 0, 1) := by decide +kernel
theorem dX7_readStreet_107 : decode cX7_readStreet 107 = .ok (.getfield 13, 3) := by decide +kernel
theorem dX7_readStreet_110 : decode cX7_readStreet 110 = .ok (.iload_n 1, 1) := by decide +kernel
theorem dX7_readStreet_111 : decode cX7_readStreet 111 = .ok (.iconst 2, 1) := by decide +kernel
theorem dX7_readStreet_112 : decode cX7_readStreet 112 = .ok (.iadd, 1) := by decide +kernel
theorem dX7_readStreet_113 : decode cX7_readStreet 113 = .ok (.aload_n 0, 1) := by decide +kernel
theorem dX7_readStreet_114 : decode cX7_readStreet 114 = .ok (.getfield 106, 3) := by decide +kernel
theorem dX7_readStreet_117 : decode cX7_readStreet 117 = .ok (.iastore, 1) := by decide +kernel
theorem dX7_readStreet_118 : decode cX7_readStreet 118 = .ok (.aload_n 0, 1) := by decide +kernel
theorem dX7_readStreet_119 : decode cX7_readStreet 119 = .ok (.getfield 13, 3) := by decide +kernel
theorem dX7_readStreet_122 : decode cX7_readStreet 122 = .ok (.iconst 1, 1) := by decide +kernel
theorem dX7_readStreet_123 : decode cX7_readStreet 123 = .ok (.dup2, 1) := by decide +kernel
theorem dX7_readStreet_124 : decode cX7_readStreet 124 = .ok (.iaload, 1) := by decide +kernel
theorem dX7_readStreet_125 : decode cX7_readStreet 125 = .ok (.iconst 1, 1) := by decide +kernel
theorem dX7_readStreet_126 : decode cX7_readStreet 126 = .ok (.iadd, 1) := by decide +kernel
theorem dX7_readStreet_127 : decode cX7_readStreet 127 = .ok (.iastore, 1) := by decide +kernel
theorem dX7_readStreet_128 : decode cX7_readStreet 128 = .ok (.aload_n 0, 1) := by decide +kernel
theorem dX7_readStreet_129 : decode cX7_readStreet 129 = .ok (.invokevirtual 135, 3) := by decide +kernel
theorem dX7_readStreet_132 : decode cX7_readStreet 132 = .ok (.ireturn, 1) := by decide +kernel
set_option maxRecDepth 20000 in
theorem ggX7_bits_X7_number : GoodIn wsX7_bits wsX7_number := goodIn_r _ [7, 8, 2, 9, 10, 11, 6, 12, 13, 14, 15, 16, 17, 18, 19, 20, 21, 22, 23, 24, 25, 26, 27, 28, 29, 30, 31, 32, 33, 34, 35, 36, 37, 38, 39, 40, 41, 42, 43, 44, 45, 46, 47, 48, 49, 50, 51, 52, 53, 54, 55, 56, 57, 58, 59, 60, 61, 62, 63, 64, 65, 66, 67, 68, 69, 70, 71] (by decide +kernel) (by decide +kernel)
set_option maxRecDepth 20000 in
theorem gX7_bits_X7_number : GoodIn wsX7_bits (wsV RX7 131 RX7 yX7_number wsX7_number) := goodIn_app (goodIn_of _ (by decide +kernel)) ggX7_bits_X7_number
theorem dX7_bits_0 : decode cX7_bits 0 = .ok (.aload_n 0, 1) := by decide +kernel
theorem dX7_bits_1 : decode cX7_bits 1 = .ok (.iconst 0, 1) := by decide +kernel
theorem dX7_bits_2 : decode cX7_bits 2 = .ok (.bipush 31, 2) := by decide +kernel
theorem dX7_bits_4 : decode cX7_bits 4 = .ok (.invokevirtual 131, 3) := by decide +kernel
theorem dX7_bits_7 : decode cX7_bits 7 = .ok (.ifCond .ne 5, 3) := by decide +kernel
theorem dX7_bits_10 : decode cX7_bits 10 = .ok (.iconst 0, 1) := by decide +kernel
theorem dX7_bits_11 : decode cX7_bits 11 = .ok (.ireturn, 1) := by decide +kernel
theorem dX7_bits_12 : decode cX7_bits 12 = .ok (.aload_n 0, 1) := by decide +kernel
theorem dX7_bits_13 : decode cX7_bits 13 = .ok (.getfield 13, 3) := by decide +kernel
theorem dX7_bits_16 : decode cX7_bits 16 = .ok (.iload_n 1, 1) := by decide +kernel
theorem dX7_bits_17 : decode cX7_bits 17 = .ok (.aload_n 0, 1) := by decide +kernel
theorem dX7_bits_18 : decode cX7_bits 18 = .ok (.getfield 106, 3) := by decide +kernel
theorem dX7_bits_21 : decode cX7_bits 21 = .ok (.iastore, 1) := by decide +kernel
theorem dX7_bits_22 : decode cX7_bits 22 = .ok (.aload_n 0, 1) := by decide +kernel
theorem dX7_bits_23 : decode cX7_bits 23 = .ok (.iconst 0, 1) := by decide +kernel
theorem dX7_bits_24 : decode cX7_bits 24 = .ok (.iload_n 2, 1) := by decide +kernel
theorem dX7_bits_25 : decode cX7_bits 25 = .ok (.invokevirtual 131, 3) := by decide +kernel
theorem dX7_bits_28 : decode cX7_bits 28 = .ok (.ifCond .ne 5, 3) := by decide +kernel
theorem dX7_bits_31 : decode cX7_bits 31 = .ok (.iconst 0, 1) := by decide +kernel
theorem dX7_bits_32 : decode cX7_bits 32 = .ok (.ireturn, 1) := by decide +kernel
theorem dX7_bits_33 : decode cX7_bits 33 = .ok (.aload_n 0, 1) := by decide +kernel
theorem dX7_bits_34 : decode cX7_bits 34 = .ok (.getfield 13, 3) := by decide +kernel
theorem dX7_bits_37 : decode cX7_bits 37 = .ok (.iload_n 1, 1) := by decide +kernel
theorem dX7_bits_38 : decode cX7_bits 38 = .ok (.dup2, 1) := by decide +kernel
theorem dX7_bits_39 : decode cX7_bits 39 = .ok (.iaload, 1) := by decide +kernel
theorem dX7_bits_40 : decode cX7_bits 40 = .ok (.bipush 32, 2) := by decide +kernel
theorem dX7_bits_42 : decode cX7_bits 42 = .ok (.aload_n 0, 1) := by decide +kernel
theorem dX7_bits_43 : decode cX7_bits 43 = .ok (.getfield 106, 3) := by decide +kernel
theorem dX7_bits_46 : decode cX7_bits 46 = .ok (.imul, 1) := by decide +kernel
theorem dX7_bits_47 : decode cX7_bits 47 = .ok (.iadd, 1) := by decide +kernel
theorem dX7_bits_48 : decode cX7_bits 48 = .ok (.iastore, 1) := by decide +kernel
theorem dX7_bits_49 : decode cX7_bits 49 = .ok (.iconst 1, 1) := by decide +kernel
theorem dX7_bits_50 : decode cX7_bits 50 = .ok (.ireturn, 1) := by decide +kernel
set_option maxRecDepth 20000 in
theorem ggX7_readGuide_X7_number : GoodIn wsX7_readGuide wsX7_number := goodIn_r _ [7, 8, 2, 9, 10, 11, 6, 12, 13, 14, 15, 16, 17, 18, 19, 20, 21, 22, 23, 24, 25, 26, 27, 28, 29, 30, 31, 32, 33, 34, 35, 36, 37, 46, 47, 48, 49, 50, 51, 52, 53, 54, 55, 56, 57, 58, 59, 60, 61, 62, 63, 64, 65, 66, 67, 68, 69, 70, 71, 72, 73, 74, 75, 76, 77, 78, 79] (by decide +kernel) (by decide +kernel)
set_option maxRecDepth 20000 in
theorem gX7_readGuide_X7_number : GoodIn wsX7_readGuide (wsV RX7 131 RX7 yX7_number wsX7_number) := goodIn_app (goodIn_of _ (by decide +kernel)) ggX7_readGuide_X7_number
set_option maxRecDepth 20000 in
theorem ggX7_readGuide_X7_bits : GoodIn wsX7_readGuide wsX7_bits := goodIn_r _ [41, 1, 2, 3, 4, 5, 6, 7, 8, 9, 10, 11, 12, 13, 14, 15, 16, 17, 18, 19, 20, 21, 22, 23, 24, 25, 26, 27, 28, 29, 30, 31, 32, 33, 34, 35, 36, 37, 46, 47, 48, 49, 50, 51, 52, 53, 54, 55, 56, 57, 58, 59, 60, 61, 62, 63, 64, 65, 66, 67, 68, 69, 70, 71, 72, 73, 74, 75, 76, 77, 78, 79] (by decide +kernel) (by decide +kernel)
set_option maxRecDepth 20000 in
theorem gX7_readGuide_X7_bits : GoodIn wsX7_readGuide (wsV RX7 139 RX7 yX7_bits wsX7_bits) := goodIn_app (goodIn_of _ (by decide +kernel)) ggX7_readGuide_X7_bits
set_option maxRecDepth 20000 in
theorem ggX7_readGuide_X7_ends : GoodIn wsX7_readGuide wsX7_ends := goodIn_r _ [45, 8, 9, 10, 11, 6, 12, 13, 14, 15, 16, 17, 18, 19, 20, 21, 22, 23, 24, 25, 26, 27, 28, 2, 29, 30, 31, 32, 33, 34, 35, 36, 37, 46, 47, 48, 49, 50, 51, 52, 53, 54, 55, 56, 57, 58, 59, 60, 61, 62, 63, 64, 65, 66, 67, 68, 69, 70, 71, 72, 73, 74, 75, 76, 77, 78, 79] (by decide +kernel) (by decide +kernel)
set_option maxRecDepth 20000 in
theorem gX7_readGuide_X7_ends : GoodIn wsX7_readGuide (wsV RX7 135 RX7 yX7_ends wsX7_ends) := goodIn_app (goodIn_of _ (by decide +kernel)) ggX7_readGuide_X7_ends
theorem dX7_readGuide_0 : decode cX7_readGuide 0 = .ok (.bipush 40, 2) := by decide +kernel
theorem dX7_readGuide_2 : decode cX7_readGuide 2 = .ok (.iconst 4, 1) := by decide +kernel
theorem dX7_readGuide_3 : decode cX7_readGuide 3 = .ok (.aload_n 0, 1) := by decide +kernel
theorem dX7_readGuide_4 : decode cX7_readGuide 4 = .ok (.getfield 13, 3) := by decide +kernel
theorem dX7_readGuide_7 : decode cX7_readGuide 7 = .ok (.iconst 2, 1) := by decide +kernel
theorem dX7_readGuide_8 : decode cX7_readGuide 8 = .ok (.iaload, 1) := by decide +kernel
theorem dX7_readGuide_9 : decode cX7_readGuide 9 = .ok (.imul, 1) := by decide +kernel
theorem dX7_readGuide_10 : decode cX7_readGuide 10 = .ok (.iadd, 1) := by decide +kernel
theorem dX7_readGuide_11 : decode cX7_readGuide 11 = .ok (.istore_n 1, 1) := by decide +kernel
theorem dX7_readGuide_12 : decode cX7_readGuide 12 = .ok (.aload_n 0, 1) := by decide +kernel
theorem dX7_readGuide_13 : decode cX7_readGuide 13 = .ok (.getfield 13, 3) := by decide +kernel
theorem dX7_readGuide_16 : decode cX7_readGuide 16 = .ok (.iconst 2, 1) := by decide +kernel
theorem dX7_readGuide_17 : decode cX7_readGuide 17 = .ok (.iaload, 1) := by decide +kernel
theorem dX7_readGuide_18 : decode cX7_readGuide 18 = .ok (.iconst 4, 1) := by decide +kernel
theorem dX7_readGuide_19 : decode cX7_readGuide 19 = .ok (.if_icmp .eq 12, 3) := by decide +kernel
theorem dX7_readGuide_22 : decode cX7_readGuide 22 = .ok (.aload_n 0, 1) := by decide +kernel
theorem dX7_readGuide_23 : decode cX7_readGuide 23 = .ok (.iconst 0, 1) := by decide +kernel
theorem dX7_readGuide_24 : decode cX7_readGuide 24 = .ok (.iconst 5, 1) := by decide +kernel
theorem dX7_readGuide_25 : decode cX7_readGuide 25 = .ok (.invokevirtual 131, 3) := by decide +kernel
theorem dX7_readGuide_28 : decode cX7_readGuide 28 = .ok (.ifCond .ne 5, 3) := by decide +kernel
theorem dX7_readGuide_31 : decode cX7_readGuide 31 = .ok (.iconst 0, 1) := by decide +kernel
theorem dX7_readGuide_32 : decode cX7_readGuide 32 = .ok (.ireturn, 1) := by decide +kernel
theorem dX7_readGuide_33 : decode cX7_readGuide 33 = .ok (.aload_n 0, 1) := by decide +kernel
theorem dX7_readGuide_34 : decode cX7_readGuide 34 = .ok (.getfield 13, 3) := by decide +kernel
theorem dX7_readGuide_37 : decode cX7_readGuide 37 = .ok (.iload_n 1, 1) := by decide +kernel
theorem dX7_readGuide_38 : decode cX7_readGuide 38 = .ok (.aload_n 0, 1) := by decide +kernel
theorem dX7_readGuide_39 : decode cX7_readGuide 39 = .ok (.getfield 106, 3) := by decide +kernel
theorem dX7_readGuide_42 : decode cX7_readGuide 42 = .ok (.iastore, 1) := by decide +kernel
theorem dX7_readGuide_43 : decode cX7_readGuide 43 = .ok (.aload_n 0, 1) := by decide +kernel
theorem dX7_readGuide_44 : decode cX7_readGuide 44 = .ok (.iconst 0, 1) := by decide +kernel
theorem dX7_readGuide_45 : decode cX7_readGuide 45 = .ok (.bipush 9, 2) := by decide +kernel
theorem dX7_readGuide_47 : decode cX7_readGuide 47 = .ok (.invokevirtual 131, 3) := by decide +kernel
theorem dX7_readGuide_50 : decode cX7_readGuide 50 = .ok (.ifCond .ne 5, 3) := by decide +kernel
theorem dX7_readGuide_53 : decode cX7_readGuide 53 = .ok (.iconst 0, 1) := by decide +kernel
theorem dX7_readGuide_54 : decode cX7_readGuide 54 = .ok (.ireturn, 1) := by decide +kernel
theorem dX7_readGuide_55 : decode cX7_readGuide 55 = .ok (.aload_n 0, 1) := by decide +kernel
theorem dX7_readGuide_56 : decode cX7_readGuide 56 = .ok (.getfield 13, 3) := by decide +kernel
theorem dX7_readGuide_59 : decode cX7_readGuide 59 = .ok (.iload_n 1, 1) := by decide +kernel
theorem dX7_readGuide_60 : decode cX7_readGuide 60 = .ok (.iconst 1, 1) := by decide +kernel
theorem dX7_readGuide_61 : decode cX7_readGuide 61 = .ok (.iadd, 1) := by decide +kernel
theorem dX7_readGuide_62 : decode cX7_readGuide 62 = .ok (.aload_n 0, 1) := by decide +kernel
theorem dX7_readGuide_63 : decode cX7_readGuide 63 = .ok (.getfield 106, 3) := by decide +kernel
theorem dX7_readGuide_66 : decode cX7_readGuide 66 = .ok (.iastore, 1) := by decide +kernel
theorem dX7_readGuide_67 : decode cX7_readGuide 67 = .ok (.aload_n 0, 1) := by decide +kernel
theorem dX7_readGuide_68 : decode cX7_readGuide 68 = .ok (.iload_n 1, 1) := by decide +kernel
theorem dX7_readGuide_69 : decode cX7_readGuide 69 = .ok (.iconst 2, 1) := by decide +kernel
theorem dX7_readGuide_70 : decode cX7_readGuide 70 = .ok (.iadd, 1) := by decide +kernel
theorem dX7_readGuide_71 : decode cX7_readGuide 71 = .ok (.bipush 15, 2) := by decide +kernel
theorem dX7_readGuide_73 : decode cX7_readGuide 73 = .ok (.invokevirtual 139, 3) := by decide +kernel
theorem dX7_readGuide_76 : decode cX7_readGuide 76 = .ok (.ifCond .eq 14, 3) := by decide +kernel
theorem dX7_readGuide_79 : decode cX7_readGuide 79 = .ok (.aload_n 0, 1) := by decide +kernel
theorem dX7_readGuide_80 : decode cX7_readGuide 80 = .ok (.iload_n 1, 1) := by decide +kernel
theorem dX7_readGuide_81 : decode cX7_readGuide 81 = .ok (.iconst 3, 1) := by decide +kernel
theorem dX7_readGuide_82 : decode cX7_readGuide 82 = .ok (.iadd, 1) := by decide +kernel
theorem dX7_readGuide_83 : decode cX7_readGuide 83 = .ok (.iconst 3, 1) := by decide +kernel
theorem dX7_readGuide_84 : decode cX7_readGuide 84 = .ok (.invokevirtual 139, 3) := by decide +kernel
theorem dX7_readGuide_87 : decode cX7_readGuide 87 = .ok (.ifCond .ne 5, 3) := by decide +kernel
theorem dX7_readGuide_90 : decode cX7_readGuide 90 = .ok (.iconst 0, 1) := by decide +kernel
theorem dX7_readGuide_91 : decode cX7_readGuide 91 = .ok (.ireturn, 1) := by decide +kernel
theorem dX7_readGuide_92 : decode cX7_readGuide 92 = .ok (.aload_n 0, 1) := by decide +kernel
theorem dX7_readGuide_93 : decode cX7_readGuide 93 = .ok (.getfield 13, 3) := by decide +kernel
theorem dX7_readGuide_96 : decode cX7_readGuide 96 = .ok (.iconst 2, 1) := by decide +kernel
theorem dX7_readGuide_97 : decode cX7_readGuide 97 = .ok (.dup2, 1) := by decide +kernel
theorem dX7_readGuide_98 : decode cX7_readGuide 98 = .ok (.iaload, 1) := by decide +kernel
theorem dX7_readGuide_99 : decode cX7_readGuide 99 = .ok (.iconst 1, 1) := by decide +kernel
theorem dX7_readGuide_100 : decode cX7_readGuide 100 = .ok (.iadd, 1) := by decide +kernel
theorem dX7_readGuide_101 : decode cX7_readGuide 101 = .ok (.iastore, 1) := by decide +kernel
theorem dX7_readGuide_102 : decode cX7_readGuide 102 = .ok (.aload_n 0, 1) := by decide +kernel
theorem dX7_readGuide_103 : decode cX7_readGuide 103 = .ok (.invokevirtual 135, 3) := by decide +kernel
theorem dX7_readGuide_106 : decode cX7_readGuide 106 = .ok (.ireturn, 1) := by decide +kernel
set_option maxRecDepth 20000 in
theorem ggX7_readFog_X7_number : GoodIn wsX7_readFog wsX7_number := goodIn_r _ [8, 2, 3, 9, 10, 11, 7, 12, 13, 14, 15, 16, 17, 18, 19, 20, 21, 22, 23, 24, 25, 26, 27, 28, 29, 30, 31, 32, 33, 34, 35, 36, 37, 38, 39, 40, 41, 42, 43, 44, 45, 46, 47, 48, 49, 50, 51, 52, 53, 54, 55, 56, 57, 58, 59, 60, 61, 62, 63, 64, 65, 66, 67, 68, 69, 70, 71] (by decide +kernel) (by decide +kernel)
set_option maxRecDepth 20000 in
theorem gX7_readFog_X7_number : GoodIn wsX7_readFog (wsV RX7 131 RX7 yX7_number wsX7_number) := goodIn_app (goodIn_of _ (by decide +kernel)) ggX7_readFog_X7_number
set_option maxRecDepth 20000 in
theorem ggX7_readFog_X7_reads : GoodIn wsX7_readFog wsX7_reads := goodIn_r _ [12, 13, 14, 15, 16, 2, 17, 18, 7, 19, 20, 21, 22, 23, 24, 25, 26, 27, 28, 3, 29, 30, 31, 32, 33, 34, 35, 36, 37, 38, 39, 40, 41, 42, 43, 44, 45, 46, 47, 48, 49, 50, 51, 52, 53, 54, 55, 56, 57, 58, 59, 60, 61, 62, 63, 64, 65, 66, 67, 68, 69, 70, 71] (by decide +kernel) (by decide +kernel)
set_option maxRecDepth 20000 in
theorem gX7_readFog_X7_reads : GoodIn wsX7_readFog (wsV RX7 128 RX7 yX7_reads wsX7_reads) := goodIn_app (goodIn_of _ (by decide +kernel)) ggX7_readFog_X7_reads
theorem dX7_readFog_0 : decode cX7_readFog 0 = .ok (.aload_n 0, 1) := by decide +kernel
theorem dX7_readFog_1 : decode cX7_readFog 1 = .ok (.getfield 13, 3) := by decide +kernel
theorem dX7_readFog_4 : decode cX7_readFog 4 = .ok (.iconst 4, 1) := by decide +kernel
theorem dX7_readFog_5 : decode cX7_readFog 5 = .ok (.iaload, 1) := by decide +kernel
theorem dX7_readFog_6 : decode cX7_readFog 6 = .ok (.ifCond .gt 12, 3) := by decide +kernel
theorem dX7_readFog_9 : decode cX7_readFog 9 = .ok (.aload_n 0, 1) := by decide +kernel
theorem dX7_readFog_10 : decode cX7_readFog 10 = .ok (.iconst 0, 1) := by decide +kernel
theorem dX7_readFog_11 : decode cX7_readFog 11 = .ok (.iconst 1, 1) := by decide +kernel
theorem dX7_readFog_12 : decode cX7_readFog 12 = .ok (.invokevirtual 131, 3) := by decide +kernel
theorem dX7_readFog_15 : decode cX7_readFog 15 = .ok (.ifCond .ne 5, 3) := by decide +kernel
theorem dX7_readFog_18 : decode cX7_readFog 18 = .ok (.iconst 0, 1) := by decide +kernel
theorem dX7_readFog_19 : decode cX7_readFog 19 = .ok (.ireturn, 1) := by decide +kernel
theorem dX7_readFog_20 : decode cX7_readFog 20 = .ok (.aload_n 0, 1) := by decide +kernel
theorem dX7_readFog_21 : decode cX7_readFog 21 = .ok (.getfield 116, 3) := by decide +kernel
theorem dX7_readFog_24 : decode cX7_readFog 24 = .ok (.iconst 2, 1) := by decide +kernel
theorem dX7_readFog_25 : decode cX7_readFog 25 = .ok (.if_icmp .ne 59, 3) := by decide +kernel
theorem dX7_readFog_28 : decode cX7_readFog 28 = .ok (.aload_n 0, 1) := by decide +kernel
theorem dX7_readFog_29 : decode cX7_readFog 29 = .ok (.getfield 13, 3) := by decide +kernel
theorem dX7_readFog_32 : decode cX7_readFog 32 = .ok (.iconst 4, 1) := by decide +kernel
theorem dX7_readFog_33 : decode cX7_readFog 33 = .ok (.iaload, 1) := by decide +kernel
theorem dX7_readFog_34 : decode cX7_readFog 34 = .ok (.bipush 8, 2) := by decide +kernel
theorem dX7_readFog_36 : decode cX7_readFog 36 = .ok (.if_icmp .eq 11, 3) := by decide +kernel
theorem dX7_readFog_39 : decode cX7_readFog 39 = .ok (.aload_n 0, 1) := by decide +kernel
theorem dX7_readFog_40 : decode cX7_readFog 40 = .ok (.getfield 106, 3) := by decide +kernel
theorem dX7_readFog_43 : decode cX7_readFog 43 = .ok (.iconst 1, 1) := by decide +kernel
theorem dX7_readFog_44 : decode cX7_readFog 44 = .ok (.if_icmp .le 5, 3) := by decide +kernel
theorem dX7_readFog_47 : decode cX7_readFog 47 = .ok (.iconst 0, 1) := by decide +kernel
theorem dX7_readFog_48 : decode cX7_readFog 48 = .ok (.ireturn, 1) := by decide +kernel
theorem dX7_readFog_49 : decode cX7_readFog 49 = .ok (.aload_n 0, 1) := by decide +kernel
theorem dX7_readFog_50 : decode cX7_readFog 50 = .ok (.getfield 13, 3) := by decide +kernel
theorem dX7_readFog_53 : decode cX7_readFog 53 = .ok (.bipush 56, 2) := by decide +kernel
theorem dX7_readFog_55 : decode cX7_readFog 55 = .ok (.aload_n 0, 1) := by decide +kernel
theorem dX7_readFog_56 : decode cX7_readFog 56 = .ok (.getfield 13, 3) := by decide +kernel
theorem dX7_readFog_59 : decode cX7_readFog 59 = .ok (.iconst 4, 1) := by decide +kernel
theorem dX7_readFog_60 : decode cX7_readFog 60 = .ok (.iaload, 1) := by decide +kernel
theorem dX7_readFog_61 : decode cX7_readFog 61 = .ok (.iadd, 1) := by decide +kernel
theorem dX7_readFog_62 : decode cX7_readFog 62 = .ok (.aload_n 0, 1) := by decide +kernel
theorem dX7_readFog_63 : decode cX7_readFog 63 = .ok (.getfield 106, 3) := by decide +kernel
theorem dX7_readFog_66 : decode cX7_readFog 66 = .ok (.iastore, 1) := by decide +kernel
theorem dX7_readFog_67 : decode cX7_readFog 67 = .ok (.aload_n 0, 1) := by decide +kernel
theorem dX7_readFog_68 : decode cX7_readFog 68 = .ok (.getfield 13, 3) := by decide +kernel
theorem dX7_readFog_71 : decode cX7_readFog 71 = .ok (.iconst 4, 1) := by decide +kernel
theorem dX7_readFog_72 : decode cX7_readFog 72 = .ok (.dup2, 1) := by decide +kernel
theorem dX7_readFog_73 : decode cX7_readFog 73 = .ok (.iaload, 1) := by decide +kernel
theorem dX7_readFog_74 : decode cX7_readFog 74 = .ok (.iconst 1, 1) := by decide +kernel
theorem dX7_readFog_75 : decode cX7_readFog 75 = .ok (.iadd, 1) := by decide +kernel
theorem dX7_readFog_76 : decode cX7_readFog 76 = .ok (.iastore, 1) := by decide +kernel
theorem dX7_readFog_77 : decode cX7_readFog 77 = .ok (.aload_n 0, 1) := by decide +kernel
theorem dX7_readFog_78 : decode cX7_readFog 78 = .ok (.invokevirtual 128, 3) := by decide +kernel
theorem dX7_readFog_81 : decode cX7_readFog 81 = .ok (.goto (-61), 3) := by decide +kernel
theorem dX7_readFog_84 : decode cX7_readFog 84 = .ok (.aload_n 0, 1) := by decide +kernel
theorem dX7_readFog_85 : decode cX7_readFog 85 = .ok (.getfield 116, 3) := by decide +kernel
theorem dX7_readFog_88 : decode cX7_readFog 88 = .ok (.iconst 3, 1) := by decide +kernel
theorem dX7_readFog_89 : decode cX7_readFog 89 = .ok (.if_icmp .ne 7, 3) := by decide +kernel
theorem dX7_readFog_92 : decode cX7_readFog 92 = .ok (.iconst 1, 1) := by decide +kernel
theorem dX7_readFog_93 : decode cX7_readFog 93 = .ok (.goto 4, 3) := by decide +kernel
theorem dX7_readFog_96 : decode cX7_readFog 96 = .ok (.iconst 0, 1) := by decide +kernel
theorem dX7_readFog_97 : decode cX7_readFog 97 = .ok (.ireturn, 1) := by decide +kernel
set_option maxRecDepth 20000 in
theorem ggX7_readItem_X7_readCorner : GoodIn wsX7_readItem wsX7_readCorner := goodIn_r _ [8, 3, 2, 9, 10, 11, 7, 12, 1, 13, 14, 15, 16, 17, 18, 19, 20, 21, 22, 23, 24, 25, 26, 27, 28, 29, 30, 31, 32, 33, 34, 35, 36, 37, 38, 39, 40, 41, 42, 43, 44, 45, 62, 63, 64, 65, 66, 67, 68, 69, 70, 71, 72, 73, 74, 75, 76, 77, 78, 79, 80, 81, 82, 83, 84, 85, 86, 87, 88, 89, 90, 91, 92, 93, 94, 95] (by decide +kernel) (by decide +kernel)
set_option maxRecDepth 20000 in
theorem gX7_readItem_X7_readCorner : GoodIn wsX7_readItem (wsV RX7 142 RX7 yX7_readCorner wsX7_readCorner) := goodIn_app (goodIn_of _ (by decide +kernel)) ggX7_readItem_X7_readCorner
set_option maxRecDepth 20000 in
theorem ggX7_readItem_X7_readStreet : GoodIn wsX7_readItem wsX7_readStreet := goodIn_r _ [49, 3, 2, 9, 10, 11, 7, 12, 1, 13, 14, 15, 16, 17, 18, 19, 20, 21, 22, 23, 24, 25, 26, 27, 28, 29, 30, 31, 32, 33, 34, 35, 36, 37, 38, 39, 40, 41, 42, 43, 44, 45, 62, 63, 64, 65, 66, 67, 68, 69, 70, 71, 72, 73, 74, 75, 76, 77, 78, 79, 80, 81, 82, 83, 84, 85, 86, 87, 88, 89, 90, 91, 92, 93, 94, 95] (by decide +kernel) (by decide +kernel)
set_option maxRecDepth 20000 in
theorem gX7_readItem_X7_readStreet : GoodIn wsX7_readItem (wsV RX7 145 RX7 yX7_readStreet wsX7_readStreet) := goodIn_app (goodIn_of _ (by decide +kernel)) ggX7_readItem_X7_readStreet
set_option maxRecDepth 20000 in
theorem ggX7_readItem_X7_readGuide : GoodIn wsX7_readItem wsX7_readGuide := goodIn_r _ [53, 3, 2, 9, 10, 11, 7, 12, 1, 13, 14, 15, 16, 17, 18, 19, 20, 21, 22, 23, 24, 25, 26, 27, 28, 29, 30, 31, 32, 33, 34, 35, 36, 37, 38, 39, 40, 41, 54, 55, 56, 57, 42, 43, 44, 45, 62, 63, 64, 65, 66, 67, 68, 69, 70, 71, 72, 73, 74, 75, 76, 77, 78, 79, 80, 81, 82, 83, 84, 85, 86, 87, 88, 89, 90, 91, 92, 93, 94, 95] (by decide +kernel) (by decide +kernel)
set_option maxRecDepth 20000 in
theorem gX7_readItem_X7_readGuide : GoodIn wsX7_readItem (wsV RX7 148 RX7 yX7_readGuide wsX7_readGuide) := goodIn_app (goodIn_of _ (by decide +kernel)) ggX7_readItem_X7_readGuide
set_option maxRecDepth 20000 in
theorem ggX7_readItem_X7_readFog : GoodIn wsX7_readItem wsX7_readFog := goodIn_r _ [61, 3, 1, 2, 9, 10, 11, 7, 12, 13, 14, 15, 16, 17, 18, 19, 20, 21, 22, 23, 24, 25, 26, 27, 28, 29, 30, 31, 32, 33, 34, 35, 36, 37, 38, 39, 40, 41, 62, 63, 64, 65, 66, 67, 68, 69, 70, 71, 72, 73, 74, 75, 76, 77, 78, 79, 80, 81, 82, 83, 84, 85, 86, 87, 88, 89, 90, 91, 92, 93, 94, 95] (by decide +kernel) (by decide +kernel)
set_option maxRecDepth 20000 in
theorem gX7_readItem_X7_readFog : GoodIn wsX7_readItem (wsV RX7 151 RX7 yX7_readFog wsX7_readFog) := goodIn_app (goodIn_of _ (by decide +kernel)) ggX7_readItem_X7_readFog
set_option maxRecDepth 20000 in
theorem ggX7_readItem_X7_number : GoodIn wsX7_readItem wsX7_number := goodIn_r _ [12, 1, 2, 13, 14, 15, 7, 16, 17, 18, 19, 20, 21, 22, 23, 24, 25, 26, 27, 28, 29, 30, 31, 32, 33, 34, 35, 36, 37, 38, 39, 40, 41, 62, 63, 64, 65, 66, 67, 68, 69, 70, 71, 72, 73, 74, 75, 76, 77, 78, 79, 80, 81, 82, 83, 84, 85, 86, 87, 88, 89, 90, 91, 92, 93, 94, 95] (by decide +kernel) (by decide +kernel)
set_option maxRecDepth 20000 in
theorem gX7_readItem_X7_number : GoodIn wsX7_readItem (wsV RX7 131 RX7 yX7_number wsX7_number) := goodIn_app (goodIn_of _ (by decide +kernel)) ggX7_readItem_X7_number
set_option maxRecDepth 20000 in
theorem ggX7_readItem_X7_ends : GoodIn wsX7_readItem wsX7_ends := goodIn_r _ [45, 1, 13, 14, 15, 7, 16, 17, 18, 19, 20, 21, 22, 23, 24, 25, 26, 27, 28, 29, 30, 31, 32, 2, 33, 34, 35, 36, 37, 38, 39, 40, 41, 62, 63, 64, 65, 66, 67, 68, 69, 70, 71, 72, 73, 74, 75, 76, 77, 78, 79, 80, 81, 82, 83, 84, 85, 86, 87, 88, 89, 90, 91, 92, 93, 94, 95] (by decide +kernel) (by decide +kernel)
set_option maxRecDepth 20000 in
theorem gX7_readItem_X7_ends : GoodIn wsX7_readItem (wsV RX7 135 RX7 yX7_ends wsX7_ends) := goodIn_app (goodIn_of _ (by decide +kernel)) ggX7_readItem_X7_ends
theorem dX7_readItem_0 : decode cX7_readItem 0 = .ok (.aload_n 0, 1) := by decide +kernel
theorem dX7_readItem_1 : decode cX7_readItem 1 = .ok (.getfield 116, 3) := by decide +kernel
theorem dX7_readItem_4 : decode cX7_readItem 4 = .ok (.iconst 1, 1) := by decide +kernel
theorem dX7_readItem_5 : decode cX7_readItem 5 = .ok (.if_icmp .eq 5, 3) := by decide +kernel
theorem dX7_readItem_8 : decode cX7_readItem 8 = .ok (.iconst 0, 1) := by decide +kernel
theorem dX7_readItem_9 : decode cX7_readItem 9 = .ok (.ireturn, 1) := by decide +kernel
theorem dX7_readItem_10 : decode cX7_readItem 10 = .ok (.aload_n 0, 1) := by decide +kernel
theorem dX7_readItem_11 : decode cX7_readItem 11 = .ok (.getfield 106, 3) := by decide +kernel
theorem dX7_readItem_14 : decode cX7_readItem 14 = .ok (.lookupswitch 62 #[(99, 42), (102, 57), (103, 52), (115, 47)], 42) := by decide +kernel
theorem dX7_readItem_56 : decode cX7_readItem 56 = .ok (.aload_n 0, 1) := by decide +kernel
theorem dX7_readItem_57 : decode cX7_readItem 57 = .ok (.invokevirtual 142, 3) := by decide +kernel
theorem dX7_readItem_60 : decode cX7_readItem 60 = .ok (.ireturn, 1) := by decide +kernel
theorem dX7_readItem_61 : decode cX7_readItem 61 = .ok (.aload_n 0, 1) := by decide +kernel
theorem dX7_readItem_62 : decode cX7_readItem 62 = .ok (.invokevirtual 145, 3) := by decide +kernel
theorem dX7_readItem_65 : decode cX7_readItem 65 = .ok (.ireturn, 1) := by decide +kernel
theorem dX7_readItem_66 : decode cX7_readItem 66 = .ok (.aload_n 0, 1) := by decide +kernel
theorem dX7_readItem_67 : decode cX7_readItem 67 = .ok (.invokevirtual 148, 3) := by decide +kernel
theorem dX7_readItem_70 : decode cX7_readItem 70 = .ok (.ireturn, 1) := by decide +kernel
theorem dX7_readItem_71 : decode cX7_readItem 71 = .ok (.aload_n 0, 1) := by decide +kernel
theorem dX7_readItem_72 : decode cX7_readItem 72 = .ok (.invokevirtual 151, 3) := by decide +kernel
theorem dX7_readItem_75 : decode cX7_readItem 75 = .ok (.ireturn, 1) := by decide +kernel
theorem dX7_readItem_76 : decode cX7_readItem 76 = .ok (.aload_n 0, 1) := by decide +kernel
theorem dX7_readItem_77 : decode cX7_readItem 77 = .ok (.getfield 13, 3) := by decide +kernel
theorem dX7_readItem_80 : decode cX7_readItem 80 = .ok (.iconst 5, 1) := by decide +kernel
theorem dX7_readItem_81 : decode cX7_readItem 81 = .ok (.iaload, 1) := by decide +kernel
theorem dX7_readItem_82 : decode cX7_readItem 82 = .ok (.iconst 1, 1) := by decide +kernel
theorem dX7_readItem_83 : decode cX7_readItem 83 = .ok (.if_icmp .eq 13, 3) := by decide +kernel
theorem dX7_readItem_86 : decode cX7_readItem 86 = .ok (.aload_n 0, 1) := by decide +kernel
theorem dX7_readItem_87 : decode cX7_readItem 87 = .ok (.iconst 0, 1) := by decide +kernel
theorem dX7_readItem_88 : decode cX7_readItem 88 = .ok (.bipush 9, 2) := by decide +kernel
theorem dX7_readItem_90 : decode cX7_readItem 90 = .ok (.invokevirtual 131, 3) := by decide +kernel
theorem dX7_readItem_93 : decode cX7_readItem 93 = .ok (.ifCond .ne 5, 3) := by decide +kernel
theorem dX7_readItem_96 : decode cX7_readItem 96 = .ok (.iconst 0, 1) := by decide +kernel
theorem dX7_readItem_97 : decode cX7_readItem 97 = .ok (.ireturn, 1) := by decide +kernel
theorem dX7_readItem_98 : decode cX7_readItem 98 = .ok (.aload_n 0, 1) := by decide +kernel
theorem dX7_readItem_99 : decode cX7_readItem 99 = .ok (.getfield 13, 3) := by decide +kernel
theorem dX7_readItem_102 : decode cX7_readItem 102 = .ok (.iconst 5, 1) := by decide +kernel
theorem dX7_readItem_103 : decode cX7_readItem 103 = .ok (.iconst 1, 1) := by decide +kernel
theorem dX7_readItem_104 : decode cX7_readItem 104 = .ok (.iastore, 1) := by decide +kernel
theorem dX7_readItem_105 : decode cX7_readItem 105 = .ok (.aload_n 0, 1) := by decide +kernel
theorem dX7_readItem_106 : decode cX7_readItem 106 = .ok (.getfield 13, 3) := by decide +kernel
theorem dX7_readItem_109 : decode cX7_readItem 109 = .ok (.iconst 3, 1) := by decide +kernel
theorem dX7_readItem_110 : decode cX7_readItem 110 = .ok (.aload_n 0, 1) := by decide +kernel
theorem dX7_readItem_111 : decode cX7_readItem 111 = .ok (.getfield 106, 3) := by decide +kernel
theorem dX7_readItem_114 : decode cX7_readItem 114 = .ok (.iastore, 1) := by decide +kernel
theorem dX7_readItem_115 : decode cX7_readItem 115 = .ok (.aload_n 0, 1) := by decide +kernel
theorem dX7_readItem_116 : decode cX7_readItem 116 = .ok (.invokevirtual 135, 3) := by decide +kernel
theorem dX7_readItem_119 : decode cX7_readItem 119 = .ok (.ireturn, 1) := by decide +kernel
set_option maxRecDepth 20000 in
theorem ggX7_town_X7_plain : GoodIn wsX7_town wsX7_plain := goodIn_r _ [9, 10, 81, 82, 83, 84, 85, 86, 87, 88, 89, 90, 91, 92, 93, 94, 95, 96, 97, 98, 99, 100, 101, 102, 103, 104, 105, 106, 107, 108, 109, 110, 111, 112, 113, 114] (by decide +kernel) (by decide +kernel)
set_option maxRecDepth 20000 in
theorem gX7_town_X7_plain : GoodIn wsX7_town (wsV RX7 79 RX7 yX7_plain wsX7_plain) := goodIn_app (goodIn_of _ (by decide +kernel)) ggX7_town_X7_plain
set_option maxRecDepth 20000 in
theorem ggX7_town_X7_reads : GoodIn wsX7_town wsX7_reads := goodIn_r _ [14, 1, 4, 15, 3, 2, 16, 17, 8, 18, 19, 20, 21, 22, 23, 24, 25, 26, 27, 28, 29, 30, 31, 32, 33, 34, 35, 36, 37, 81, 82, 83, 84, 85, 86, 87, 88, 89, 90, 91, 92, 93, 94, 95, 96, 97, 98, 99, 100, 101, 102, 103, 104, 105, 106, 107, 108, 109, 110, 111, 112, 113, 114] (by decide +kernel) (by decide +kernel)
set_option maxRecDepth 20000 in
theorem gX7_town_X7_reads : GoodIn wsX7_town (wsV RX7 128 RX7 yX7_reads wsX7_reads) := goodIn_app (goodIn_of _ (by decide +kernel)) ggX7_town_X7_reads
set_option maxRecDepth 20000 in
theorem ggX7_town_X7_readItem : GoodIn wsX7_town wsX7_readItem := goodIn_r _ [41, 2, 28, 10, 42, 43, 44, 8, 45, 46, 47, 48, 49, 11, 12, 13, 14, 1, 4, 15, 3, 16, 17, 18, 19, 20, 21, 22, 23, 24, 25, 26, 27, 29, 30, 31, 32, 33, 34, 35, 36, 37, 50, 51, 52, 53, 54, 55, 56, 57, 58, 59, 60, 61, 62, 63, 64, 65, 66, 67, 68, 69, 81, 82, 83, 84, 85, 86, 87, 88, 89, 90, 91, 92, 93, 94, 95, 96, 97, 98, 99, 100, 101, 102, 103, 104, 105, 106, 107, 108, 109, 110, 111, 112, 113, 114] (by decide +kernel) (by decide +kernel)
set_option maxRecDepth 20000 in
theorem gX7_town_X7_readItem : GoodIn wsX7_town (wsV RX7 154 RX7 yX7_readItem wsX7_readItem) := goodIn_app (goodIn_of _ (by decide +kernel)) ggX7_town_X7_readItem
set_option maxRecDepth 20000 in
theorem ggX7_town_X7_takes : GoodIn wsX7_town wsX7_takes := goodIn_r _ [73, 74, 10, 75, 76, 77, 78, 79, 80, 81, 82, 83, 84, 85, 86, 87, 88, 89, 90, 91, 92, 93, 94, 95, 96, 97, 98, 99, 100, 101, 102, 103, 104, 105, 106, 107, 108, 109, 110, 111, 112, 113, 114] (by decide +kernel) (by decide +kernel)
set_option maxRecDepth 20000 in
theorem gX7_town_X7_takes : GoodIn wsX7_town (wsV RX7 82 RX7 yX7_takes wsX7_takes) := goodIn_app (goodIn_of _ (by decide +kernel)) ggX7_town_X7_takes
theorem dX7_town_0 : decode cX7_town 0 = .ok (.aload_n 0, 1) := by decide +kernel
theorem dX7_town_1 : decode cX7_town 1 = .ok (.invokevirtual 79, 3) := by decide +kernel
theorem dX7_town_4 : decode cX7_town 4 = .ok (.aload_n 0, 1) := by decide +kernel
theorem dX7_town_5 : decode cX7_town 5 = .ok (.iconst 0, 1) := by decide +kernel
theorem dX7_town_6 : decode cX7_town 6 = .ok (.putfield 103, 3) := by decide +kernel
theorem dX7_town_9 : decode cX7_town 9 = .ok (.iconst 0, 1) := by decide +kernel
theorem dX7_town_10 : decode cX7_town 10 = .ok (.istore_n 1, 1) := by decide +kernel
theorem dX7_town_11 : decode cX7_town 11 = .ok (.aload_n 0, 1) := by decide +kernel
theorem dX7_town_12 : decode cX7_town 12 = .ok (.invokevirtual 128, 3) := by decide +kernel
theorem dX7_town_15 : decode cX7_town 15 = .ok (.aload_n 0, 1) := by decide +kernel
theorem dX7_town_16 : decode cX7_town 16 = .ok (.getfield 116, 3) := by decide +kernel
theorem dX7_town_19 : decode cX7_town 19 = .ok (.ifCond .eq 28, 3) := by decide +kernel
theorem dX7_town_22 : decode cX7_town 22 = .ok (.aload_n 0, 1) := by decide +kernel
theorem dX7_town_23 : decode cX7_town 23 = .ok (.invokevirtual 154, 3) := by decide +kernel
theorem dX7_town_26 : decode cX7_town 26 = .ok (.ifCond .ne 11, 3) := by decide +kernel
theorem dX7_town_29 : decode cX7_town 29 = .ok (.bipush (-10), 2) := by decide +kernel
theorem dX7_town_31 : decode cX7_town 31 = .ok (.aload_n 0, 1) := by decide +kernel
theorem dX7_town_32 : decode cX7_town 32 = .ok (.getfield 113, 3) := by decide +kernel
theorem dX7_town_35 : decode cX7_town 35 = .ok (.isub, 1) := by decide +kernel
theorem dX7_town_36 : decode cX7_town 36 = .ok (.ireturn, 1) := by decide +kernel
theorem dX7_town_37 : decode cX7_town 37 = .ok (.iinc 1 1, 3) := by decide +kernel
theorem dX7_town_40 : decode cX7_town 40 = .ok (.aload_n 0, 1) := by decide +kernel
theorem dX7_town_41 : decode cX7_town 41 = .ok (.invokevirtual 128, 3) := by decide +kernel
theorem dX7_town_44 : decode cX7_town 44 = .ok (.goto (-29), 3) := by decide +kernel
theorem dX7_town_47 : decode cX7_town 47 = .ok (.aload_n 0, 1) := by decide +kernel
theorem dX7_town_48 : decode cX7_town 48 = .ok (.iconst 0, 1) := by decide +kernel
theorem dX7_town_49 : decode cX7_town 49 = .ok (.putfield 91, 3) := by decide +kernel
theorem dX7_town_52 : decode cX7_town 52 = .ok (.aload_n 0, 1) := by decide +kernel
theorem dX7_town_53 : decode cX7_town 53 = .ok (.invokevirtual 82, 3) := by decide +kernel
theorem dX7_town_56 : decode cX7_town 56 = .ok (.iload_n 1, 1) := by decide +kernel
theorem dX7_town_57 : decode cX7_town 57 = .ok (.ireturn, 1) := by decide +kernel
theorem dX7_takes_0 : decode cX7_takes 0 = .ok (.iconst 0, 1) := by decide +kernel
theorem dX7_takes_1 : decode cX7_takes 1 = .ok (.istore_n 1, 1) := by decide +kernel
theorem dX7_takes_2 : decode cX7_takes 2 = .ok (.iload_n 1, 1) := by decide +kernel
theorem dX7_takes_3 : decode cX7_takes 3 = .ok (.bipush 64, 2) := by decide +kernel
theorem dX7_takes_5 : decode cX7_takes 5 = .ok (.if_icmp .ge 21, 3) := by decide +kernel
theorem dX7_takes_8 : decode cX7_takes 8 = .ok (.aload_n 0, 1) := by decide +kernel
theorem dX7_takes_9 : decode cX7_takes 9 = .ok (.getfield 16, 3) := by decide +kernel
theorem dX7_takes_12 : decode cX7_takes 12 = .ok (.iload_n 1, 1) := by decide +kernel
theorem dX7_takes_13 : decode cX7_takes 13 = .ok (.aload_n 0, 1) := by decide +kernel
theorem dX7_takes_14 : decode cX7_takes 14 = .ok (.getfield 13, 3) := by decide +kernel
theorem dX7_takes_17 : decode cX7_takes 17 = .ok (.iload_n 1, 1) := by decide +kernel
theorem dX7_takes_18 : decode cX7_takes 18 = .ok (.iaload, 1) := by decide +kernel
theorem dX7_takes_19 : decode cX7_takes 19 = .ok (.iastore, 1) := by decide +kernel
theorem dX7_takes_20 : decode cX7_takes 20 = .ok (.iinc 1 1, 3) := by decide +kernel
theorem dX7_takes_23 : decode cX7_takes 23 = .ok (.goto (-21), 3) := by decide +kernel
theorem dX7_takes_26 : decode cX7_takes 26 = .ok (.aload_n 0, 1) := by decide +kernel
theorem dX7_takes_27 : decode cX7_takes 27 = .ok (.getfield 19, 3) := by decide +kernel
theorem dX7_takes_30 : decode cX7_takes 30 = .ok (.iconst 0, 1) := by decide +kernel
theorem dX7_takes_31 : decode cX7_takes 31 = .ok (.aload_n 0, 1) := by decide +kernel
theorem dX7_takes_32 : decode cX7_takes 32 = .ok (.getfield 16, 3) := by decide +kernel
theorem dX7_takes_35 : decode cX7_takes 35 = .ok (.iconst 0, 1) := by decide +kernel
theorem dX7_takes_36 : decode cX7_takes 36 = .ok (.iaload, 1) := by decide +kernel
theorem dX7_takes_37 : decode cX7_takes 37 = .ok (.ifCond .ne 8, 3) := by decide +kernel
theorem dX7_takes_40 : decode cX7_takes 40 = .ok (.bipush (-9), 2) := by decide +kernel
theorem dX7_takes_42 : decode cX7_takes 42 = .ok (.goto 4, 3) := by decide +kernel
theorem dX7_takes_45 : decode cX7_takes 45 = .ok (.iconst 0, 1) := by decide +kernel
theorem dX7_takes_46 : decode cX7_takes 46 = .ok (.iastore, 1) := by decide +kernel
theorem dX7_takes_47 : decode cX7_takes 47 = .ok (.aload_n 0, 1) := by decide +kernel
theorem dX7_takes_48 : decode cX7_takes 48 = .ok (.getfield 19, 3) := by decide +kernel
theorem dX7_takes_51 : decode cX7_takes 51 = .ok (.iconst 1, 1) := by decide +kernel
theorem dX7_takes_52 : decode cX7_takes 52 = .ok (.iconst 0, 1) := by decide +kernel
theorem dX7_takes_53 : decode cX7_takes 53 = .ok (.iastore, 1) := by decide +kernel
theorem dX7_takes_54 : decode cX7_takes 54 = .ok (.aload_n 0, 1) := by decide +kernel
theorem dX7_takes_55 : decode cX7_takes 55 = .ok (.getfield 19, 3) := by decide +kernel
theorem dX7_takes_58 : decode cX7_takes 58 = .ok (.iconst 2, 1) := by decide +kernel
theorem dX7_takes_59 : decode cX7_takes 59 = .ok (.iconst 0, 1) := by decide +kernel
theorem dX7_takes_60 : decode cX7_takes 60 = .ok (.iastore, 1) := by decide +kernel
theorem dX7_takes_61 : decode cX7_takes 61 = .ok (.aload_n 0, 1) := by decide +kernel
theorem dX7_takes_62 : decode cX7_takes 62 = .ok (.getfield 19, 3) := by decide +kernel
theorem dX7_takes_65 : decode cX7_takes 65 = .ok (.iconst 3, 1) := by decide +kernel
theorem dX7_takes_66 : decode cX7_takes 66 = .ok (.bipush (-9), 2) := by decide +kernel
theorem dX7_takes_68 : decode cX7_takes 68 = .ok (.iastore, 1) := by decide +kernel
theorem dX7_takes_69 : decode cX7_takes 69 = .ok (.aload_n 0, 1) := by decide +kernel
theorem dX7_takes_70 : decode cX7_takes 70 = .ok (.iconst 0, 1) := by decide +kernel
theorem dX7_takes_71 : decode cX7_takes 71 = .ok (.putfield 157, 3) := by decide +kernel
theorem dX7_takes_74 : decode cX7_takes 74 = .ok (.aload_n 0, 1) := by decide +kernel
theorem dX7_takes_75 : decode cX7_takes 75 = .ok (.iconst 0, 1) := by decide +kernel
theorem dX7_takes_76 : decode cX7_takes 76 = .ok (.putfield 160, 3) := by decide +kernel
theorem dX7_takes_79 : decode cX7_takes 79 = .ok (.aload_n 0, 1) := by decide +kernel
theorem dX7_takes_80 : decode cX7_takes 80 = .ok (.iconst 0, 1) := by decide +kernel
theorem dX7_takes_81 : decode cX7_takes 81 = .ok (.putfield 163, 3) := by decide +kernel
theorem dX7_takes_84 : decode cX7_takes 84 = .ok (.aload_n 0, 1) := by decide +kernel
theorem dX7_takes_85 : decode cX7_takes 85 = .ok (.iconst 0, 1) := by decide +kernel
theorem dX7_takes_86 : decode cX7_takes 86 = .ok (.putfield 166, 3) := by decide +kernel
theorem dX7_takes_89 : decode cX7_takes 89 = .ok (.aload_n 0, 1) := by decide +kernel
theorem dX7_takes_90 : decode cX7_takes 90 = .ok (.getfield 76, 3) := by decide +kernel
theorem dX7_takes_93 : decode cX7_takes 93 = .ok (.iconst 0, 1) := by decide +kernel
theorem dX7_takes_94 : decode cX7_takes 94 = .ok (.iconst 0, 1) := by decide +kernel
theorem dX7_takes_95 : decode cX7_takes 95 = .ok (.iastore, 1) := by decide +kernel
theorem dX7_takes_96 : decode cX7_takes 96 = .ok (.aload_n 0, 1) := by decide +kernel
theorem dX7_takes_97 : decode cX7_takes 97 = .ok (.getfield 76, 3) := by decide +kernel
theorem dX7_takes_100 : decode cX7_takes 100 = .ok (.bipush 46, 2) := by decide +kernel
theorem dX7_takes_102 : decode cX7_takes 102 = .ok (.iconst 0, 1) := by decide +kernel
theorem dX7_takes_103 : decode cX7_takes 103 = .ok (.iastore, 1) := by decide +kernel
theorem dX7_takes_104 : decode cX7_takes 104 = .ok (.return_, 1) := by decide +kernel
set_option maxRecDepth 20000 in
theorem ggX7_isCorner_X7_in : GoodIn wsX7_isCorner wsX7_in := goodIn_r _ [5] (by decide +kernel) (by decide +kernel)
set_option maxRecDepth 20000 in
theorem gX7_isCorner_X7_in : GoodIn wsX7_isCorner (va_wsS RX7 87 yX7_in wsX7_in) := goodIn_app (goodIn_of _ (by decide +kernel)) ggX7_isCorner_X7_in
theorem dX7_isCorner_0 : decode cX7_isCorner 0 = .ok (.iload_n 1, 1) := by decide +kernel
theorem dX7_isCorner_1 : decode cX7_isCorner 1 = .ok (.i2l, 1) := by decide +kernel
theorem dX7_isCorner_2 : decode cX7_isCorner 2 = .ok (.lconst 0, 1) := by decide +kernel
theorem dX7_isCorner_3 : decode cX7_isCorner 3 = .ok (.aload_n 0, 1) := by decide +kernel
theorem dX7_isCorner_4 : decode cX7_isCorner 4 = .ok (.getfield 16, 3) := by decide +kernel
theorem dX7_isCorner_7 : decode cX7_isCorner 7 = .ok (.iconst 0, 1) := by decide +kernel
theorem dX7_isCorner_8 : decode cX7_isCorner 8 = .ok (.iaload, 1) := by decide +kernel
theorem dX7_isCorner_9 : decode cX7_isCorner 9 = .ok (.iconst 1, 1) := by decide +kernel
theorem dX7_isCorner_10 : decode cX7_isCorner 10 = .ok (.isub, 1) := by decide +kernel
theorem dX7_isCorner_11 : decode cX7_isCorner 11 = .ok (.i2l, 1) := by decide +kernel
theorem dX7_isCorner_12 : decode cX7_isCorner 12 = .ok (.invokestatic 87, 3) := by decide +kernel
theorem dX7_isCorner_15 : decode cX7_isCorner 15 = .ok (.ireturn, 1) := by decide +kernel
set_option maxRecDepth 20000 in
theorem ggX7_isStreet_X7_in : GoodIn wsX7_isStreet wsX7_in := goodIn_r _ [5] (by decide +kernel) (by decide +kernel)
set_option maxRecDepth 20000 in
theorem gX7_isStreet_X7_in : GoodIn wsX7_isStreet (va_wsS RX7 87 yX7_in wsX7_in) := goodIn_app (goodIn_of _ (by decide +kernel)) ggX7_isStreet_X7_in
theorem dX7_isStreet_0 : decode cX7_isStreet 0 = .ok (.iload_n 1, 1) := by decide +kernel
theorem dX7_isStreet_1 : decode cX7_isStreet 1 = .ok (.i2l, 1) := by decide +kernel
theorem dX7_isStreet_2 : decode cX7_isStreet 2 = .ok (.lconst 0, 1) := by decide +kernel
theorem dX7_isStreet_3 : decode cX7_isStreet 3 = .ok (.aload_n 0, 1) := by decide +kernel
theorem dX7_isStreet_4 : decode cX7_isStreet 4 = .ok (.getfield 16, 3) := by decide +kernel
theorem dX7_isStreet_7 : decode cX7_isStreet 7 = .ok (.iconst 1, 1) := by decide +kernel
theorem dX7_isStreet_8 : decode cX7_isStreet 8 = .ok (.iaload, 1) := by decide +kernel
theorem dX7_isStreet_9 : decode cX7_isStreet 9 = .ok (.iconst 1, 1) := by decide +kernel
theorem dX7_isStreet_10 : decode cX7_isStreet 10 = .ok (.isub, 1) := by decide +kernel
theorem dX7_isStreet_11 : decode cX7_isStreet 11 = .ok (.i2l, 1) := by decide +kernel
theorem dX7_isStreet_12 : decode cX7_isStreet 12 = .ok (.invokestatic 87, 3) := by decide +kernel
theorem dX7_isStreet_15 : decode cX7_isStreet 15 = .ok (.ireturn, 1) := by decide +kernel
set_option maxRecDepth 20000 in
theorem ggX7_isGuide_X7_in : GoodIn wsX7_isGuide wsX7_in := goodIn_r _ [5] (by decide +kernel) (by decide +kernel)
set_option maxRecDepth 20000 in
theorem gX7_isGuide_X7_in : GoodIn wsX7_isGuide (va_wsS RX7 87 yX7_in wsX7_in) := goodIn_app (goodIn_of _ (by decide +kernel)) ggX7_isGuide_X7_in
theorem dX7_isGuide_0 : decode cX7_isGuide 0 = .ok (.iload_n 1, 1) := by decide +kernel
theorem dX7_isGuide_1 : decode cX7_isGuide 1 = .ok (.i2l, 1) := by decide +kernel
theorem dX7_isGuide_2 : decode cX7_isGuide 2 = .ok (.lconst 0, 1) := by decide +kernel
theorem dX7_isGuide_3 : decode cX7_isGuide 3 = .ok (.aload_n 0, 1) := by decide +kernel
theorem dX7_isGuide_4 : decode cX7_isGuide 4 = .ok (.getfield 16, 3) := by decide +kernel
theorem dX7_isGuide_7 : decode cX7_isGuide 7 = .ok (.iconst 2, 1) := by decide +kernel
theorem dX7_isGuide_8 : decode cX7_isGuide 8 = .ok (.iaload, 1) := by decide +kernel
theorem dX7_isGuide_9 : decode cX7_isGuide 9 = .ok (.iconst 1, 1) := by decide +kernel
theorem dX7_isGuide_10 : decode cX7_isGuide 10 = .ok (.isub, 1) := by decide +kernel
theorem dX7_isGuide_11 : decode cX7_isGuide 11 = .ok (.i2l, 1) := by decide +kernel
theorem dX7_isGuide_12 : decode cX7_isGuide 12 = .ok (.invokestatic 87, 3) := by decide +kernel
theorem dX7_isGuide_15 : decode cX7_isGuide 15 = .ok (.ireturn, 1) := by decide +kernel
theorem dX7_pace_0 : decode cX7_pace 0 = .ok (.aload_n 0, 1) := by decide +kernel
theorem dX7_pace_1 : decode cX7_pace 1 = .ok (.getfield 16, 3) := by decide +kernel
theorem dX7_pace_4 : decode cX7_pace 4 = .ok (.bipush 40, 2) := by decide +kernel
theorem dX7_pace_6 : decode cX7_pace 6 = .ok (.iconst 4, 1) := by decide +kernel
theorem dX7_pace_7 : decode cX7_pace 7 = .ok (.iload_n 1, 1) := by decide +kernel
theorem dX7_pace_8 : decode cX7_pace 8 = .ok (.imul, 1) := by decide +kernel
theorem dX7_pace_9 : decode cX7_pace 9 = .ok (.iadd, 1) := by decide +kernel
theorem dX7_pace_10 : decode cX7_pace 10 = .ok (.iaload, 1) := by decide +kernel
theorem dX7_pace_11 : decode cX7_pace 11 = .ok (.ireturn, 1) := by decide +kernel
theorem dX7_fee_0 : decode cX7_fee 0 = .ok (.aload_n 0, 1) := by decide +kernel
theorem dX7_fee_1 : decode cX7_fee 1 = .ok (.getfield 16, 3) := by decide +kernel
theorem dX7_fee_4 : decode cX7_fee 4 = .ok (.bipush 40, 2) := by decide +kernel
theorem dX7_fee_6 : decode cX7_fee 6 = .ok (.iconst 4, 1) := by decide +kernel
theorem dX7_fee_7 : decode cX7_fee 7 = .ok (.iload_n 1, 1) := by decide +kernel
theorem dX7_fee_8 : decode cX7_fee 8 = .ok (.imul, 1) := by decide +kernel
theorem dX7_fee_9 : decode cX7_fee 9 = .ok (.iadd, 1) := by decide +kernel
theorem dX7_fee_10 : decode cX7_fee 10 = .ok (.iconst 1, 1) := by decide +kernel
theorem dX7_fee_11 : decode cX7_fee 11 = .ok (.iadd, 1) := by decide +kernel
theorem dX7_fee_12 : decode cX7_fee 12 = .ok (.iaload, 1) := by decide +kernel
theorem dX7_fee_13 : decode cX7_fee 13 = .ok (.ireturn, 1) := by decide +kernel
theorem dX7_known_0 : decode cX7_known 0 = .ok (.aload_n 0, 1) := by decide +kernel
theorem dX7_known_1 : decode cX7_known 1 = .ok (.getfield 16, 3) := by decide +kernel
theorem dX7_known_4 : decode cX7_known 4 = .ok (.bipush 40, 2) := by decide +kernel
theorem dX7_known_6 : decode cX7_known 6 = .ok (.iconst 4, 1) := by decide +kernel
theorem dX7_known_7 : decode cX7_known 7 = .ok (.iload_n 1, 1) := by decide +kernel
theorem dX7_known_8 : decode cX7_known 8 = .ok (.imul, 1) := by decide +kernel
theorem dX7_known_9 : decode cX7_known 9 = .ok (.iadd, 1) := by decide +kernel
theorem dX7_known_10 : decode cX7_known 10 = .ok (.iconst 2, 1) := by decide +kernel
theorem dX7_known_11 : decode cX7_known 11 = .ok (.iadd, 1) := by decide +kernel
theorem dX7_known_12 : decode cX7_known 12 = .ok (.iaload, 1) := by decide +kernel
theorem dX7_known_13 : decode cX7_known 13 = .ok (.iconst 1, 1) := by decide +kernel
theorem dX7_known_14 : decode cX7_known 14 = .ok (.aload_n 0, 1) := by decide +kernel
theorem dX7_known_15 : decode cX7_known 15 = .ok (.getfield 16, 3) := by decide +kernel
theorem dX7_known_18 : decode cX7_known 18 = .ok (.iconst 1, 1) := by decide +kernel
theorem dX7_known_19 : decode cX7_known 19 = .ok (.iaload, 1) := by decide +kernel
theorem dX7_known_20 : decode cX7_known 20 = .ok (.ishl, 1) := by decide +kernel
theorem dX7_known_21 : decode cX7_known 21 = .ok (.iconst 1, 1) := by decide +kernel
theorem dX7_known_22 : decode cX7_known 22 = .ok (.isub, 1) := by decide +kernel
theorem dX7_known_23 : decode cX7_known 23 = .ok (.iand, 1) := by decide +kernel
theorem dX7_known_24 : decode cX7_known 24 = .ok (.ireturn, 1) := by decide +kernel
theorem dX7_his_0 : decode cX7_his 0 = .ok (.aload_n 0, 1) := by decide +kernel
theorem dX7_his_1 : decode cX7_his 1 = .ok (.getfield 16, 3) := by decide +kernel
theorem dX7_his_4 : decode cX7_his 4 = .ok (.bipush 40, 2) := by decide +kernel
theorem dX7_his_6 : decode cX7_his 6 = .ok (.iconst 4, 1) := by decide +kernel
theorem dX7_his_7 : decode cX7_his 7 = .ok (.iload_n 1, 1) := by decide +kernel
theorem dX7_his_8 : decode cX7_his 8 = .ok (.imul, 1) := by decide +kernel
theorem dX7_his_9 : decode cX7_his 9 = .ok (.iadd, 1) := by decide +kernel
theorem dX7_his_10 : decode cX7_his 10 = .ok (.iconst 3, 1) := by decide +kernel
theorem dX7_his_11 : decode cX7_his 11 = .ok (.iadd, 1) := by decide +kernel
theorem dX7_his_12 : decode cX7_his 12 = .ok (.iaload, 1) := by decide +kernel
theorem dX7_his_13 : decode cX7_his 13 = .ok (.iconst 1, 1) := by decide +kernel
theorem dX7_his_14 : decode cX7_his 14 = .ok (.aload_n 0, 1) := by decide +kernel
theorem dX7_his_15 : decode cX7_his 15 = .ok (.getfield 16, 3) := by decide +kernel
theorem dX7_his_18 : decode cX7_his 18 = .ok (.iconst 0, 1) := by decide +kernel
theorem dX7_his_19 : decode cX7_his 19 = .ok (.iaload, 1) := by decide +kernel
theorem dX7_his_20 : decode cX7_his 20 = .ok (.ishl, 1) := by decide +kernel
theorem dX7_his_21 : decode cX7_his 21 = .ok (.iconst 1, 1) := by decide +kernel
theorem dX7_his_22 : decode cX7_his 22 = .ok (.isub, 1) := by decide +kernel
theorem dX7_his_23 : decode cX7_his 23 = .ok (.iand, 1) := by decide +kernel
theorem dX7_his_24 : decode cX7_his 24 = .ok (.ireturn, 1) := by decide +kernel
set_option maxRecDepth 20000 in
theorem ggX7_isHis_X7_his : GoodIn wsX7_isHis wsX7_his := goodIn_r _ [5, 6, 7, 8, 9, 10, 11, 12, 13, 14, 15, 16, 17, 18, 19, 20, 21, 22, 23, 24, 25, 26, 27, 28, 29, 30, 31, 32, 33, 34, 35, 36, 37, 38, 39, 40] (by decide +kernel) (by decide +kernel)
set_option maxRecDepth 20000 in
theorem gX7_isHis_X7_his : GoodIn wsX7_isHis (wsV RX7 169 RX7 yX7_his wsX7_his) := goodIn_app (goodIn_of _ (by decide +kernel)) ggX7_isHis_X7_his
theorem dX7_isHis_0 : decode cX7_isHis 0 = .ok (.iload_n 2, 1) := by decide +kernel
theorem dX7_isHis_1 : decode cX7_isHis 1 = .ok (.ifCond .lt 20, 3) := by decide +kernel
theorem dX7_isHis_4 : decode cX7_isHis 4 = .ok (.aload_n 0, 1) := by decide +kernel
theorem dX7_isHis_5 : decode cX7_isHis 5 = .ok (.iload_n 1, 1) := by decide +kernel
theorem dX7_isHis_6 : decode cX7_isHis 6 = .ok (.invokevirtual 169, 3) := by decide +kernel
theorem dX7_isHis_9 : decode cX7_isHis 9 = .ok (.iload_n 2, 1) := by decide +kernel
theorem dX7_isHis_10 : decode cX7_isHis 10 = .ok (.ishr, 1) := by decide +kernel
theorem dX7_isHis_11 : decode cX7_isHis 11 = .ok (.iconst 1, 1) := by decide +kernel
theorem dX7_isHis_12 : decode cX7_isHis 12 = .ok (.iand, 1) := by decide +kernel
theorem dX7_isHis_13 : decode cX7_isHis 13 = .ok (.iconst 1, 1) := by decide +kernel
theorem dX7_isHis_14 : decode cX7_isHis 14 = .ok (.if_icmp .ne 7, 3) := by decide +kernel
theorem dX7_isHis_17 : decode cX7_isHis 17 = .ok (.iconst 1, 1) := by decide +kernel
theorem dX7_isHis_18 : decode cX7_isHis 18 = .ok (.goto 4, 3) := by decide +kernel
theorem dX7_isHis_21 : decode cX7_isHis 21 = .ok (.iconst 0, 1) := by decide +kernel
theorem dX7_isHis_22 : decode cX7_isHis 22 = .ok (.ireturn, 1) := by decide +kernel
theorem dX7_length_0 : decode cX7_length 0 = .ok (.aload_n 0, 1) := by decide +kernel
theorem dX7_length_1 : decode cX7_length 1 = .ok (.getfield 16, 3) := by decide +kernel
theorem dX7_length_4 : decode cX7_length 4 = .ok (.bipush 13, 2) := by decide +kernel
theorem dX7_length_6 : decode cX7_length 6 = .ok (.iconst 3, 1) := by decide +kernel
theorem dX7_length_7 : decode cX7_length 7 = .ok (.iload_n 1, 1) := by decide +kernel
theorem dX7_length_8 : decode cX7_length 8 = .ok (.imul, 1) := by decide +kernel
theorem dX7_length_9 : decode cX7_length 9 = .ok (.iadd, 1) := by decide +kernel
theorem dX7_length_10 : decode cX7_length 10 = .ok (.iconst 2, 1) := by decide +kernel
theorem dX7_length_11 : decode cX7_length 11 = .ok (.iadd, 1) := by decide +kernel
theorem dX7_length_12 : decode cX7_length 12 = .ok (.iaload, 1) := by decide +kernel
theorem dX7_length_13 : decode cX7_length 13 = .ok (.ireturn, 1) := by decide +kernel
theorem dX7_over_0 : decode cX7_over 0 = .ok (.aload_n 0, 1) := by decide +kernel
theorem dX7_over_1 : decode cX7_over 1 = .ok (.getfield 16, 3) := by decide +kernel
theorem dX7_over_4 : decode cX7_over 4 = .ok (.bipush 13, 2) := by decide +kernel
theorem dX7_over_6 : decode cX7_over 6 = .ok (.iconst 3, 1) := by decide +kernel
theorem dX7_over_7 : decode cX7_over 7 = .ok (.iload_n 1, 1) := by decide +kernel
theorem dX7_over_8 : decode cX7_over 8 = .ok (.imul, 1) := by decide +kernel
theorem dX7_over_9 : decode cX7_over 9 = .ok (.iadd, 1) := by decide +kernel
theorem dX7_over_10 : decode cX7_over 10 = .ok (.iaload, 1) := by decide +kernel
theorem dX7_over_11 : decode cX7_over 11 = .ok (.istore_n 3, 1) := by decide +kernel
theorem dX7_over_12 : decode cX7_over 12 = .ok (.aload_n 0, 1) := by decide +kernel
theorem dX7_over_13 : decode cX7_over 13 = .ok (.getfield 16, 3) := by decide +kernel
theorem dX7_over_16 : decode cX7_over 16 = .ok (.bipush 13, 2) := by decide +kernel
theorem dX7_over_18 : decode cX7_over 18 = .ok (.iconst 3, 1) := by decide +kernel
theorem dX7_over_19 : decode cX7_over 19 = .ok (.iload_n 1, 1) := by decide +kernel
theorem dX7_over_20 : decode cX7_over 20 = .ok (.imul, 1) := by decide +kernel
theorem dX7_over_21 : decode cX7_over 21 = .ok (.iadd, 1) := by decide +kernel
theorem dX7_over_22 : decode cX7_over 22 = .ok (.iconst 1, 1) := by decide +kernel
theorem dX7_over_23 : decode cX7_over 23 = .ok (.iadd, 1) := by decide +kernel
theorem dX7_over_24 : decode cX7_over 24 = .ok (.iaload, 1) := by decide +kernel
theorem dX7_over_25 : decode cX7_over 25 = .ok (.istore 4, 2) := by decide +kernel
theorem dX7_over_27 : decode cX7_over 27 = .ok (.iload_n 3, 1) := by decide +kernel
theorem dX7_over_28 : decode cX7_over 28 = .ok (.iload_n 2, 1) := by decide +kernel
theorem dX7_over_29 : decode cX7_over 29 = .ok (.if_icmp .ne 8, 3) := by decide +kernel
theorem dX7_over_32 : decode cX7_over 32 = .ok (.iload 4, 2) := by decide +kernel
theorem dX7_over_34 : decode cX7_over 34 = .ok (.goto 15, 3) := by decide +kernel
theorem dX7_over_37 : decode cX7_over 37 = .ok (.iload 4, 2) := by decide +kernel
theorem dX7_over_39 : decode cX7_over 39 = .ok (.iload_n 2, 1) := by decide +kernel
theorem dX7_over_40 : decode cX7_over 40 = .ok (.if_icmp .ne 7, 3) := by decide +kernel
theorem dX7_over_43 : decode cX7_over 43 = .ok (.iload_n 3, 1) := by decide +kernel
theorem dX7_over_44 : decode cX7_over 44 = .ok (.goto 5, 3) := by decide +kernel
theorem dX7_over_47 : decode cX7_over 47 = .ok (.bipush (-9), 2) := by decide +kernel
theorem dX7_over_49 : decode cX7_over 49 = .ok (.ireturn, 1) := by decide +kernel
theorem dX7_many_0 : decode cX7_many 0 = .ok (.iconst 0, 1) := by decide +kernel
theorem dX7_many_1 : decode cX7_many 1 = .ok (.istore_n 1, 1) := by decide +kernel
theorem dX7_many_2 : decode cX7_many 2 = .ok (.iload_n 0, 1) := by decide +kernel
theorem dX7_many_3 : decode cX7_many 3 = .ok (.istore_n 2, 1) := by decide +kernel
theorem dX7_many_4 : decode cX7_many 4 = .ok (.iload_n 2, 1) := by decide +kernel
theorem dX7_many_5 : decode cX7_many 5 = .ok (.ifCond .eq 15, 3) := by decide +kernel
theorem dX7_many_8 : decode cX7_many 8 = .ok (.iinc 1 1, 3) := by decide +kernel
theorem dX7_many_11 : decode cX7_many 11 = .ok (.iload_n 2, 1) := by decide +kernel
theorem dX7_many_12 : decode cX7_many 12 = .ok (.iload_n 2, 1) := by decide +kernel
theorem dX7_many_13 : decode cX7_many 13 = .ok (.iconst 1, 1) := by decide +kernel
theorem dX7_many_14 : decode cX7_many 14 = .ok (.isub, 1) := by decide +kernel
theorem dX7_many_15 : decode cX7_many 15 = .ok (.iand, 1) := by decide +kernel
theorem dX7_many_16 : decode cX7_many 16 = .ok (.istore_n 2, 1) := by decide +kernel
theorem dX7_many_17 : decode cX7_many 17 = .ok (.goto (-13), 3) := by decide +kernel
theorem dX7_many_20 : decode cX7_many 20 = .ok (.iload_n 1, 1) := by decide +kernel
theorem dX7_many_21 : decode cX7_many 21 = .ok (.ireturn, 1) := by decide +kernel
set_option maxRecDepth 20000 in
theorem ggX7_corner_X7_isCorner : GoodIn wsX7_corner wsX7_isCorner := goodIn_r _ [6, 1, 7, 8, 5, 9, 10, 11, 12, 13, 14, 15, 16, 17, 18, 19, 20, 21, 22, 23, 24, 25, 26, 27, 28, 29, 30, 31, 32, 33, 34, 35, 36, 37, 38, 39, 40, 41, 42, 43] (by decide +kernel) (by decide +kernel)
set_option maxRecDepth 20000 in
theorem gX7_corner_X7_isCorner : GoodIn wsX7_corner (wsV RX7 173 RX7 yX7_isCorner wsX7_isCorner) := goodIn_app (goodIn_of _ (by decide +kernel)) ggX7_corner_X7_isCorner
theorem dX7_corner_0 : decode cX7_corner 0 = .ok (.aload_n 0, 1) := by decide +kernel
theorem dX7_corner_1 : decode cX7_corner 1 = .ok (.iload_n 1, 1) := by decide +kernel
theorem dX7_corner_2 : decode cX7_corner 2 = .ok (.invokevirtual 173, 3) := by decide +kernel
theorem dX7_corner_5 : decode cX7_corner 5 = .ok (.ifCond .eq 15, 3) := by decide +kernel
theorem dX7_corner_8 : decode cX7_corner 8 = .ok (.aload_n 0, 1) := by decide +kernel
theorem dX7_corner_9 : decode cX7_corner 9 = .ok (.getfield 16, 3) := by decide +kernel
theorem dX7_corner_12 : decode cX7_corner 12 = .ok (.bipush 6, 2) := by decide +kernel
theorem dX7_corner_14 : decode cX7_corner 14 = .ok (.iload_n 1, 1) := by decide +kernel
theorem dX7_corner_15 : decode cX7_corner 15 = .ok (.iadd, 1) := by decide +kernel
theorem dX7_corner_16 : decode cX7_corner 16 = .ok (.iaload, 1) := by decide +kernel
theorem dX7_corner_17 : decode cX7_corner 17 = .ok (.goto 4, 3) := by decide +kernel
theorem dX7_corner_20 : decode cX7_corner 20 = .ok (.iconst (-1), 1) := by decide +kernel
theorem dX7_corner_21 : decode cX7_corner 21 = .ok (.ireturn, 1) := by decide +kernel
set_option maxRecDepth 20000 in
theorem ggX7_street_X7_isStreet : GoodIn wsX7_street wsX7_isStreet := goodIn_r _ [7, 2, 8, 9, 6, 10, 11, 12, 13, 14, 15, 16, 17, 18, 19, 20, 21, 22, 23, 24, 25, 26, 27, 28, 29, 30, 31, 32, 33, 34, 35, 36, 37, 38, 39, 40, 41, 42, 43, 44] (by decide +kernel) (by decide +kernel)
set_option maxRecDepth 20000 in
theorem gX7_street_X7_isStreet : GoodIn wsX7_street (wsV RX7 176 RX7 yX7_isStreet wsX7_isStreet) := goodIn_app (goodIn_of _ (by decide +kernel)) ggX7_street_X7_isStreet
set_option maxRecDepth 20000 in
theorem ggX7_street_X7_in : GoodIn wsX7_street wsX7_in := goodIn_r _ [10] (by decide +kernel) (by decide +kernel)
set_option maxRecDepth 20000 in
theorem gX7_street_X7_in : GoodIn wsX7_street (va_wsS RX7 87 yX7_in wsX7_in) := goodIn_app (goodIn_of _ (by decide +kernel)) ggX7_street_X7_in
theorem dX7_street_0 : decode cX7_street 0 = .ok (.aload_n 0, 1) := by decide +kernel
theorem dX7_street_1 : decode cX7_street 1 = .ok (.iload_n 1, 1) := by decide +kernel
theorem dX7_street_2 : decode cX7_street 2 = .ok (.invokevirtual 176, 3) := by decide +kernel
theorem dX7_street_5 : decode cX7_street 5 = .ok (.ifCond .eq 31, 3) := by decide +kernel
theorem dX7_street_8 : decode cX7_street 8 = .ok (.iload_n 2, 1) := by decide +kernel
theorem dX7_street_9 : decode cX7_street 9 = .ok (.i2l, 1) := by decide +kernel
theorem dX7_street_10 : decode cX7_street 10 = .ok (.lconst 0, 1) := by decide +kernel
theorem dX7_street_11 : decode cX7_street 11 = .ok (.ldc2_w 179, 3) := by decide +kernel
theorem dX7_street_14 : decode cX7_street 14 = .ok (.invokestatic 87, 3) := by decide +kernel
theorem dX7_street_17 : decode cX7_street 17 = .ok (.ifCond .eq 19, 3) := by decide +kernel
theorem dX7_street_20 : decode cX7_street 20 = .ok (.aload_n 0, 1) := by decide +kernel
theorem dX7_street_21 : decode cX7_street 21 = .ok (.getfield 16, 3) := by decide +kernel
theorem dX7_street_24 : decode cX7_street 24 = .ok (.bipush 13, 2) := by decide +kernel
theorem dX7_street_26 : decode cX7_street 26 = .ok (.iconst 3, 1) := by decide +kernel
theorem dX7_street_27 : decode cX7_street 27 = .ok (.iload_n 1, 1) := by decide +kernel
theorem dX7_street_28 : decode cX7_street 28 = .ok (.imul, 1) := by decide +kernel
theorem dX7_street_29 : decode cX7_street 29 = .ok (.iadd, 1) := by decide +kernel
theorem dX7_street_30 : decode cX7_street 30 = .ok (.iload_n 2, 1) := by decide +kernel
theorem dX7_street_31 : decode cX7_street 31 = .ok (.iadd, 1) := by decide +kernel
theorem dX7_street_32 : decode cX7_street 32 = .ok (.iaload, 1) := by decide +kernel
theorem dX7_street_33 : decode cX7_street 33 = .ok (.goto 4, 3) := by decide +kernel
theorem dX7_street_36 : decode cX7_street 36 = .ok (.iconst (-1), 1) := by decide +kernel
theorem dX7_street_37 : decode cX7_street 37 = .ok (.ireturn, 1) := by decide +kernel
set_option maxRecDepth 20000 in
theorem ggX7_guide_X7_isGuide : GoodIn wsX7_guide wsX7_isGuide := goodIn_r _ [6, 7, 8, 9, 5, 10, 27, 28, 29, 30, 31, 32, 33, 34, 35, 36, 37, 38, 39, 40, 41, 42, 43, 44, 45, 46, 47, 48, 49, 50, 51, 52, 53, 54, 55, 56, 57, 58, 59, 60] (by decide +kernel) (by decide +kernel)
set_option maxRecDepth 20000 in
theorem gX7_guide_X7_isGuide : GoodIn wsX7_guide (wsV RX7 181 RX7 yX7_isGuide wsX7_isGuide) := goodIn_app (goodIn_of _ (by decide +kernel)) ggX7_guide_X7_isGuide
set_option maxRecDepth 20000 in
theorem ggX7_guide_X7_in : GoodIn wsX7_guide wsX7_in := goodIn_r _ [10] (by decide +kernel) (by decide +kernel)
set_option maxRecDepth 20000 in
theorem gX7_guide_X7_in : GoodIn wsX7_guide (va_wsS RX7 87 yX7_in wsX7_in) := goodIn_app (goodIn_of _ (by decide +kernel)) ggX7_guide_X7_in
set_option maxRecDepth 20000 in
theorem ggX7_guide_X7_pace : GoodIn wsX7_guide wsX7_pace := goodIn_r _ [14, 7, 27, 28, 29, 30, 31, 32, 33, 34, 35, 36, 37, 38, 39, 40, 41, 42, 43, 44, 45, 46, 47, 48, 49, 50, 51, 52, 53, 54, 55, 56, 57, 58, 59, 60] (by decide +kernel) (by decide +kernel)
set_option maxRecDepth 20000 in
theorem gX7_guide_X7_pace : GoodIn wsX7_guide (wsV RX7 186 RX7 yX7_pace wsX7_pace) := goodIn_app (goodIn_of _ (by decide +kernel)) ggX7_guide_X7_pace
set_option maxRecDepth 20000 in
theorem ggX7_guide_X7_fee : GoodIn wsX7_guide wsX7_fee := goodIn_r _ [18, 7, 27, 28, 29, 30, 31, 32, 33, 34, 35, 36, 37, 38, 39, 40, 41, 42, 43, 44, 45, 46, 47, 48, 49, 50, 51, 52, 53, 54, 55, 56, 57, 58, 59, 60] (by decide +kernel) (by decide +kernel)
set_option maxRecDepth 20000 in
theorem gX7_guide_X7_fee : GoodIn wsX7_guide (wsV RX7 189 RX7 yX7_fee wsX7_fee) := goodIn_app (goodIn_of _ (by decide +kernel)) ggX7_guide_X7_fee
set_option maxRecDepth 20000 in
theorem ggX7_guide_X7_known : GoodIn wsX7_guide wsX7_known := goodIn_r _ [22, 7, 27, 28, 29, 30, 31, 32, 33, 34, 35, 36, 37, 38, 39, 40, 41, 42, 43, 44, 45, 46, 47, 48, 49, 50, 51, 52, 53, 54, 55, 56, 57, 58, 59, 60] (by decide +kernel) (by decide +kernel)
set_option maxRecDepth 20000 in
theorem gX7_guide_X7_known : GoodIn wsX7_guide (wsV RX7 192 RX7 yX7_known wsX7_known) := goodIn_app (goodIn_of _ (by decide +kernel)) ggX7_guide_X7_known
set_option maxRecDepth 20000 in
theorem ggX7_guide_X7_his : GoodIn wsX7_guide wsX7_his := goodIn_r _ [26, 7, 27, 28, 29, 30, 31, 32, 33, 34, 35, 36, 37, 38, 39, 40, 41, 42, 43, 44, 45, 46, 47, 48, 49, 50, 51, 52, 53, 54, 55, 56, 57, 58, 59, 60] (by decide +kernel) (by decide +kernel)
set_option maxRecDepth 20000 in
theorem gX7_guide_X7_his : GoodIn wsX7_guide (wsV RX7 169 RX7 yX7_his wsX7_his) := goodIn_app (goodIn_of _ (by decide +kernel)) ggX7_guide_X7_his
theorem dX7_guide_0 : decode cX7_guide 0 = .ok (.aload_n 0, 1) := by decide +kernel
theorem dX7_guide_1 : decode cX7_guide 1 = .ok (.iload_n 1, 1) := by decide +kernel
theorem dX7_guide_2 : decode cX7_guide 2 = .ok (.invokevirtual 181, 3) := by decide +kernel
theorem dX7_guide_5 : decode cX7_guide 5 = .ok (.ifCond .eq 15, 3) := by decide +kernel
theorem dX7_guide_8 : decode cX7_guide 8 = .ok (.iload_n 2, 1) := by decide +kernel
theorem dX7_guide_9 : decode cX7_guide 9 = .ok (.i2l, 1) := by decide +kernel
theorem dX7_guide_10 : decode cX7_guide 10 = .ok (.lconst 0, 1) := by decide +kernel
theorem dX7_guide_11 : decode cX7_guide 11 = .ok (.ldc2_w 184, 3) := by decide +kernel
theorem dX7_guide_14 : decode cX7_guide 14 = .ok (.invokestatic 87, 3) := by decide +kernel
theorem dX7_guide_17 : decode cX7_guide 17 = .ok (.ifCond .ne 5, 3) := by decide +kernel
theorem dX7_guide_20 : decode cX7_guide 20 = .ok (.iconst (-1), 1) := by decide +kernel
theorem dX7_guide_21 : decode cX7_guide 21 = .ok (.ireturn, 1) := by decide +kernel
theorem dX7_guide_22 : decode cX7_guide 22 = .ok (.iload_n 2, 1) := by decide +kernel
theorem dX7_guide_23 : decode cX7_guide 23 = .ok (.ifCond .ne 11, 3) := by decide +kernel
theorem dX7_guide_26 : decode cX7_guide 26 = .ok (.aload_n 0, 1) := by decide +kernel
theorem dX7_guide_27 : decode cX7_guide 27 = .ok (.iload_n 1, 1) := by decide +kernel
theorem dX7_guide_28 : decode cX7_guide 28 = .ok (.invokevirtual 186, 3) := by decide +kernel
theorem dX7_guide_31 : decode cX7_guide 31 = .ok (.goto 34, 3) := by decide +kernel
theorem dX7_guide_34 : decode cX7_guide 34 = .ok (.iload_n 2, 1) := by decide +kernel
theorem dX7_guide_35 : decode cX7_guide 35 = .ok (.iconst 1, 1) := by decide +kernel
theorem dX7_guide_36 : decode cX7_guide 36 = .ok (.if_icmp .ne 11, 3) := by decide +kernel
theorem dX7_guide_39 : decode cX7_guide 39 = .ok (.aload_n 0, 1) := by decide +kernel
theorem dX7_guide_40 : decode cX7_guide 40 = .ok (.iload_n 1, 1) := by decide +kernel
theorem dX7_guide_41 : decode cX7_guide 41 = .ok (.invokevirtual 189, 3) := by decide +kernel
theorem dX7_guide_44 : decode cX7_guide 44 = .ok (.goto 21, 3) := by decide +kernel
theorem dX7_guide_47 : decode cX7_guide 47 = .ok (.iload_n 2, 1) := by decide +kernel
theorem dX7_guide_48 : decode cX7_guide 48 = .ok (.iconst 2, 1) := by decide +kernel
theorem dX7_guide_49 : decode cX7_guide 49 = .ok (.if_icmp .ne 11, 3) := by decide +kernel
theorem dX7_guide_52 : decode cX7_guide 52 = .ok (.aload_n 0, 1) := by decide +kernel
theorem dX7_guide_53 : decode cX7_guide 53 = .ok (.iload_n 1, 1) := by decide +kernel
theorem dX7_guide_54 : decode cX7_guide 54 = .ok (.invokevirtual 192, 3) := by decide +kernel
theorem dX7_guide_57 : decode cX7_guide 57 = .ok (.goto 8, 3) := by decide +kernel
theorem dX7_guide_60 : decode cX7_guide 60 = .ok (.aload_n 0, 1) := by decide +kernel
theorem dX7_guide_61 : decode cX7_guide 61 = .ok (.iload_n 1, 1) := by decide +kernel
theorem dX7_guide_62 : decode cX7_guide 62 = .ok (.invokevirtual 169, 3) := by decide +kernel
theorem dX7_guide_65 : decode cX7_guide 65 = .ok (.ireturn, 1) := by decide +kernel
theorem dX7_isThick_0 : decode cX7_isThick 0 = .ok (.aload_n 0, 1) := by decide +kernel
theorem dX7_isThick_1 : decode cX7_isThick 1 = .ok (.getfield 16, 3) := by decide +kernel
theorem dX7_isThick_4 : decode cX7_isThick 4 = .ok (.iconst 4, 1) := by decide +kernel
theorem dX7_isThick_5 : decode cX7_isThick 5 = .ok (.iaload, 1) := by decide +kernel
theorem dX7_isThick_6 : decode cX7_isThick 6 = .ok (.ifCond .eq 26, 3) := by decide +kernel
theorem dX7_isThick_9 : decode cX7_isThick 9 = .ok (.aload_n 0, 1) := by decide +kernel
theorem dX7_isThick_10 : decode cX7_isThick 10 = .ok (.getfield 16, 3) := by decide +kernel
theorem dX7_isThick_13 : decode cX7_isThick 13 = .ok (.bipush 56, 2) := by decide +kernel
theorem dX7_isThick_15 : decode cX7_isThick 15 = .ok (.iload_n 1, 1) := by decide +kernel
theorem dX7_isThick_16 : decode cX7_isThick 16 = .ok (.bipush 10, 2) := by decide +kernel
theorem dX7_isThick_18 : decode cX7_isThick 18 = .ok (.idiv, 1) := by decide +kernel
theorem dX7_isThick_19 : decode cX7_isThick 19 = .ok (.aload_n 0, 1) := by decide +kernel
theorem dX7_isThick_20 : decode cX7_isThick 20 = .ok (.getfield 16, 3) := by decide +kernel
theorem dX7_isThick_23 : decode cX7_isThick 23 = .ok (.iconst 4, 1) := by decide +kernel
theorem dX7_isThick_24 : decode cX7_isThick 24 = .ok (.iaload, 1) := by decide +kernel
theorem dX7_isThick_25 : decode cX7_isThick 25 = .ok (.irem, 1) := by decide +kernel
theorem dX7_isThick_26 : decode cX7_isThick 26 = .ok (.iadd, 1) := by decide +kernel
theorem dX7_isThick_27 : decode cX7_isThick 27 = .ok (.iaload, 1) := by decide +kernel
theorem dX7_isThick_28 : decode cX7_isThick 28 = .ok (.iconst 1, 1) := by decide +kernel
theorem dX7_isThick_29 : decode cX7_isThick 29 = .ok (.if_icmp .ne 7, 3) := by decide +kernel
theorem dX7_isThick_32 : decode cX7_isThick 32 = .ok (.iconst 1, 1) := by decide +kernel
theorem dX7_isThick_33 : decode cX7_isThick 33 = .ok (.goto 4, 3) := by decide +kernel
theorem dX7_isThick_36 : decode cX7_isThick 36 = .ok (.iconst 0, 1) := by decide +kernel
theorem dX7_isThick_37 : decode cX7_isThick 37 = .ok (.ireturn, 1) := by decide +kernel
set_option maxRecDepth 20000 in
theorem ggX7_isThin_X7_isThick : GoodIn wsX7_isThin wsX7_isThick := goodIn_r _ [5, 6, 7, 8, 9, 10, 11, 12, 13, 14, 15, 16, 17, 18, 19, 20, 21, 22, 23, 24, 25, 26, 27, 28, 29, 30, 31, 32, 33, 34, 35, 36, 37, 38, 39, 40] (by decide +kernel) (by decide +kernel)
set_option maxRecDepth 20000 in
theorem gX7_isThin_X7_isThick : GoodIn wsX7_isThin (wsV RX7 195 RX7 yX7_isThick wsX7_isThick) := goodIn_app (goodIn_of _ (by decide +kernel)) ggX7_isThin_X7_isThick
theorem dX7_isThin_0 : decode cX7_isThin 0 = .ok (.iconst 1, 1) := by decide +kernel
theorem dX7_isThin_1 : decode cX7_isThin 1 = .ok (.istore_n 3, 1) := by decide +kernel
theorem dX7_isThin_2 : decode cX7_isThin 2 = .ok (.iconst 0, 1) := by decide +kernel
theorem dX7_isThin_3 : decode cX7_isThin 3 = .ok (.istore 4, 2) := by decide +kernel
theorem dX7_isThin_5 : decode cX7_isThin 5 = .ok (.iload 4, 2) := by decide +kernel
theorem dX7_isThin_7 : decode cX7_isThin 7 = .ok (.iload_n 2, 1) := by decide +kernel
theorem dX7_isThin_8 : decode cX7_isThin 8 = .ok (.if_icmp .ge 30, 3) := by decide +kernel
theorem dX7_isThin_11 : decode cX7_isThin 11 = .ok (.iload_n 3, 1) := by decide +kernel
theorem dX7_isThin_12 : decode cX7_isThin 12 = .ok (.ifCond .eq 18, 3) := by decide +kernel
theorem dX7_isThin_15 : decode cX7_isThin 15 = .ok (.aload_n 0, 1) := by decide +kernel
theorem dX7_isThin_16 : decode cX7_isThin 16 = .ok (.iload_n 1, 1) := by decide +kernel
theorem dX7_isThin_17 : decode cX7_isThin 17 = .ok (.iload 4, 2) := by decide +kernel
theorem dX7_isThin_19 : decode cX7_isThin 19 = .ok (.iadd, 1) := by decide +kernel
theorem dX7_isThin_20 : decode cX7_isThin 20 = .ok (.invokevirtual 195, 3) := by decide +kernel
theorem dX7_isThin_23 : decode cX7_isThin 23 = .ok (.ifCond .ne 7, 3) := by decide +kernel
theorem dX7_isThin_26 : decode cX7_isThin 26 = .ok (.iconst 1, 1) := by decide +kernel
theorem dX7_isThin_27 : decode cX7_isThin 27 = .ok (.goto 4, 3) := by decide +kernel
theorem dX7_isThin_30 : decode cX7_isThin 30 = .ok (.iconst 0, 1) := by decide +kernel
theorem dX7_isThin_31 : decode cX7_isThin 31 = .ok (.istore_n 3, 1) := by decide +kernel
theorem dX7_isThin_32 : decode cX7_isThin 32 = .ok (.iinc 4 1, 3) := by decide +kernel
theorem dX7_isThin_35 : decode cX7_isThin 35 = .ok (.goto (-30), 3) := by decide +kernel
theorem dX7_isThin_38 : decode cX7_isThin 38 = .ok (.iload_n 3, 1) := by decide +kernel
theorem dX7_isThin_39 : decode cX7_isThin 39 = .ok (.ireturn, 1) := by decide +kernel
set_option maxRecDepth 20000 in
theorem ggX7_fog_X7_in : GoodIn wsX7_fog wsX7_in := goodIn_r _ [5] (by decide +kernel) (by decide +kernel)
set_option maxRecDepth 20000 in
theorem gX7_fog_X7_in : GoodIn wsX7_fog (va_wsS RX7 87 yX7_in wsX7_in) := goodIn_app (goodIn_of _ (by decide +kernel)) ggX7_fog_X7_in
set_option maxRecDepth 20000 in
theorem ggX7_fog_X7_isThick : GoodIn wsX7_fog wsX7_isThick := goodIn_r _ [9, 10, 11, 12, 13, 14, 15, 16, 17, 18, 19, 20, 21, 22, 23, 24, 25, 26, 27, 28, 29, 30, 31, 32, 33, 34, 35, 36, 37, 38, 39, 40, 41, 42, 43, 44] (by decide +kernel) (by decide +kernel)
set_option maxRecDepth 20000 in
theorem gX7_fog_X7_isThick : GoodIn wsX7_fog (wsV RX7 195 RX7 yX7_isThick wsX7_isThick) := goodIn_app (goodIn_of _ (by decide +kernel)) ggX7_fog_X7_isThick
theorem dX7_fog_0 : decode cX7_fog 0 = .ok (.iload_n 1, 1) := by decide +kernel
theorem dX7_fog_1 : decode cX7_fog 1 = .ok (.i2l, 1) := by decide +kernel
theorem dX7_fog_2 : decode cX7_fog 2 = .ok (.lconst 0, 1) := by decide +kernel
theorem dX7_fog_3 : decode cX7_fog 3 = .ok (.ldc2_w 198, 3) := by decide +kernel
theorem dX7_fog_6 : decode cX7_fog 6 = .ok (.invokestatic 87, 3) := by decide +kernel
theorem dX7_fog_9 : decode cX7_fog 9 = .ok (.ifCond .ne 7, 3) := by decide +kernel
theorem dX7_fog_12 : decode cX7_fog 12 = .ok (.iconst (-1), 1) := by decide +kernel
theorem dX7_fog_13 : decode cX7_fog 13 = .ok (.goto 16, 3) := by decide +kernel
theorem dX7_fog_16 : decode cX7_fog 16 = .ok (.aload_n 0, 1) := by decide +kernel
theorem dX7_fog_17 : decode cX7_fog 17 = .ok (.iload_n 1, 1) := by decide +kernel
theorem dX7_fog_18 : decode cX7_fog 18 = .ok (.invokevirtual 195, 3) := by decide +kernel
theorem dX7_fog_21 : decode cX7_fog 21 = .ok (.ifCond .eq 7, 3) := by decide +kernel

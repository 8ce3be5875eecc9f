theorem dX7_forFee_5 : decode cX7_forFee 5 = .ok (.ifCond .eq 23, 3) := by decide +kernel
theorem dX7_forFee_8 : decode cX7_forFee 8 = .ok (.aload_n 0, 1) := by decide +kernel
theorem dX7_forFee_9 : decode cX7_forFee 9 = .ok (.iload_n 2, 1) := by decide +kernel
theorem dX7_forFee_10 : decode cX7_forFee 10 = .ok (.invokevirtual 173, 3) := by decide +kernel
theorem dX7_forFee_13 : decode cX7_forFee 13 = .ok (.ifCond .eq 15, 3) := by decide +kernel
theorem dX7_forFee_16 : decode cX7_forFee 16 = .ok (.iload_n 3, 1) := by decide +kernel
theorem dX7_forFee_17 : decode cX7_forFee 17 = .ok (.i2l, 1) := by decide +kernel
theorem dX7_forFee_18 : decode cX7_forFee 18 = .ok (.lconst 0, 1) := by decide +kernel
theorem dX7_forFee_19 : decode cX7_forFee 19 = .ok (.ldc2_w 260, 3) := by decide +kernel
theorem dX7_forFee_22 : decode cX7_forFee 22 = .ok (.invokestatic 87, 3) := by decide +kernel
theorem dX7_forFee_25 : decode cX7_forFee 25 = .ok (.ifCond .ne 5, 3) := by decide +kernel
theorem dX7_forFee_28 : decode cX7_forFee 28 = .ok (.iconst (-1), 1) := by decide +kernel
theorem dX7_forFee_29 : decode cX7_forFee 29 = .ok (.ireturn, 1) := by decide +kernel
theorem dX7_forFee_30 : decode cX7_forFee 30 = .ok (.iconst 0, 1) := by decide +kernel
theorem dX7_forFee_31 : decode cX7_forFee 31 = .ok (.istore 4, 2) := by decide +kernel
theorem dX7_forFee_33 : decode cX7_forFee 33 = .ok (.iconst 0, 1) := by decide +kernel
theorem dX7_forFee_34 : decode cX7_forFee 34 = .ok (.istore 5, 2) := by decide +kernel
theorem dX7_forFee_36 : decode cX7_forFee 36 = .ok (.iload 5, 2) := by decide +kernel
theorem dX7_forFee_38 : decode cX7_forFee 38 = .ok (.aload_n 0, 1) := by decide +kernel
theorem dX7_forFee_39 : decode cX7_forFee 39 = .ok (.getfield 16, 3) := by decide +kernel
theorem dX7_forFee_42 : decode cX7_forFee 42 = .ok (.iconst 2, 1) := by decide +kernel
theorem dX7_forFee_43 : decode cX7_forFee 43 = .ok (.iaload, 1) := by decide +kernel
theorem dX7_forFee_44 : decode cX7_forFee 44 = .ok (.if_icmp .ge 44, 3) := by decide +kernel
theorem dX7_forFee_47 : decode cX7_forFee 47 = .ok (.iload 4, 2) := by decide +kernel
theorem dX7_forFee_49 : decode cX7_forFee 49 = .ok (.aload_n 0, 1) := by decide +kernel
theorem dX7_forFee_50 : decode cX7_forFee 50 = .ok (.iload 5, 2) := by decide +kernel
theorem dX7_forFee_52 : decode cX7_forFee 52 = .ok (.iload_n 1, 1) := by decide +kernel
theorem dX7_forFee_53 : decode cX7_forFee 53 = .ok (.invokevirtual 200, 3) := by decide +kernel
theorem dX7_forFee_56 : decode cX7_forFee 56 = .ok (.ifCond .eq 22, 3) := by decide +kernel
theorem dX7_forFee_59 : decode cX7_forFee 59 = .ok (.aload_n 0, 1) := by decide +kernel
theorem dX7_forFee_60 : decode cX7_forFee 60 = .ok (.iload 5, 2) := by decide +kernel
theorem dX7_forFee_62 : decode cX7_forFee 62 = .ok (.iload_n 1, 1) := by decide +kernel
theorem dX7_forFee_63 : decode cX7_forFee 63 = .ok (.iload_n 2, 1) := by decide +kernel
theorem dX7_forFee_64 : decode cX7_forFee 64 = .ok (.iload_n 3, 1) := by decide +kernel
theorem dX7_forFee_65 : decode cX7_forFee 65 = .ok (.invokevirtual 262, 3) := by decide +kernel
theorem dX7_forFee_68 : decode cX7_forFee 68 = .ok (.ifCond .eq 10, 3) := by decide +kernel
theorem dX7_forFee_71 : decode cX7_forFee 71 = .ok (.iconst 1, 1) := by decide +kernel
theorem dX7_forFee_72 : decode cX7_forFee 72 = .ok (.iload 5, 2) := by decide +kernel
theorem dX7_forFee_74 : decode cX7_forFee 74 = .ok (.ishl, 1) := by decide +kernel
theorem dX7_forFee_75 : decode cX7_forFee 75 = .ok (.goto 4, 3) := by decide +kernel
theorem dX7_forFee_78 : decode cX7_forFee 78 = .ok (.iconst 0, 1) := by decide +kernel
theorem dX7_forFee_79 : decode cX7_forFee 79 = .ok (.ior, 1) := by decide +kernel
theorem dX7_forFee_80 : decode cX7_forFee 80 = .ok (.istore 4, 2) := by decide +kernel
theorem dX7_forFee_82 : decode cX7_forFee 82 = .ok (.iinc 5 1, 3) := by decide +kernel
theorem dX7_forFee_85 : decode cX7_forFee 85 = .ok (.goto (-49), 3) := by decide +kernel
theorem dX7_forFee_88 : decode cX7_forFee 88 = .ok (.iload 4, 2) := by decide +kernel
theorem dX7_forFee_90 : decode cX7_forFee 90 = .ok (.ireturn, 1) := by decide +kernel
set_option maxRecDepth 20000 in
theorem ggX7_byBells_X7_isCorner : GoodIn wsX7_byBells wsX7_isCorner := goodIn_r _ [8, 3, 9, 10, 7, 11, 24, 25, 26, 27, 28, 29, 30, 31, 32, 33, 34, 35, 36, 37, 38, 39, 40, 41, 42, 43, 44, 45, 46, 47, 48, 49, 50, 51, 52, 53, 54, 55, 56, 57] (by decide +kernel) (by decide +kernel)
set_option maxRecDepth 20000 in
theorem gX7_byBells_X7_isCorner : GoodIn wsX7_byBells (wsV RX7 173 RX7 yX7_isCorner wsX7_isCorner) := goodIn_app (goodIn_of _ (by decide +kernel)) ggX7_byBells_X7_isCorner
set_option maxRecDepth 20000 in
theorem ggX7_byBells_X7_in : GoodIn wsX7_byBells wsX7_in := goodIn_r _ [11] (by decide +kernel) (by decide +kernel)
set_option maxRecDepth 20000 in
theorem gX7_byBells_X7_in : GoodIn wsX7_byBells (va_wsS RX7 87 yX7_in wsX7_in) := goodIn_app (goodIn_of _ (by decide +kernel)) ggX7_byBells_X7_in
set_option maxRecDepth 20000 in
theorem ggX7_byBells_X7_length : GoodIn wsX7_byBells wsX7_length := goodIn_r _ [15, 3, 24, 25, 26, 27, 28, 29, 30, 31, 32, 33, 34, 35, 36, 37, 38, 39, 40, 41, 42, 43, 44, 45, 46, 47, 48, 49, 50, 51, 52, 53, 54, 55, 56, 57] (by decide +kernel) (by decide +kernel)
set_option maxRecDepth 20000 in
theorem gX7_byBells_X7_length : GoodIn wsX7_byBells (wsV RX7 213 RX7 yX7_length wsX7_length) := goodIn_app (goodIn_of _ (by decide +kernel)) ggX7_byBells_X7_length
set_option maxRecDepth 20000 in
theorem ggX7_byBells_X7_isThin : GoodIn wsX7_byBells wsX7_isThin := goodIn_r _ [19, 20, 21, 22, 7, 23, 3, 24, 25, 26, 27, 28, 29, 30, 31, 32, 33, 34, 35, 36, 37, 38, 39, 40, 41, 42, 43, 44, 45, 46, 47, 48, 49, 50, 51, 52, 53, 54, 55, 56, 57] (by decide +kernel) (by decide +kernel)
set_option maxRecDepth 20000 in
theorem gX7_byBells_X7_isThin : GoodIn wsX7_byBells (wsV RX7 220 RX7 yX7_isThin wsX7_isThin) := goodIn_app (goodIn_of _ (by decide +kernel)) ggX7_byBells_X7_isThin
theorem dX7_byBells_0 : decode cX7_byBells 0 = .ok (.aload_n 0, 1) := by decide +kernel
theorem dX7_byBells_1 : decode cX7_byBells 1 = .ok (.iload_n 1, 1) := by decide +kernel
theorem dX7_byBells_2 : decode cX7_byBells 2 = .ok (.invokevirtual 173, 3) := by decide +kernel
theorem dX7_byBells_5 : decode cX7_byBells 5 = .ok (.ifCond .eq 23, 3) := by decide +kernel
theorem dX7_byBells_8 : decode cX7_byBells 8 = .ok (.iload_n 2, 1) := by decide +kernel
theorem dX7_byBells_9 : decode cX7_byBells 9 = .ok (.i2l, 1) := by decide +kernel
theorem dX7_byBells_10 : decode cX7_byBells 10 = .ok (.lconst 0, 1) := by decide +kernel
theorem dX7_byBells_11 : decode cX7_byBells 11 = .ok (.ldc2_w 198, 3) := by decide +kernel
theorem dX7_byBells_14 : decode cX7_byBells 14 = .ok (.invokestatic 87, 3) := by decide +kernel
theorem dX7_byBells_17 : decode cX7_byBells 17 = .ok (.ifCond .eq 11, 3) := by decide +kernel
theorem dX7_byBells_20 : decode cX7_byBells 20 = .ok (.aload_n 0, 1) := by decide +kernel
theorem dX7_byBells_21 : decode cX7_byBells 21 = .ok (.iload_n 3, 1) := by decide +kernel
theorem dX7_byBells_22 : decode cX7_byBells 22 = .ok (.invokevirtual 173, 3) := by decide +kernel
theorem dX7_byBells_25 : decode cX7_byBells 25 = .ok (.ifCond .ne 5, 3) := by decide +kernel
theorem dX7_byBells_28 : decode cX7_byBells 28 = .ok (.iconst (-1), 1) := by decide +kernel
theorem dX7_byBells_29 : decode cX7_byBells 29 = .ok (.ireturn, 1) := by decide +kernel
theorem dX7_byBells_30 : decode cX7_byBells 30 = .ok (.iconst 0, 1) := by decide +kernel
theorem dX7_byBells_31 : decode cX7_byBells 31 = .ok (.istore 4, 2) := by decide +kernel
theorem dX7_byBells_33 : decode cX7_byBells 33 = .ok (.iload 4, 2) := by decide +kernel
theorem dX7_byBells_35 : decode cX7_byBells 35 = .ok (.sipush 512, 3) := by decide +kernel
theorem dX7_byBells_38 : decode cX7_byBells 38 = .ok (.if_icmp .ge 17, 3) := by decide +kernel
theorem dX7_byBells_41 : decode cX7_byBells 41 = .ok (.aload_n 0, 1) := by decide +kernel
theorem dX7_byBells_42 : decode cX7_byBells 42 = .ok (.getfield 43, 3) := by decide +kernel
theorem dX7_byBells_45 : decode cX7_byBells 45 = .ok (.iload 4, 2) := by decide +kernel
theorem dX7_byBells_47 : decode cX7_byBells 47 = .ok (.iconst 0, 1) := by decide +kernel
theorem dX7_byBells_48 : decode cX7_byBells 48 = .ok (.iastore, 1) := by decide +kernel
theorem dX7_byBells_49 : decode cX7_byBells 49 = .ok (.iinc 4 1, 3) := by decide +kernel
theorem dX7_byBells_52 : decode cX7_byBells 52 = .ok (.goto (-19), 3) := by decide +kernel
theorem dX7_byBells_55 : decode cX7_byBells 55 = .ok (.aload_n 0, 1) := by decide +kernel
theorem dX7_byBells_56 : decode cX7_byBells 56 = .ok (.getfield 43, 3) := by decide +kernel
theorem dX7_byBells_59 : decode cX7_byBells 59 = .ok (.iconst 0, 1) := by decide +kernel
theorem dX7_byBells_60 : decode cX7_byBells 60 = .ok (.iconst 1, 1) := by decide +kernel
theorem dX7_byBells_61 : decode cX7_byBells 61 = .ok (.iload_n 1, 1) := by decide +kernel
theorem dX7_byBells_62 : decode cX7_byBells 62 = .ok (.ishl, 1) := by decide +kernel
theorem dX7_byBells_63 : decode cX7_byBells 63 = .ok (.iastore, 1) := by decide +kernel
theorem dX7_byBells_64 : decode cX7_byBells 64 = .ok (.iconst 0, 1) := by decide +kernel
theorem dX7_byBells_65 : decode cX7_byBells 65 = .ok (.istore 4, 2) := by decide +kernel
theorem dX7_byBells_67 : decode cX7_byBells 67 = .ok (.iload 4, 2) := by decide +kernel
theorem dX7_byBells_69 : decode cX7_byBells 69 = .ok (.sipush 501, 3) := by decide +kernel
theorem dX7_byBells_72 : decode cX7_byBells 72 = .ok (.if_icmp .ge 161, 3) := by decide +kernel
theorem dX7_byBells_75 : decode cX7_byBells 75 = .ok (.aload_n 0, 1) := by decide +kernel
theorem dX7_byBells_76 : decode cX7_byBells 76 = .ok (.getfield 43, 3) := by decide +kernel
theorem dX7_byBells_79 : decode cX7_byBells 79 = .ok (.iload 4, 2) := by decide +kernel
theorem dX7_byBells_81 : decode cX7_byBells 81 = .ok (.iaload, 1) := by decide +kernel
theorem dX7_byBells_82 : decode cX7_byBells 82 = .ok (.iload_n 3, 1) := by decide +kernel
theorem dX7_byBells_83 : decode cX7_byBells 83 = .ok (.ishr, 1) := by decide +kernel
theorem dX7_byBells_84 : decode cX7_byBells 84 = .ok (.iconst 1, 1) := by decide +kernel
theorem dX7_byBells_85 : decode cX7_byBells 85 = .ok (.iand, 1) := by decide +kernel
theorem dX7_byBells_86 : decode cX7_byBells 86 = .ok (.iconst 1, 1) := by decide +kernel
theorem dX7_byBells_87 : decode cX7_byBells 87 = .ok (.if_icmp .ne 6, 3) := by decide +kernel
theorem dX7_byBells_90 : decode cX7_byBells 90 = .ok (.iload 4, 2) := by decide +kernel
theorem dX7_byBells_92 : decode cX7_byBells 92 = .ok (.ireturn, 1) := by decide +kernel
theorem dX7_byBells_93 : decode cX7_byBells 93 = .ok (.aload_n 0, 1) := by decide +kernel
theorem dX7_byBells_94 : decode cX7_byBells 94 = .ok (.getfield 43, 3) := by decide +kernel
theorem dX7_byBells_97 : decode cX7_byBells 97 = .ok (.iload 4, 2) := by decide +kernel
theorem dX7_byBells_99 : decode cX7_byBells 99 = .ok (.iconst 1, 1) := by decide +kernel
theorem dX7_byBells_100 : decode cX7_byBells 100 = .ok (.iadd, 1) := by decide +kernel
theorem dX7_byBells_101 : decode cX7_byBells 101 = .ok (.dup2, 1) := by decide +kernel
theorem dX7_byBells_102 : decode cX7_byBells 102 = .ok (.iaload, 1) := by decide +kernel
theorem dX7_byBells_103 : decode cX7_byBells 103 = .ok (.aload_n 0, 1) := by decide +kernel
theorem dX7_byBells_104 : decode cX7_byBells 104 = .ok (.getfield 43, 3) := by decide +kernel
theorem dX7_byBells_107 : decode cX7_byBells 107 = .ok (.iload 4, 2) := by decide +kernel
theorem dX7_byBells_109 : decode cX7_byBells 109 = .ok (.iaload, 1) := by decide +kernel
theorem dX7_byBells_110 : decode cX7_byBells 110 = .ok (.ior, 1) := by decide +kernel
theorem dX7_byBells_111 : decode cX7_byBells 111 = .ok (.iastore, 1) := by decide +kernel
theorem dX7_byBells_112 : decode cX7_byBells 112 = .ok (.iconst 0, 1) := by decide +kernel
theorem dX7_byBells_113 : decode cX7_byBells 113 = .ok (.istore 5, 2) := by decide +kernel
theorem dX7_byBells_115 : decode cX7_byBells 115 = .ok (.iload 5, 2) := by decide +kernel
theorem dX7_byBells_117 : decode cX7_byBells 117 = .ok (.aload_n 0, 1) := by decide +kernel
theorem dX7_byBells_118 : decode cX7_byBells 118 = .ok (.getfield 16, 3) := by decide +kernel
theorem dX7_byBells_121 : decode cX7_byBells 121 = .ok (.iconst 1, 1) := by decide +kernel
theorem dX7_byBells_122 : decode cX7_byBells 122 = .ok (.iaload, 1) := by decide +kernel
theorem dX7_byBells_123 : decode cX7_byBells 123 = .ok (.if_icmp .ge 104, 3) := by decide +kernel
theorem dX7_byBells_126 : decode cX7_byBells 126 = .ok (.aload_n 0, 1) := by decide +kernel
theorem dX7_byBells_127 : decode cX7_byBells 127 = .ok (.iload_n 2, 1) := by decide +kernel
theorem dX7_byBells_128 : decode cX7_byBells 128 = .ok (.iload 4, 2) := by decide +kernel
theorem dX7_byBells_130 : decode cX7_byBells 130 = .ok (.iadd, 1) := by decide +kernel
theorem dX7_byBells_131 : decode cX7_byBells 131 = .ok (.aload_n 0, 1) := by decide +kernel
theorem dX7_byBells_132 : decode cX7_byBells 132 = .ok (.iload 5, 2) := by decide +kernel
theorem dX7_byBells_134 : decode cX7_byBells 134 = .ok (.invokevirtual 213, 3) := by decide +kernel
theorem dX7_byBells_137 : decode cX7_byBells 137 = .ok (.invokevirtual 220, 3) := by decide +kernel
theorem dX7_byBells_140 : decode cX7_byBells 140 = .ok (.ifCond .eq 81, 3) := by decide +kernel
theorem dX7_byBells_143 : decode cX7_byBells 143 = .ok (.aload_n 0, 1) := by decide +kernel
theorem dX7_byBells_144 : decode cX7_byBells 144 = .ok (.getfield 16, 3) := by decide +kernel
theorem dX7_byBells_147 : decode cX7_byBells 147 = .ok (.bipush 13, 2) := by decide +kernel
theorem dX7_byBells_149 : decode cX7_byBells 149 = .ok (.iconst 3, 1) := by decide +kernel
theorem dX7_byBells_150 : decode cX7_byBells 150 = .ok (.iload 5, 2) := by decide +kernel
theorem dX7_byBells_152 : decode cX7_byBells 152 = .ok (.imul, 1) := by decide +kernel
theorem dX7_byBells_153 : decode cX7_byBells 153 = .ok (.iadd, 1) := by decide +kernel
theorem dX7_byBells_154 : decode cX7_byBells 154 = .ok (.iaload, 1) := by decide +kernel
theorem dX7_byBells_155 : decode cX7_byBells 155 = .ok (.istore 6, 2) := by decide +kernel
theorem dX7_byBells_157 : decode cX7_byBells 157 = .ok (.aload_n 0, 1) := by decide +kernel
theorem dX7_byBells_158 : decode cX7_byBells 158 = .ok (.getfield 16, 3) := by decide +kernel
theorem dX7_byBells_161 : decode cX7_byBells 161 = .ok (.bipush 13, 2) := by decide +kernel
theorem dX7_byBells_163 : decode cX7_byBells 163 = .ok (.iconst 3, 1) := by decide +kernel
theorem dX7_byBells_164 : decode cX7_byBells 164 = .ok (.iload 5, 2) := by decide +kernel
theorem dX7_byBells_166 : decode cX7_byBells 166 = .ok (.imul, 1) := by decide +kernel
theorem dX7_byBells_167 : decode cX7_byBells 167 = .ok (.iadd, 1) := by decide +kernel
theorem dX7_byBells_168 : decode cX7_byBells 168 = .ok (.iconst 1, 1) := by decide +kernel
theorem dX7_byBells_169 : decode cX7_byBells 169 = .ok (.iadd, 1) := by decide +kernel
theorem dX7_byBells_170 : decode cX7_byBells 170 = .ok (.iaload, 1) := by decide +kernel
theorem dX7_byBells_171 : decode cX7_byBells 171 = .ok (.istore 7, 2) := by decide +kernel
theorem dX7_byBells_173 : decode cX7_byBells 173 = .ok (.aload_n 0, 1) := by decide +kernel
theorem dX7_byBells_174 : decode cX7_byBells 174 = .ok (.getfield 43, 3) := by decide +kernel
theorem dX7_byBells_177 : decode cX7_byBells 177 = .ok (.iload 4, 2) := by decide +kernel
theorem dX7_byBells_179 : decode cX7_byBells 179 = .ok (.aload_n 0, 1) := by decide +kernel
theorem dX7_byBells_180 : decode cX7_byBells 180 = .ok (.iload 5, 2) := by decide +kernel
theorem dX7_byBells_182 : decode cX7_byBells 182 = .ok (.invokevirtual 213, 3) := by decide +kernel
theorem dX7_byBells_185 : decode cX7_byBells 185 = .ok (.iadd, 1) := by decide +kernel
theorem dX7_byBells_186 : decode cX7_byBells 186 = .ok (.dup2, 1) := by decide +kernel
theorem dX7_byBells_187 : decode cX7_byBells 187 = .ok (.iaload, 1) := by decide +kernel
theorem dX7_byBells_188 : decode cX7_byBells 188 = .ok (.aload_n 0, 1) := by decide +kernel
theorem dX7_byBells_189 : decode cX7_byBells 189 = .ok (.getfield 43, 3) := by decide +kernel
theorem dX7_byBells_192 : decode cX7_byBells 192 = .ok (.iload 4, 2) := by decide +kernel
theorem dX7_byBells_194 : decode cX7_byBells 194 = .ok (.iaload, 1) := by decide +kernel
theorem dX7_byBells_195 : decode cX7_byBells 195 = .ok (.iload 6, 2) := by decide +kernel
theorem dX7_byBells_197 : decode cX7_byBells 197 = .ok (.ishr, 1) := by decide +kernel
theorem dX7_byBells_198 : decode cX7_byBells 198 = .ok (.iconst 1, 1) := by decide +kernel
theorem dX7_byBells_199 : decode cX7_byBells 199 = .ok (.iand, 1) := by decide +kernel
theorem dX7_byBells_200 : decode cX7_byBells 200 = .ok (.iload 7, 2) := by decide +kernel
theorem dX7_byBells_202 : decode cX7_byBells 202 = .ok (.ishl, 1) := by decide +kernel
theorem dX7_byBells_203 : decode cX7_byBells 203 = .ok (.aload_n 0, 1) := by decide +kernel
theorem dX7_byBells_204 : decode cX7_byBells 204 = .ok (.getfield 43, 3) := by decide +kernel
theorem dX7_byBells_207 : decode cX7_byBells 207 = .ok (.iload 4, 2) := by decide +kernel
theorem dX7_byBells_209 : decode cX7_byBells 209 = .ok (.iaload, 1) := by decide +kernel
theorem dX7_byBells_210 : decode cX7_byBells 210 = .ok (.iload 7, 2) := by decide +kernel
theorem dX7_byBells_212 : decode cX7_byBells 212 = .ok (.ishr, 1) := by decide +kernel
theorem dX7_byBells_213 : decode cX7_byBells 213 = .ok (.iconst 1, 1) := by decide +kernel
theorem dX7_byBells_214 : decode cX7_byBells 214 = .ok (.iand, 1) := by decide +kernel
theorem dX7_byBells_215 : decode cX7_byBells 215 = .ok (.iload 6, 2) := by decide +kernel
theorem dX7_byBells_217 : decode cX7_byBells 217 = .ok (.ishl, 1) := by decide +kernel
theorem dX7_byBells_218 : decode cX7_byBells 218 = .ok (.ior, 1) := by decide +kernel
theorem dX7_byBells_219 : decode cX7_byBells 219 = .ok (.ior, 1) := by decide +kernel
theorem dX7_byBells_220 : decode cX7_byBells 220 = .ok (.iastore, 1) := by decide +kernel
theorem dX7_byBells_221 : decode cX7_byBells 221 = .ok (.iinc 5 1, 3) := by decide +kernel
theorem dX7_byBells_224 : decode cX7_byBells 224 = .ok (.goto (-109), 3) := by decide +kernel
theorem dX7_byBells_227 : decode cX7_byBells 227 = .ok (.iinc 4 1, 3) := by decide +kernel
theorem dX7_byBells_230 : decode cX7_byBells 230 = .ok (.goto (-163), 3) := by decide +kernel
theorem dX7_byBells_233 : decode cX7_byBells 233 = .ok (.bipush (-9), 2) := by decide +kernel
theorem dX7_byBells_235 : decode cX7_byBells 235 = .ok (.ireturn, 1) := by decide +kernel
set_option maxRecDepth 20000 in
theorem ggX7_taught_X7_isGuide : GoodIn wsX7_taught wsX7_isGuide := goodIn_r _ [6, 1, 7, 8, 5, 9, 25, 26, 27, 28, 29, 30, 31, 32, 33, 34, 35, 36, 37, 38, 39, 40, 41, 42, 43, 44, 45, 46, 47, 48, 49, 50, 51, 52, 53, 54, 55, 56, 57, 58] (by decide +kernel) (by decide +kernel)
set_option maxRecDepth 20000 in
theorem gX7_taught_X7_isGuide : GoodIn wsX7_taught (wsV RX7 181 RX7 yX7_isGuide wsX7_isGuide) := goodIn_app (goodIn_of _ (by decide +kernel)) ggX7_taught_X7_isGuide
set_option maxRecDepth 20000 in
theorem ggX7_taught_X7_in : GoodIn wsX7_taught wsX7_in := goodIn_r _ [9] (by decide +kernel) (by decide +kernel)
set_option maxRecDepth 20000 in
theorem gX7_taught_X7_in : GoodIn wsX7_taught (va_wsS RX7 87 yX7_in wsX7_in) := goodIn_app (goodIn_of _ (by decide +kernel)) ggX7_taught_X7_in
set_option maxRecDepth 20000 in
theorem ggX7_taught_X7_known : GoodIn wsX7_taught wsX7_known := goodIn_r _ [13, 1, 25, 26, 27, 28, 29, 30, 31, 32, 33, 34, 35, 36, 37, 38, 39, 40, 41, 42, 43, 44, 45, 46, 47, 48, 49, 50, 51, 52, 53, 54, 55, 56, 57, 58] (by decide +kernel) (by decide +kernel)
set_option maxRecDepth 20000 in
theorem gX7_taught_X7_known : GoodIn wsX7_taught (wsV RX7 192 RX7 yX7_known wsX7_known) := goodIn_app (goodIn_of _ (by decide +kernel)) ggX7_taught_X7_known
set_option maxRecDepth 20000 in
theorem ggX7_taught_X7_his : GoodIn wsX7_taught wsX7_his := goodIn_r _ [17, 1, 25, 26, 27, 28, 29, 30, 31, 32, 33, 34, 35, 36, 37, 38, 39, 40, 41, 42, 43, 44, 45, 46, 47, 48, 49, 50, 51, 52, 53, 54, 55, 56, 57, 58] (by decide +kernel) (by decide +kernel)
set_option maxRecDepth 20000 in
theorem gX7_taught_X7_his : GoodIn wsX7_taught (wsV RX7 169 RX7 yX7_his wsX7_his) := goodIn_app (goodIn_of _ (by decide +kernel)) ggX7_taught_X7_his
set_option maxRecDepth 20000 in
theorem ggX7_taught_X7_reach : GoodIn wsX7_taught wsX7_reach := goodIn_r _ [21, 1, 25, 26, 27, 28, 29, 30, 31, 32, 33, 34, 35, 36, 37, 38, 39, 40, 41, 42, 43, 44, 45, 46, 47, 48, 49, 50, 51, 52, 53, 54, 55, 56, 57, 58] (by decide +kernel) (by decide +kernel)
set_option maxRecDepth 20000 in
theorem gX7_taught_X7_reach : GoodIn wsX7_taught (wsV RX7 257 RX7 yX7_reach wsX7_reach) := goodIn_app (goodIn_of _ (by decide +kernel)) ggX7_taught_X7_reach
set_option maxRecDepth 20000 in
theorem ggX7_taught_X7_many : GoodIn wsX7_taught wsX7_many := goodIn_r _ [24] (by decide +kernel) (by decide +kernel)
set_option maxRecDepth 20000 in
theorem gX7_taught_X7_many : GoodIn wsX7_taught (va_wsS RX7 265 yX7_many wsX7_many) := goodIn_app (goodIn_of _ (by decide +kernel)) ggX7_taught_X7_many
theorem dX7_taught_0 : decode cX7_taught 0 = .ok (.aload_n 0, 1) := by decide +kernel
theorem dX7_taught_1 : decode cX7_taught 1 = .ok (.iload_n 1, 1) := by decide +kernel
theorem dX7_taught_2 : decode cX7_taught 2 = .ok (.invokevirtual 181, 3) := by decide +kernel
theorem dX7_taught_5 : decode cX7_taught 5 = .ok (.ifCond .eq 13, 3) := by decide +kernel
theorem dX7_taught_8 : decode cX7_taught 8 = .ok (.iload_n 2, 1) := by decide +kernel
theorem dX7_taught_9 : decode cX7_taught 9 = .ok (.i2l, 1) := by decide +kernel
theorem dX7_taught_10 : decode cX7_taught 10 = .ok (.lconst 0, 1) := by decide +kernel
theorem dX7_taught_11 : decode cX7_taught 11 = .ok (.lconst 1, 1) := by decide +kernel
theorem dX7_taught_12 : decode cX7_taught 12 = .ok (.invokestatic 87, 3) := by decide +kernel
theorem dX7_taught_15 : decode cX7_taught 15 = .ok (.ifCond .ne 5, 3) := by decide +kernel
theorem dX7_taught_18 : decode cX7_taught 18 = .ok (.iconst (-1), 1) := by decide +kernel
theorem dX7_taught_19 : decode cX7_taught 19 = .ok (.ireturn, 1) := by decide +kernel
theorem dX7_taught_20 : decode cX7_taught 20 = .ok (.bipush (-9), 2) := by decide +kernel
theorem dX7_taught_22 : decode cX7_taught 22 = .ok (.istore_n 3, 1) := by decide +kernel
theorem dX7_taught_23 : decode cX7_taught 23 = .ok (.bipush (-9), 2) := by decide +kernel
theorem dX7_taught_25 : decode cX7_taught 25 = .ok (.istore 4, 2) := by decide +kernel
theorem dX7_taught_27 : decode cX7_taught 27 = .ok (.iconst 0, 1) := by decide +kernel
theorem dX7_taught_28 : decode cX7_taught 28 = .ok (.istore 5, 2) := by decide +kernel
theorem dX7_taught_30 : decode cX7_taught 30 = .ok (.iload 5, 2) := by decide +kernel
theorem dX7_taught_32 : decode cX7_taught 32 = .ok (.aload_n 0, 1) := by decide +kernel
theorem dX7_taught_33 : decode cX7_taught 33 = .ok (.getfield 16, 3) := by decide +kernel
theorem dX7_taught_36 : decode cX7_taught 36 = .ok (.iconst 1, 1) := by decide +kernel
theorem dX7_taught_37 : decode cX7_taught 37 = .ok (.iaload, 1) := by decide +kernel
theorem dX7_taught_38 : decode cX7_taught 38 = .ok (.if_icmp .ge 76, 3) := by decide +kernel
theorem dX7_taught_41 : decode cX7_taught 41 = .ok (.aload_n 0, 1) := by decide +kernel
theorem dX7_taught_42 : decode cX7_taught 42 = .ok (.iload_n 1, 1) := by decide +kernel
theorem dX7_taught_43 : decode cX7_taught 43 = .ok (.invokevirtual 192, 3) := by decide +kernel
theorem dX7_taught_46 : decode cX7_taught 46 = .ok (.iload 5, 2) := by decide +kernel
theorem dX7_taught_48 : decode cX7_taught 48 = .ok (.ishr, 1) := by decide +kernel
theorem dX7_taught_49 : decode cX7_taught 49 = .ok (.iconst 1, 1) := by decide +kernel
theorem dX7_taught_50 : decode cX7_taught 50 = .ok (.iand, 1) := by decide +kernel
theorem dX7_taught_51 : decode cX7_taught 51 = .ok (.ifCond .ne 57, 3) := by decide +kernel
theorem dX7_taught_54 : decode cX7_taught 54 = .ok (.aload_n 0, 1) := by decide +kernel
theorem dX7_taught_55 : decode cX7_taught 55 = .ok (.aload_n 0, 1) := by decide +kernel
theorem dX7_taught_56 : decode cX7_taught 56 = .ok (.iload_n 1, 1) := by decide +kernel
theorem dX7_taught_57 : decode cX7_taught 57 = .ok (.invokevirtual 169, 3) := by decide +kernel
theorem dX7_taught_60 : decode cX7_taught 60 = .ok (.aload_n 0, 1) := by decide +kernel
theorem dX7_taught_61 : decode cX7_taught 61 = .ok (.iload_n 1, 1) := by decide +kernel
theorem dX7_taught_62 : decode cX7_taught 62 = .ok (.invokevirtual 192, 3) := by decide +kernel
theorem dX7_taught_65 : decode cX7_taught 65 = .ok (.iconst 1, 1) := by decide +kernel
theorem dX7_taught_66 : decode cX7_taught 66 = .ok (.iload 5, 2) := by decide +kernel
theorem dX7_taught_68 : decode cX7_taught 68 = .ok (.ishl, 1) := by decide +kernel
theorem dX7_taught_69 : decode cX7_taught 69 = .ok (.ior, 1) := by decide +kernel
theorem dX7_taught_70 : decode cX7_taught 70 = .ok (.invokevirtual 257, 3) := by decide +kernel
theorem dX7_taught_73 : decode cX7_taught 73 = .ok (.invokestatic 265, 3) := by decide +kernel
theorem dX7_taught_76 : decode cX7_taught 76 = .ok (.istore 6, 2) := by decide +kernel
theorem dX7_taught_78 : decode cX7_taught 78 = .ok (.iload 6, 2) := by decide +kernel
theorem dX7_taught_80 : decode cX7_taught 80 = .ok (.iload 4, 2) := by decide +kernel
theorem dX7_taught_82 : decode cX7_taught 82 = .ok (.if_icmp .le 8, 3) := by decide +kernel
theorem dX7_taught_85 : decode cX7_taught 85 = .ok (.iload 5, 2) := by decide +kernel
theorem dX7_taught_87 : decode cX7_taught 87 = .ok (.goto 4, 3) := by decide +kernel
theorem dX7_taught_90 : decode cX7_taught 90 = .ok (.iload_n 3, 1) := by decide +kernel
theorem dX7_taught_91 : decode cX7_taught 91 = .ok (.istore_n 3, 1) := by decide +kernel
theorem dX7_taught_92 : decode cX7_taught 92 = .ok (.iload 6, 2) := by decide +kernel
theorem dX7_taught_94 : decode cX7_taught 94 = .ok (.iload 4, 2) := by decide +kernel
theorem dX7_taught_96 : decode cX7_taught 96 = .ok (.if_icmp .le 8, 3) := by decide +kernel
theorem dX7_taught_99 : decode cX7_taught 99 = .ok (.iload 6, 2) := by decide +kernel
theorem dX7_taught_101 : decode cX7_taught 101 = .ok (.goto 5, 3) := by decide +kernel
theorem dX7_taught_104 : decode cX7_taught 104 = .ok (.iload 4, 2) := by decide +kernel
theorem dX7_taught_106 : decode cX7_taught 106 = .ok (.istore 4, 2) := by decide +kernel
theorem dX7_taught_108 : decode cX7_taught 108 = .ok (.iinc 5 1, 3) := by decide +kernel
theorem dX7_taught_111 : decode cX7_taught 111 = .ok (.goto (-81), 3) := by decide +kernel
theorem dX7_taught_114 : decode cX7_taught 114 = .ok (.iload_n 2, 1) := by decide +kernel
theorem dX7_taught_115 : decode cX7_taught 115 = .ok (.ifCond .ne 7, 3) := by decide +kernel
theorem dX7_taught_118 : decode cX7_taught 118 = .ok (.iload_n 3, 1) := by decide +kernel
theorem dX7_taught_119 : decode cX7_taught 119 = .ok (.goto 5, 3) := by decide +kernel
theorem dX7_taught_122 : decode cX7_taught 122 = .ok (.iload 4, 2) := by decide +kernel
theorem dX7_taught_124 : decode cX7_taught 124 = .ok (.ireturn, 1) := by decide +kernel
set_option maxRecDepth 20000 in
theorem ggX7_feels_X7_in : GoodIn wsX7_feels wsX7_in := goodIn_r _ [7] (by decide +kernel) (by decide +kernel)
set_option maxRecDepth 20000 in
theorem gX7_feels_X7_in : GoodIn wsX7_feels (va_wsS RX7 87 yX7_in wsX7_in) := goodIn_app (goodIn_of _ (by decide +kernel)) ggX7_feels_X7_in
theorem dX7_feels_0 : decode cX7_feels 0 = .ok (.iload_n 1, 1) := by decide +kernel
theorem dX7_feels_1 : decode cX7_feels 1 = .ok (.i2l, 1) := by decide +kernel
theorem dX7_feels_2 : decode cX7_feels 2 = .ok (.lconst 0, 1) := by decide +kernel
theorem dX7_feels_3 : decode cX7_feels 3 = .ok (.ldc2_w 184, 3) := by decide +kernel
theorem dX7_feels_6 : decode cX7_feels 6 = .ok (.invokestatic 87, 3) := by decide +kernel
theorem dX7_feels_9 : decode cX7_feels 9 = .ok (.ifCond .ne 5, 3) := by decide +kernel
theorem dX7_feels_12 : decode cX7_feels 12 = .ok (.iconst (-1), 1) := by decide +kernel
theorem dX7_feels_13 : decode cX7_feels 13 = .ok (.ireturn, 1) := by decide +kernel
theorem dX7_feels_14 : decode cX7_feels 14 = .ok (.aload_n 0, 1) := by decide +kernel
theorem dX7_feels_15 : decode cX7_feels 15 = .ok (.getfield 157, 3) := by decide +kernel
theorem dX7_feels_18 : decode cX7_feels 18 = .ok (.bipush 6, 2) := by decide +kernel
theorem dX7_feels_20 : decode cX7_feels 20 = .ok (.if_icmp .ne 6, 3) := by decide +kernel
theorem dX7_feels_23 : decode cX7_feels 23 = .ok (.bipush (-3), 2) := by decide +kernel
theorem dX7_feels_25 : decode cX7_feels 25 = .ok (.ireturn, 1) := by decide +kernel
theorem dX7_feels_26 : decode cX7_feels 26 = .ok (.aload_n 0, 1) := by decide +kernel
theorem dX7_feels_27 : decode cX7_feels 27 = .ok (.getfield 46, 3) := by decide +kernel
theorem dX7_feels_30 : decode cX7_feels 30 = .ok (.aload_n 0, 1) := by decide +kernel
theorem dX7_feels_31 : decode cX7_feels 31 = .ok (.getfield 157, 3) := by decide +kernel
theorem dX7_feels_34 : decode cX7_feels 34 = .ok (.iload_n 1, 1) := by decide +kernel
theorem dX7_feels_35 : decode cX7_feels 35 = .ok (.iastore, 1) := by decide +kernel
theorem dX7_feels_36 : decode cX7_feels 36 = .ok (.aload_n 0, 1) := by decide +kernel
theorem dX7_feels_37 : decode cX7_feels 37 = .ok (.dup, 1) := by decide +kernel
theorem dX7_feels_38 : decode cX7_feels 38 = .ok (.getfield 157, 3) := by decide +kernel
theorem dX7_feels_41 : decode cX7_feels 41 = .ok (.iconst 1, 1) := by decide +kernel
theorem dX7_feels_42 : decode cX7_feels 42 = .ok (.iadd, 1) := by decide +kernel
theorem dX7_feels_43 : decode cX7_feels 43 = .ok (.putfield 157, 3) := by decide +kernel
theorem dX7_feels_46 : decode cX7_feels 46 = .ok (.aload_n 0, 1) := by decide +kernel
theorem dX7_feels_47 : decode cX7_feels 47 = .ok (.getfield 157, 3) := by decide +kernel
theorem dX7_feels_50 : decode cX7_feels 50 = .ok (.ireturn, 1) := by decide +kernel
set_option maxRecDepth 20000 in
theorem ggX7_areBeside_X7_over : GoodIn wsX7_areBeside wsX7_over := goodIn_r _ [6, 1, 7, 8, 9, 10, 11, 12, 13, 14, 15, 16, 17, 18, 19, 20, 21, 22, 23, 24, 25, 26, 27, 28, 29, 30, 31, 32, 33, 34, 35, 36, 37, 38, 39, 40] (by decide +kernel) (by decide +kernel)
set_option maxRecDepth 20000 in
theorem gX7_areBeside_X7_over : GoodIn wsX7_areBeside (wsV RX7 209 RX7 yX7_over wsX7_over) := goodIn_app (goodIn_of _ (by decide +kernel)) ggX7_areBeside_X7_over
theorem dX7_areBeside_0 : decode cX7_areBeside 0 = .ok (.iconst 0, 1) := by decide +kernel
theorem dX7_areBeside_1 : decode cX7_areBeside 1 = .ok (.istore_n 3, 1) := by decide +kernel
theorem dX7_areBeside_2 : decode cX7_areBeside 2 = .ok (.iconst 0, 1) := by decide +kernel
theorem dX7_areBeside_3 : decode cX7_areBeside 3 = .ok (.istore 4, 2) := by decide +kernel
theorem dX7_areBeside_5 : decode cX7_areBeside 5 = .ok (.iload 4, 2) := by decide +kernel
theorem dX7_areBeside_7 : decode cX7_areBeside 7 = .ok (.aload_n 0, 1) := by decide +kernel
theorem dX7_areBeside_8 : decode cX7_areBeside 8 = .ok (.getfield 16, 3) := by decide +kernel
theorem dX7_areBeside_11 : decode cX7_areBeside 11 = .ok (.iconst 1, 1) := by decide +kernel
theorem dX7_areBeside_12 : decode cX7_areBeside 12 = .ok (.iaload, 1) := by decide +kernel
theorem dX7_areBeside_13 : decode cX7_areBeside 13 = .ok (.if_icmp .ge 30, 3) := by decide +kernel
theorem dX7_areBeside_16 : decode cX7_areBeside 16 = .ok (.iload_n 3, 1) := by decide +kernel
theorem dX7_areBeside_17 : decode cX7_areBeside 17 = .ok (.ifCond .ne 14, 3) := by decide +kernel
theorem dX7_areBeside_20 : decode cX7_areBeside 20 = .ok (.aload_n 0, 1) := by decide +kernel
theorem dX7_areBeside_21 : decode cX7_areBeside 21 = .ok (.iload 4, 2) := by decide +kernel
theorem dX7_areBeside_23 : decode cX7_areBeside 23 = .ok (.iload_n 1, 1) := by decide +kernel
theorem dX7_areBeside_24 : decode cX7_areBeside 24 = .ok (.invokevirtual 209, 3) := by decide +kernel
theorem dX7_areBeside_27 : decode cX7_areBeside 27 = .ok (.iload_n 2, 1) := by decide +kernel
theorem dX7_areBeside_28 : decode cX7_areBeside 28 = .ok (.if_icmp .ne 7, 3) := by decide +kernel
theorem dX7_areBeside_31 : decode cX7_areBeside 31 = .ok (.iconst 1, 1) := by decide +kernel
theorem dX7_areBeside_32 : decode cX7_areBeside 32 = .ok (.goto 4, 3) := by decide +kernel
theorem dX7_areBeside_35 : decode cX7_areBeside 35 = .ok (.iconst 0, 1) := by decide +kernel
theorem dX7_areBeside_36 : decode cX7_areBeside 36 = .ok (.istore_n 3, 1) := by decide +kernel
theorem dX7_areBeside_37 : decode cX7_areBeside 37 = .ok (.iinc 4 1, 3) := by decide +kernel
theorem dX7_areBeside_40 : decode cX7_areBeside 40 = .ok (.goto (-35), 3) := by decide +kernel
theorem dX7_areBeside_43 : decode cX7_areBeside 43 = .ok (.iload_n 3, 1) := by decide +kernel
theorem dX7_areBeside_44 : decode cX7_areBeside 44 = .ok (.ireturn, 1) := by decide +kernel
set_option maxRecDepth 20000 in
theorem ggX7_went_X7_isCorner : GoodIn wsX7_went wsX7_isCorner := goodIn_r _ [7, 8, 9, 10, 6, 11, 20, 21, 22, 23, 24, 25, 26, 27, 28, 29, 30, 31, 32, 33, 34, 35, 36, 37, 38, 39, 40, 41, 42, 43, 44, 45, 46, 47, 48, 49, 50, 51, 52, 53] (by decide +kernel) (by decide +kernel)
set_option maxRecDepth 20000 in
theorem gX7_went_X7_isCorner : GoodIn wsX7_went (wsV RX7 173 RX7 yX7_isCorner wsX7_isCorner) := goodIn_app (goodIn_of _ (by decide +kernel)) ggX7_went_X7_isCorner
set_option maxRecDepth 20000 in
theorem ggX7_went_X7_areBeside : GoodIn wsX7_went wsX7_areBeside := goodIn_r _ [15, 8, 16, 17, 18, 6, 19, 20, 21, 22, 23, 24, 25, 26, 27, 28, 29, 30, 31, 32, 33, 34, 35, 36, 37, 38, 39, 40, 41, 42, 43, 44, 45, 46, 47, 48, 49, 50, 51, 52, 53] (by decide +kernel) (by decide +kernel)
set_option maxRecDepth 20000 in
theorem gX7_went_X7_areBeside : GoodIn wsX7_went (wsV RX7 268 RX7 yX7_areBeside wsX7_areBeside) := goodIn_app (goodIn_of _ (by decide +kernel)) ggX7_went_X7_areBeside
theorem dX7_went_0 : decode cX7_went 0 = .ok (.aload_n 0, 1) := by decide +kernel
theorem dX7_went_1 : decode cX7_went 1 = .ok (.iload_n 1, 1) := by decide +kernel
theorem dX7_went_2 : decode cX7_went 2 = .ok (.invokevirtual 173, 3) := by decide +kernel
theorem dX7_went_5 : decode cX7_went 5 = .ok (.ifCond .ne 5, 3) := by decide +kernel
theorem dX7_went_8 : decode cX7_went 8 = .ok (.iconst (-1), 1) := by decide +kernel
theorem dX7_went_9 : decode cX7_went 9 = .ok (.ireturn, 1) := by decide +kernel
theorem dX7_went_10 : decode cX7_went 10 = .ok (.aload_n 0, 1) := by decide +kernel
theorem dX7_went_11 : decode cX7_went 11 = .ok (.getfield 160, 3) := by decide +kernel
theorem dX7_went_14 : decode cX7_went 14 = .ok (.ifCond .le 25, 3) := by decide +kernel
theorem dX7_went_17 : decode cX7_went 17 = .ok (.aload_n 0, 1) := by decide +kernel
theorem dX7_went_18 : decode cX7_went 18 = .ok (.aload_n 0, 1) := by decide +kernel
theorem dX7_went_19 : decode cX7_went 19 = .ok (.getfield 49, 3) := by decide +kernel
theorem dX7_went_22 : decode cX7_went 22 = .ok (.aload_n 0, 1) := by decide +kernel
theorem dX7_went_23 : decode cX7_went 23 = .ok (.getfield 160, 3) := by decide +kernel
theorem dX7_went_26 : decode cX7_went 26 = .ok (.iconst 1, 1) := by decide +kernel
theorem dX7_went_27 : decode cX7_went 27 = .ok (.isub, 1) := by decide +kernel
theorem dX7_went_28 : decode cX7_went 28 = .ok (.iaload, 1) := by decide +kernel
theorem dX7_went_29 : decode cX7_went 29 = .ok (.iload_n 1, 1) := by decide +kernel
theorem dX7_went_30 : decode cX7_went 30 = .ok (.invokevirtual 268, 3) := by decide +kernel
theorem dX7_went_33 : decode cX7_went 33 = .ok (.ifCond .ne 6, 3) := by decide +kernel
theorem dX7_went_36 : decode cX7_went 36 = .ok (.bipush (-2), 2) := by decide +kernel
theorem dX7_went_38 : decode cX7_went 38 = .ok (.ireturn, 1) := by decide +kernel
theorem dX7_went_39 : decode cX7_went 39 = .ok (.aload_n 0, 1) := by decide +kernel
theorem dX7_went_40 : decode cX7_went 40 = .ok (.getfield 160, 3) := by decide +kernel
theorem dX7_went_43 : decode cX7_went 43 = .ok (.bipush 6, 2) := by decide +kernel
theorem dX7_went_45 : decode cX7_went 45 = .ok (.if_icmp .ne 6, 3) := by decide +kernel
theorem dX7_went_48 : decode cX7_went 48 = .ok (.bipush (-3), 2) := by decide +kernel
theorem dX7_went_50 : decode cX7_went 50 = .ok (.ireturn, 1) := by decide +kernel
theorem dX7_went_51 : decode cX7_went 51 = .ok (.aload_n 0, 1) := by decide +kernel
theorem dX7_went_52 : decode cX7_went 52 = .ok (.getfield 49, 3) := by decide +kernel
theorem dX7_went_55 : decode cX7_went 55 = .ok (.aload_n 0, 1) := by decide +kernel
theorem dX7_went_56 : decode cX7_went 56 = .ok (.getfield 160, 3) := by decide +kernel
theorem dX7_went_59 : decode cX7_went 59 = .ok (.iload_n 1, 1) := by decide +kernel
theorem dX7_went_60 : decode cX7_went 60 = .ok (.iastore, 1) := by decide +kernel
theorem dX7_went_61 : decode cX7_went 61 = .ok (.aload_n 0, 1) := by decide +kernel
theorem dX7_went_62 : decode cX7_went 62 = .ok (.dup, 1) := by decide +kernel
theorem dX7_went_63 : decode cX7_went 63 = .ok (.getfield 160, 3) := by decide +kernel
theorem dX7_went_66 : decode cX7_went 66 = .ok (.iconst 1, 1) := by decide +kernel
theorem dX7_went_67 : decode cX7_went 67 = .ok (.iadd, 1) := by decide +kernel
theorem dX7_went_68 : decode cX7_went 68 = .ok (.putfield 160, 3) := by decide +kernel
theorem dX7_went_71 : decode cX7_went 71 = .ok (.aload_n 0, 1) := by decide +kernel
theorem dX7_went_72 : decode cX7_went 72 = .ok (.getfield 160, 3) := by decide +kernel
theorem dX7_went_75 : decode cX7_went 75 = .ok (.ireturn, 1) := by decide +kernel
theorem dX7_forget_0 : decode cX7_forget 0 = .ok (.aload_n 0, 1) := by decide +kernel
theorem dX7_forget_1 : decode cX7_forget 1 = .ok (.getfield 157, 3) := by decide +kernel
theorem dX7_forget_4 : decode cX7_forget 4 = .ok (.aload_n 0, 1) := by decide +kernel
theorem dX7_forget_5 : decode cX7_forget 5 = .ok (.getfield 160, 3) := by decide +kernel
theorem dX7_forget_8 : decode cX7_forget 8 = .ok (.iadd, 1) := by decide +kernel
theorem dX7_forget_9 : decode cX7_forget 9 = .ok (.istore_n 1, 1) := by decide +kernel
theorem dX7_forget_10 : decode cX7_forget 10 = .ok (.aload_n 0, 1) := by decide +kernel
theorem dX7_forget_11 : decode cX7_forget 11 = .ok (.iconst 0, 1) := by decide +kernel
theorem dX7_forget_12 : decode cX7_forget 12 = .ok (.putfield 157, 3) := by decide +kernel
theorem dX7_forget_15 : decode cX7_forget 15 = .ok (.aload_n 0, 1) := by decide +kernel
theorem dX7_forget_16 : decode cX7_forget 16 = .ok (.iconst 0, 1) := by decide +kernel
theorem dX7_forget_17 : decode cX7_forget 17 = .ok (.putfield 160, 3) := by decide +kernel
theorem dX7_forget_20 : decode cX7_forget 20 = .ok (.iload_n 1, 1) := by decide +kernel
theorem dX7_forget_21 : decode cX7_forget 21 = .ok (.ireturn, 1) := by decide +kernel
set_option maxRecDepth 20000 in
theorem ggX7_fit_X7_areBeside : GoodIn wsX7_fit wsX7_areBeside := goodIn_r _ [12, 1, 13, 14, 15, 11, 16, 17, 18, 19, 20, 21, 22, 23, 24, 25, 26, 27, 28, 29, 30, 31, 32, 33, 34, 35, 36, 37, 38, 39, 40, 41, 42, 43, 44, 45, 46, 47, 48, 49, 50] (by decide +kernel) (by decide +kernel)
set_option maxRecDepth 20000 in
theorem gX7_fit_X7_areBeside : GoodIn wsX7_fit (wsV RX7 268 RX7 yX7_areBeside wsX7_areBeside) := goodIn_app (goodIn_of _ (by decide +kernel)) ggX7_fit_X7_areBeside
theorem dX7_fit_0 : decode cX7_fit 0 = .ok (.iconst 0, 1) := by decide +kernel
theorem dX7_fit_1 : decode cX7_fit 1 = .ok (.istore_n 1, 1) := by decide +kernel
theorem dX7_fit_2 : decode cX7_fit 2 = .ok (.iload_n 1, 1) := by decide +kernel
theorem dX7_fit_3 : decode cX7_fit 3 = .ok (.bipush 7, 2) := by decide +kernel
theorem dX7_fit_5 : decode cX7_fit 5 = .ok (.if_icmp .ge 82, 3) := by decide +kernel
theorem dX7_fit_8 : decode cX7_fit 8 = .ok (.iload_n 1, 1) := by decide +kernel
theorem dX7_fit_9 : decode cX7_fit 9 = .ok (.aload_n 0, 1) := by decide +kernel
theorem dX7_fit_10 : decode cX7_fit 10 = .ok (.getfield 16, 3) := by decide +kernel
theorem dX7_fit_13 : decode cX7_fit 13 = .ok (.iconst 0, 1) := by decide +kernel
theorem dX7_fit_14 : decode cX7_fit 14 = .ok (.iaload, 1) := by decide +kernel
theorem dX7_fit_15 : decode cX7_fit 15 = .ok (.if_icmp .ge 32, 3) := by decide +kernel
theorem dX7_fit_18 : decode cX7_fit 18 = .ok (.aload_n 0, 1) := by decide +kernel
theorem dX7_fit_19 : decode cX7_fit 19 = .ok (.getfield 157, 3) := by decide +kernel
theorem dX7_fit_22 : decode cX7_fit 22 = .ok (.ifCond .le 25, 3) := by decide +kernel
theorem dX7_fit_25 : decode cX7_fit 25 = .ok (.aload_n 0, 1) := by decide +kernel
theorem dX7_fit_26 : decode cX7_fit 26 = .ok (.getfield 16, 3) := by decide +kernel
theorem dX7_fit_29 : decode cX7_fit 29 = .ok (.bipush 6, 2) := by decide +kernel
theorem dX7_fit_31 : decode cX7_fit 31 = .ok (.iload_n 1, 1) := by decide +kernel
theorem dX7_fit_32 : decode cX7_fit 32 = .ok (.iadd, 1) := by decide +kernel
theorem dX7_fit_33 : decode cX7_fit 33 = .ok (.iaload, 1) := by decide +kernel
theorem dX7_fit_34 : decode cX7_fit 34 = .ok (.aload_n 0, 1) := by decide +kernel
theorem dX7_fit_35 : decode cX7_fit 35 = .ok (.getfield 46, 3) := by decide +kernel
theorem dX7_fit_38 : decode cX7_fit 38 = .ok (.iconst 0, 1) := by decide +kernel
theorem dX7_fit_39 : decode cX7_fit 39 = .ok (.iaload, 1) := by decide +kernel
theorem dX7_fit_40 : decode cX7_fit 40 = .ok (.if_icmp .ne 7, 3) := by decide +kernel
theorem dX7_fit_43 : decode cX7_fit 43 = .ok (.iconst 1, 1) := by decide +kernel
theorem dX7_fit_44 : decode cX7_fit 44 = .ok (.goto 4, 3) := by decide +kernel
theorem dX7_fit_47 : decode cX7_fit 47 = .ok (.iconst 0, 1) := by decide +kernel
theorem dX7_fit_48 : decode cX7_fit 48 = .ok (.istore_n 2, 1) := by decide +kernel
theorem dX7_fit_49 : decode cX7_fit 49 = .ok (.aload_n 0, 1) := by decide +kernel
theorem dX7_fit_50 : decode cX7_fit 50 = .ok (.getfield 52, 3) := by decide +kernel
theorem dX7_fit_53 : decode cX7_fit 53 = .ok (.iload_n 1, 1) := by decide +kernel
theorem dX7_fit_54 : decode cX7_fit 54 = .ok (.iload_n 2, 1) := by decide +kernel
theorem dX7_fit_55 : decode cX7_fit 55 = .ok (.ifCond .eq 7, 3) := by decide +kernel
theorem dX7_fit_58 : decode cX7_fit 58 = .ok (.iconst 1, 1) := by decide +kernel
theorem dX7_fit_59 : decode cX7_fit 59 = .ok (.goto 4, 3) := by decide +kernel
theorem dX7_fit_62 : decode cX7_fit 62 = .ok (.iconst 0, 1) := by decide +kernel
theorem dX7_fit_63 : decode cX7_fit 63 = .ok (.iastore, 1) := by decide +kernel
theorem dX7_fit_64 : decode cX7_fit 64 = .ok (.aload_n 0, 1) := by decide +kernel
theorem dX7_fit_65 : decode cX7_fit 65 = .ok (.getfield 58, 3) := by decide +kernel
theorem dX7_fit_68 : decode cX7_fit 68 = .ok (.iload_n 1, 1) := by decide +kernel
theorem dX7_fit_69 : decode cX7_fit 69 = .ok (.iload_n 2, 1) := by decide +kernel
theorem dX7_fit_70 : decode cX7_fit 70 = .ok (.ifCond .eq 9, 3) := by decide +kernel
theorem dX7_fit_73 : decode cX7_fit 73 = .ok (.iconst 1, 1) := by decide +kernel
theorem dX7_fit_74 : decode cX7_fit 74 = .ok (.iload_n 1, 1) := by decide +kernel
theorem dX7_fit_75 : decode cX7_fit 75 = .ok (.ishl, 1) := by decide +kernel
theorem dX7_fit_76 : decode cX7_fit 76 = .ok (.goto 4, 3) := by decide +kernel
theorem dX7_fit_79 : decode cX7_fit 79 = .ok (.iconst 0, 1) := by decide +kernel
theorem dX7_fit_80 : decode cX7_fit 80 = .ok (.iastore, 1) := by decide +kernel
theorem dX7_fit_81 : decode cX7_fit 81 = .ok (.iinc 1 1, 3) := by decide +kernel
theorem dX7_fit_84 : decode cX7_fit 84 = .ok (.goto (-82), 3) := by decide +kernel
theorem dX7_fit_87 : decode cX7_fit 87 = .ok (.iconst 1, 1) := by decide +kernel
theorem dX7_fit_88 : decode cX7_fit 88 = .ok (.istore_n 1, 1) := by decide +kernel
theorem dX7_fit_89 : decode cX7_fit 89 = .ok (.iload_n 1, 1) := by decide +kernel
theorem dX7_fit_90 : decode cX7_fit 90 = .ok (.aload_n 0, 1) := by decide +kernel
theorem dX7_fit_91 : decode cX7_fit 91 = .ok (.getfield 157, 3) := by decide +kernel
theorem dX7_fit_94 : decode cX7_fit 94 = .ok (.if_icmp .ge 175, 3) := by decide +kernel
theorem dX7_fit_97 : decode cX7_fit 97 = .ok (.iconst 0, 1) := by decide +kernel
theorem dX7_fit_98 : decode cX7_fit 98 = .ok (.istore_n 2, 1) := by decide +kernel
theorem dX7_fit_99 : decode cX7_fit 99 = .ok (.iload_n 2, 1) := by decide +kernel
theorem dX7_fit_100 : decode cX7_fit 100 = .ok (.aload_n 0, 1) := by decide +kernel
theorem dX7_fit_101 : decode cX7_fit 101 = .ok (.getfield 16, 3) := by decide +kernel
theorem dX7_fit_104 : decode cX7_fit 104 = .ok (.iconst 0, 1) := by decide +kernel
theorem dX7_fit_105 : decode cX7_fit 105 = .ok (.iaload, 1) := by decide +kernel
theorem dX7_fit_106 : decode cX7_fit 106 = .ok (.if_icmp .ge 115, 3) := by decide +kernel
theorem dX7_fit_109 : decode cX7_fit 109 = .ok (.aload_n 0, 1) := by decide +kernel
theorem dX7_fit_110 : decode cX7_fit 110 = .ok (.getfield 55, 3) := by decide +kernel
theorem dX7_fit_113 : decode cX7_fit 113 = .ok (.iload_n 2, 1) := by decide +kernel
theorem dX7_fit_114 : decode cX7_fit 114 = .ok (.iconst 0, 1) := by decide +kernel
theorem dX7_fit_115 : decode cX7_fit 115 = .ok (.iastore, 1) := by decide +kernel
theorem dX7_fit_116 : decode cX7_fit 116 = .ok (.aload_n 0, 1) := by decide +kernel
theorem dX7_fit_117 : decode cX7_fit 117 = .ok (.getfield 61, 3) := by decide +kernel
theorem dX7_fit_120 : decode cX7_fit 120 = .ok (.iload_n 2, 1) := by decide +kernel
theorem dX7_fit_121 : decode cX7_fit 121 = .ok (.iconst 0, 1) := by decide +kernel
theorem dX7_fit_122 : decode cX7_fit 122 = .ok (.iastore, 1) := by decide +kernel
theorem dX7_fit_123 : decode cX7_fit 123 = .ok (.iconst 0, 1) := by decide +kernel
theorem dX7_fit_124 : decode cX7_fit 124 = .ok (.istore_n 3, 1) := by decide +kernel
theorem dX7_fit_125 : decode cX7_fit 125 = .ok (.iload_n 3, 1) := by decide +kernel
theorem dX7_fit_126 : decode cX7_fit 126 = .ok (.aload_n 0, 1) := by decide +kernel
theorem dX7_fit_127 : decode cX7_fit 127 = .ok (.getfield 16, 3) := by decide +kernel
theorem dX7_fit_130 : decode cX7_fit 130 = .ok (.iconst 0, 1) := by decide +kernel
theorem dX7_fit_131 : decode cX7_fit 131 = .ok (.iaload, 1) := by decide +kernel
theorem dX7_fit_132 : decode cX7_fit 132 = .ok (.if_icmp .ge 83, 3) := by decide +kernel
theorem dX7_fit_135 : decode cX7_fit 135 = .ok (.aload_n 0, 1) := by decide +kernel
theorem dX7_fit_136 : decode cX7_fit 136 = .ok (.getfield 16, 3) := by decide +kernel
theorem dX7_fit_139 : decode cX7_fit 139 = .ok (.bipush 6, 2) := by decide +kernel
theorem dX7_fit_141 : decode cX7_fit 141 = .ok (.iload_n 2, 1) := by decide +kernel
theorem dX7_fit_142 : decode cX7_fit 142 = .ok (.iadd, 1) := by decide +kernel
theorem dX7_fit_143 : decode cX7_fit 143 = .ok (.iaload, 1) := by decide +kernel
theorem dX7_fit_144 : decode cX7_fit 144 = .ok (.aload_n 0, 1) := by decide +kernel
theorem dX7_fit_145 : decode cX7_fit 145 = .ok (.getfield 46, 3) := by decide +kernel
theorem dX7_fit_148 : decode cX7_fit 148 = .ok (.iload_n 1, 1) := by decide +kernel
theorem dX7_fit_149 : decode cX7_fit 149 = .ok (.iaload, 1) := by decide +kernel
theorem dX7_fit_150 : decode cX7_fit 150 = .ok (.if_icmp .ne 65, 3) := by decide +kernel
theorem dX7_fit_153 : decode cX7_fit 153 = .ok (.aload_n 0, 1) := by decide +kernel
theorem dX7_fit_154 : decode cX7_fit 154 = .ok (.iload_n 3, 1) := by decide +kernel
theorem dX7_fit_155 : decode cX7_fit 155 = .ok (.iload_n 2, 1) := by decide +kernel
theorem dX7_fit_156 : decode cX7_fit 156 = .ok (.invokevirtual 268, 3) := by decide +kernel
theorem dX7_fit_159 : decode cX7_fit 159 = .ok (.istore 4, 2) := by decide +kernel
theorem dX7_fit_161 : decode cX7_fit 161 = .ok (.aload_n 0, 1) := by decide +kernel
theorem dX7_fit_162 : decode cX7_fit 162 = .ok (.getfield 55, 3) := by decide +kernel
theorem dX7_fit_165 : decode cX7_fit 165 = .ok (.iload_n 2, 1) := by decide +kernel
theorem dX7_fit_166 : decode cX7_fit 166 = .ok (.dup2, 1) := by decide +kernel
theorem dX7_fit_167 : decode cX7_fit 167 = .ok (.iaload, 1) := by decide +kernel
theorem dX7_fit_168 : decode cX7_fit 168 = .ok (.iload 4, 2) := by decide +kernel
theorem dX7_fit_170 : decode cX7_fit 170 = .ok (.ifCond .eq 12, 3) := by decide +kernel
theorem dX7_fit_173 : decode cX7_fit 173 = .ok (.aload_n 0, 1) := by decide +kernel
theorem dX7_fit_174 : decode cX7_fit 174 = .ok (.getfield 52, 3) := by decide +kernel
theorem dX7_fit_177 : decode cX7_fit 177 = .ok (.iload_n 3, 1) := by decide +kernel
theorem dX7_fit_178 : decode cX7_fit 178 = .ok (.iaload, 1) := by decide +kernel
theorem dX7_fit_179 : decode cX7_fit 179 = .ok (.goto 4, 3) := by decide +kernel
theorem dX7_fit_182 : decode cX7_fit 182 = .ok (.iconst 0, 1) := by decide +kernel
theorem dX7_fit_183 : decode cX7_fit 183 = .ok (.iadd, 1) := by decide +kernel
theorem dX7_fit_184 : decode cX7_fit 184 = .ok (.iastore, 1) := by decide +kernel
theorem dX7_fit_185 : decode cX7_fit 185 = .ok (.aload_n 0, 1) := by decide +kernel
theorem dX7_fit_186 : decode cX7_fit 186 = .ok (.getfield 61, 3) := by decide +kernel
theorem dX7_fit_189 : decode cX7_fit 189 = .ok (.iload_n 2, 1) := by decide +kernel
theorem dX7_fit_190 : decode cX7_fit 190 = .ok (.dup2, 1) := by decide +kernel
theorem dX7_fit_191 : decode cX7_fit 191 = .ok (.iaload, 1) := by decide +kernel
theorem dX7_fit_192 : decode cX7_fit 192 = .ok (.iload 4, 2) := by decide +kernel
theorem dX7_fit_194 : decode cX7_fit 194 = .ok (.ifCond .eq 12, 3) := by decide +kernel
theorem dX7_fit_197 : decode cX7_fit 197 = .ok (.aload_n 0, 1) := by decide +kernel
theorem dX7_fit_198 : decode cX7_fit 198 = .ok (.getfield 58, 3) := by decide +kernel
theorem dX7_fit_201 : decode cX7_fit 201 = .ok (.iload_n 3, 1) := by decide +kernel
theorem dX7_fit_202 : decode cX7_fit 202 = .ok (.iaload, 1) := by decide +kernel
theorem dX7_fit_203 : decode cX7_fit 203 = .ok (.goto 4, 3) := by decide +kernel
theorem dX7_fit_206 : decode cX7_fit 206 = .ok (.iconst 0, 1) := by decide +kernel
theorem dX7_fit_207 : decode cX7_fit 207 = .ok (.ior, 1) := by decide +kernel
theorem dX7_fit_208 : decode cX7_fit 208 = .ok (.iastore, 1) := by decide +kernel
theorem dX7_fit_209 : decode cX7_fit 209 = .ok (.iinc 3 1, 3) := by decide +kernel
theorem dX7_fit_212 : decode cX7_fit 212 = .ok (.goto (-87), 3) := by decide +kernel
theorem dX7_fit_215 : decode cX7_fit 215 = .ok (.iinc 2 1, 3) := by decide +kernel
theorem dX7_fit_218 : decode cX7_fit 218 = .ok (.goto (-119), 3) := by decide +kernel
theorem dX7_fit_221 : decode cX7_fit 221 = .ok (.iconst 0, 1) := by decide +kernel
theorem dX7_fit_222 : decode cX7_fit 222 = .ok (.istore_n 2, 1) := by decide +kernel
theorem dX7_fit_223 : decode cX7_fit 223 = .ok (.iload_n 2, 1) := by decide +kernel
theorem dX7_fit_224 : decode cX7_fit 224 = .ok (.aload_n 0, 1) := by decide +kernel
theorem dX7_fit_225 : decode cX7_fit 225 = .ok (.getfield 16, 3) := by decide +kernel
theorem dX7_fit_228 : decode cX7_fit 228 = .ok (.iconst 0, 1) := by decide +kernel
theorem dX7_fit_229 : decode cX7_fit 229 = .ok (.iaload, 1) := by decide +kernel

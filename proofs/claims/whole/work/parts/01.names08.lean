theorem dX7_goesOn_101 : decode cX7_goesOn 101 = .ok (.iadd, 1) := by decide +kernel
theorem dX7_goesOn_102 : decode cX7_goesOn 102 = .ok (.aload_n 0, 1) := by decide +kernel
theorem dX7_goesOn_103 : decode cX7_goesOn 103 = .ok (.getfield 28, 3) := by decide +kernel
theorem dX7_goesOn_106 : decode cX7_goesOn 106 = .ok (.iload 4, 2) := by decide +kernel
theorem dX7_goesOn_108 : decode cX7_goesOn 108 = .ok (.iaload, 1) := by decide +kernel
theorem dX7_goesOn_109 : decode cX7_goesOn 109 = .ok (.iload_n 3, 1) := by decide +kernel
theorem dX7_goesOn_110 : decode cX7_goesOn 110 = .ok (.ifCond .eq 8, 3) := by decide +kernel
theorem dX7_goesOn_113 : decode cX7_goesOn 113 = .ok (.iload 7, 2) := by decide +kernel
theorem dX7_goesOn_115 : decode cX7_goesOn 115 = .ok (.goto 5, 3) := by decide +kernel
theorem dX7_goesOn_118 : decode cX7_goesOn 118 = .ok (.iload 6, 2) := by decide +kernel
theorem dX7_goesOn_120 : decode cX7_goesOn 120 = .ok (.iadd, 1) := by decide +kernel
theorem dX7_goesOn_121 : decode cX7_goesOn 121 = .ok (.aload_n 0, 1) := by decide +kernel
theorem dX7_goesOn_122 : decode cX7_goesOn 122 = .ok (.getfield 31, 3) := by decide +kernel
theorem dX7_goesOn_125 : decode cX7_goesOn 125 = .ok (.iload 4, 2) := by decide +kernel
theorem dX7_goesOn_127 : decode cX7_goesOn 127 = .ok (.iaload, 1) := by decide +kernel
theorem dX7_goesOn_128 : decode cX7_goesOn 128 = .ok (.invokevirtual 241, 3) := by decide +kernel
theorem dX7_goesOn_131 : decode cX7_goesOn 131 = .ok (.iinc 5 1, 3) := by decide +kernel
theorem dX7_goesOn_134 : decode cX7_goesOn 134 = .ok (.goto (-124), 3) := by decide +kernel
theorem dX7_goesOn_137 : decode cX7_goesOn 137 = .ok (.iconst 0, 1) := by decide +kernel
theorem dX7_goesOn_138 : decode cX7_goesOn 138 = .ok (.istore 5, 2) := by decide +kernel
theorem dX7_goesOn_140 : decode cX7_goesOn 140 = .ok (.iload 5, 2) := by decide +kernel
theorem dX7_goesOn_142 : decode cX7_goesOn 142 = .ok (.aload_n 0, 1) := by decide +kernel
theorem dX7_goesOn_143 : decode cX7_goesOn 143 = .ok (.getfield 16, 3) := by decide +kernel
theorem dX7_goesOn_146 : decode cX7_goesOn 146 = .ok (.iconst 2, 1) := by decide +kernel
theorem dX7_goesOn_147 : decode cX7_goesOn 147 = .ok (.iaload, 1) := by decide +kernel
theorem dX7_goesOn_148 : decode cX7_goesOn 148 = .ok (.if_icmp .ge 95, 3) := by decide +kernel
theorem dX7_goesOn_151 : decode cX7_goesOn 151 = .ok (.iload 5, 2) := by decide +kernel
theorem dX7_goesOn_153 : decode cX7_goesOn 153 = .ok (.iload_n 2, 1) := by decide +kernel
theorem dX7_goesOn_154 : decode cX7_goesOn 154 = .ok (.if_icmp .eq 83, 3) := by decide +kernel
theorem dX7_goesOn_157 : decode cX7_goesOn 157 = .ok (.aload_n 0, 1) := by decide +kernel
theorem dX7_goesOn_158 : decode cX7_goesOn 158 = .ok (.iload_n 2, 1) := by decide +kernel
theorem dX7_goesOn_159 : decode cX7_goesOn 159 = .ok (.iload_n 1, 1) := by decide +kernel
theorem dX7_goesOn_160 : decode cX7_goesOn 160 = .ok (.invokevirtual 200, 3) := by decide +kernel
theorem dX7_goesOn_163 : decode cX7_goesOn 163 = .ok (.ifCond .eq 74, 3) := by decide +kernel
theorem dX7_goesOn_166 : decode cX7_goesOn 166 = .ok (.aload_n 0, 1) := by decide +kernel
theorem dX7_goesOn_167 : decode cX7_goesOn 167 = .ok (.iload 5, 2) := by decide +kernel
theorem dX7_goesOn_169 : decode cX7_goesOn 169 = .ok (.iload_n 1, 1) := by decide +kernel
theorem dX7_goesOn_170 : decode cX7_goesOn 170 = .ok (.invokevirtual 200, 3) := by decide +kernel
theorem dX7_goesOn_173 : decode cX7_goesOn 173 = .ok (.ifCond .eq 64, 3) := by decide +kernel
theorem dX7_goesOn_176 : decode cX7_goesOn 176 = .ok (.aload_n 0, 1) := by decide +kernel
theorem dX7_goesOn_177 : decode cX7_goesOn 177 = .ok (.iconst 4, 1) := by decide +kernel
theorem dX7_goesOn_178 : decode cX7_goesOn 178 = .ok (.iload_n 1, 1) := by decide +kernel
theorem dX7_goesOn_179 : decode cX7_goesOn 179 = .ok (.imul, 1) := by decide +kernel
theorem dX7_goesOn_180 : decode cX7_goesOn 180 = .ok (.iload 5, 2) := by decide +kernel
theorem dX7_goesOn_182 : decode cX7_goesOn 182 = .ok (.iadd, 1) := by decide +kernel
theorem dX7_goesOn_183 : decode cX7_goesOn 183 = .ok (.aload_n 0, 1) := by decide +kernel
theorem dX7_goesOn_184 : decode cX7_goesOn 184 = .ok (.getfield 25, 3) := by decide +kernel
theorem dX7_goesOn_187 : decode cX7_goesOn 187 = .ok (.iload 4, 2) := by decide +kernel
theorem dX7_goesOn_189 : decode cX7_goesOn 189 = .ok (.iaload, 1) := by decide +kernel
theorem dX7_goesOn_190 : decode cX7_goesOn 190 = .ok (.iload_n 3, 1) := by decide +kernel
theorem dX7_goesOn_191 : decode cX7_goesOn 191 = .ok (.ifCond .eq 12, 3) := by decide +kernel
theorem dX7_goesOn_194 : decode cX7_goesOn 194 = .ok (.aload_n 0, 1) := by decide +kernel
theorem dX7_goesOn_195 : decode cX7_goesOn 195 = .ok (.getfield 16, 3) := by decide +kernel
theorem dX7_goesOn_198 : decode cX7_goesOn 198 = .ok (.iconst 3, 1) := by decide +kernel
theorem dX7_goesOn_199 : decode cX7_goesOn 199 = .ok (.iaload, 1) := by decide +kernel
theorem dX7_goesOn_200 : decode cX7_goesOn 200 = .ok (.goto 4, 3) := by decide +kernel
theorem dX7_goesOn_203 : decode cX7_goesOn 203 = .ok (.iconst 0, 1) := by decide +kernel
theorem dX7_goesOn_204 : decode cX7_goesOn 204 = .ok (.iadd, 1) := by decide +kernel
theorem dX7_goesOn_205 : decode cX7_goesOn 205 = .ok (.aload_n 0, 1) := by decide +kernel
theorem dX7_goesOn_206 : decode cX7_goesOn 206 = .ok (.getfield 28, 3) := by decide +kernel
theorem dX7_goesOn_209 : decode cX7_goesOn 209 = .ok (.iload 4, 2) := by decide +kernel
theorem dX7_goesOn_211 : decode cX7_goesOn 211 = .ok (.iaload, 1) := by decide +kernel
theorem dX7_goesOn_212 : decode cX7_goesOn 212 = .ok (.iload_n 3, 1) := by decide +kernel
theorem dX7_goesOn_213 : decode cX7_goesOn 213 = .ok (.ifCond .eq 7, 3) := by decide +kernel
theorem dX7_goesOn_216 : decode cX7_goesOn 216 = .ok (.iconst 0, 1) := by decide +kernel
theorem dX7_goesOn_217 : decode cX7_goesOn 217 = .ok (.goto 9, 3) := by decide +kernel
theorem dX7_goesOn_220 : decode cX7_goesOn 220 = .ok (.aload_n 0, 1) := by decide +kernel
theorem dX7_goesOn_221 : decode cX7_goesOn 221 = .ok (.getfield 16, 3) := by decide +kernel
theorem dX7_goesOn_224 : decode cX7_goesOn 224 = .ok (.iconst 3, 1) := by decide +kernel
theorem dX7_goesOn_225 : decode cX7_goesOn 225 = .ok (.iaload, 1) := by decide +kernel
theorem dX7_goesOn_226 : decode cX7_goesOn 226 = .ok (.iadd, 1) := by decide +kernel
theorem dX7_goesOn_227 : decode cX7_goesOn 227 = .ok (.aload_n 0, 1) := by decide +kernel
theorem dX7_goesOn_228 : decode cX7_goesOn 228 = .ok (.getfield 31, 3) := by decide +kernel
theorem dX7_goesOn_231 : decode cX7_goesOn 231 = .ok (.iload 4, 2) := by decide +kernel
theorem dX7_goesOn_233 : decode cX7_goesOn 233 = .ok (.iaload, 1) := by decide +kernel
theorem dX7_goesOn_234 : decode cX7_goesOn 234 = .ok (.invokevirtual 241, 3) := by decide +kernel
theorem dX7_goesOn_237 : decode cX7_goesOn 237 = .ok (.iinc 5 1, 3) := by decide +kernel
theorem dX7_goesOn_240 : decode cX7_goesOn 240 = .ok (.goto (-100), 3) := by decide +kernel
theorem dX7_goesOn_243 : decode cX7_goesOn 243 = .ok (.return_, 1) := by decide +kernel
set_option maxRecDepth 20000 in
theorem ggX7_route_X7_isCorner : GoodIn wsX7_route wsX7_isCorner := goodIn_r _ [11, 2, 12, 13, 10, 14, 60, 61, 62, 63, 64, 65, 66, 67, 68, 69, 70, 71, 72, 73, 74, 75, 76, 77, 78, 79, 80, 81, 82, 83, 84, 85, 86, 87, 88, 89, 90, 91, 92, 93] (by decide +kernel) (by decide +kernel)
set_option maxRecDepth 20000 in
theorem gX7_route_X7_isCorner : GoodIn wsX7_route (wsV RX7 173 RX7 yX7_isCorner wsX7_isCorner) := goodIn_app (goodIn_of _ (by decide +kernel)) ggX7_route_X7_isCorner
set_option maxRecDepth 20000 in
theorem ggX7_route_X7_in : GoodIn wsX7_route wsX7_in := goodIn_r _ [14] (by decide +kernel) (by decide +kernel)
set_option maxRecDepth 20000 in
theorem gX7_route_X7_in : GoodIn wsX7_route (va_wsS RX7 87 yX7_in wsX7_in) := goodIn_app (goodIn_of _ (by decide +kernel)) ggX7_route_X7_in
set_option maxRecDepth 20000 in
theorem ggX7_route_X7_goes : GoodIn wsX7_route wsX7_goes := goodIn_r _ [18, 3, 4, 5, 6, 2, 19, 20, 21, 22, 10, 23, 24, 25, 26, 27, 28, 29, 30, 31, 32, 33, 34, 35, 36, 37, 38, 39, 40, 41, 42, 43, 44, 45, 46, 47, 48, 49, 50, 51, 52, 53, 54, 55, 56, 57, 58, 59, 60, 61, 62, 63, 64, 65, 66, 67, 68, 69, 70, 71, 72, 73, 74, 75, 76, 77, 78, 79, 80, 81, 82, 83, 84, 85, 86, 87, 88, 89, 90, 91, 92, 93] (by decide +kernel) (by decide +kernel)
set_option maxRecDepth 20000 in
theorem gX7_route_X7_goes : GoodIn wsX7_route (wsV RX7 249 RX7 yX7_goes wsX7_goes) := goodIn_app (goodIn_of _ (by decide +kernel)) ggX7_route_X7_goes
set_option maxRecDepth 20000 in
theorem ggX7_route_X7_isLess : GoodIn wsX7_route wsX7_isLess := goodIn_r _ [35, 3, 5, 6, 60, 61, 62, 63, 64, 65, 66, 67, 68, 69, 70, 71, 72, 73, 74, 75, 76, 77, 78, 79, 80, 81, 82, 83, 84, 85, 86, 87, 88, 89, 90, 91, 92, 93] (by decide +kernel) (by decide +kernel)
set_option maxRecDepth 20000 in
theorem gX7_route_X7_isLess : GoodIn wsX7_route (wsV RX7 232 RX7 yX7_isLess wsX7_isLess) := goodIn_app (goodIn_of _ (by decide +kernel)) ggX7_route_X7_isLess
theorem dX7_route_0 : decode cX7_route 0 = .ok (.aload_n 0, 1) := by decide +kernel
theorem dX7_route_1 : decode cX7_route 1 = .ok (.iload_n 1, 1) := by decide +kernel
theorem dX7_route_2 : decode cX7_route 2 = .ok (.invokevirtual 173, 3) := by decide +kernel
theorem dX7_route_5 : decode cX7_route 5 = .ok (.ifCond .eq 23, 3) := by decide +kernel
theorem dX7_route_8 : decode cX7_route 8 = .ok (.aload_n 0, 1) := by decide +kernel
theorem dX7_route_9 : decode cX7_route 9 = .ok (.iload_n 2, 1) := by decide +kernel
theorem dX7_route_10 : decode cX7_route 10 = .ok (.invokevirtual 173, 3) := by decide +kernel
theorem dX7_route_13 : decode cX7_route 13 = .ok (.ifCond .eq 15, 3) := by decide +kernel
theorem dX7_route_16 : decode cX7_route 16 = .ok (.iload_n 3, 1) := by decide +kernel
theorem dX7_route_17 : decode cX7_route 17 = .ok (.i2l, 1) := by decide +kernel
theorem dX7_route_18 : decode cX7_route 18 = .ok (.lconst 0, 1) := by decide +kernel
theorem dX7_route_19 : decode cX7_route 19 = .ok (.ldc2_w 179, 3) := by decide +kernel
theorem dX7_route_22 : decode cX7_route 22 = .ok (.invokestatic 87, 3) := by decide +kernel
theorem dX7_route_25 : decode cX7_route 25 = .ok (.ifCond .ne 5, 3) := by decide +kernel
theorem dX7_route_28 : decode cX7_route 28 = .ok (.iconst (-1), 1) := by decide +kernel
theorem dX7_route_29 : decode cX7_route 29 = .ok (.ireturn, 1) := by decide +kernel
theorem dX7_route_30 : decode cX7_route 30 = .ok (.iload_n 1, 1) := by decide +kernel
theorem dX7_route_31 : decode cX7_route 31 = .ok (.iload_n 2, 1) := by decide +kernel
theorem dX7_route_32 : decode cX7_route 32 = .ok (.if_icmp .ne 15, 3) := by decide +kernel
theorem dX7_route_35 : decode cX7_route 35 = .ok (.iload_n 3, 1) := by decide +kernel
theorem dX7_route_36 : decode cX7_route 36 = .ok (.iconst 2, 1) := by decide +kernel
theorem dX7_route_37 : decode cX7_route 37 = .ok (.if_icmp .ne 8, 3) := by decide +kernel
theorem dX7_route_40 : decode cX7_route 40 = .ok (.bipush (-9), 2) := by decide +kernel
theorem dX7_route_42 : decode cX7_route 42 = .ok (.goto 4, 3) := by decide +kernel
theorem dX7_route_45 : decode cX7_route 45 = .ok (.iconst 0, 1) := by decide +kernel
theorem dX7_route_46 : decode cX7_route 46 = .ok (.ireturn, 1) := by decide +kernel
theorem dX7_route_47 : decode cX7_route 47 = .ok (.aload_n 0, 1) := by decide +kernel
theorem dX7_route_48 : decode cX7_route 48 = .ok (.iload_n 1, 1) := by decide +kernel
theorem dX7_route_49 : decode cX7_route 49 = .ok (.iload 4, 2) := by decide +kernel
theorem dX7_route_51 : decode cX7_route 51 = .ok (.invokevirtual 249, 3) := by decide +kernel
theorem dX7_route_54 : decode cX7_route 54 = .ok (.bipush (-9), 2) := by decide +kernel
theorem dX7_route_56 : decode cX7_route 56 = .ok (.istore 5, 2) := by decide +kernel
theorem dX7_route_58 : decode cX7_route 58 = .ok (.iconst 0, 1) := by decide +kernel
theorem dX7_route_59 : decode cX7_route 59 = .ok (.istore 6, 2) := by decide +kernel
theorem dX7_route_61 : decode cX7_route 61 = .ok (.iload 6, 2) := by decide +kernel
theorem dX7_route_63 : decode cX7_route 63 = .ok (.aload_n 0, 1) := by decide +kernel
theorem dX7_route_64 : decode cX7_route 64 = .ok (.getfield 16, 3) := by decide +kernel
theorem dX7_route_67 : decode cX7_route 67 = .ok (.iconst 2, 1) := by decide +kernel
theorem dX7_route_68 : decode cX7_route 68 = .ok (.iaload, 1) := by decide +kernel
theorem dX7_route_69 : decode cX7_route 69 = .ok (.if_icmp .ge 75, 3) := by decide +kernel
theorem dX7_route_72 : decode cX7_route 72 = .ok (.iconst 4, 1) := by decide +kernel
theorem dX7_route_73 : decode cX7_route 73 = .ok (.iload_n 2, 1) := by decide +kernel
theorem dX7_route_74 : decode cX7_route 74 = .ok (.imul, 1) := by decide +kernel
theorem dX7_route_75 : decode cX7_route 75 = .ok (.iload 6, 2) := by decide +kernel
theorem dX7_route_77 : decode cX7_route 77 = .ok (.iadd, 1) := by decide +kernel
theorem dX7_route_78 : decode cX7_route 78 = .ok (.istore 7, 2) := by decide +kernel
theorem dX7_route_80 : decode cX7_route 80 = .ok (.aload_n 0, 1) := by decide +kernel
theorem dX7_route_81 : decode cX7_route 81 = .ok (.getfield 25, 3) := by decide +kernel
theorem dX7_route_84 : decode cX7_route 84 = .ok (.iload 7, 2) := by decide +kernel
theorem dX7_route_86 : decode cX7_route 86 = .ok (.iaload, 1) := by decide +kernel
theorem dX7_route_87 : decode cX7_route 87 = .ok (.ldc 240, 2) := by decide +kernel
theorem dX7_route_89 : decode cX7_route 89 = .ok (.if_icmp .ge 45, 3) := by decide +kernel
theorem dX7_route_92 : decode cX7_route 92 = .ok (.iload 5, 2) := by decide +kernel
theorem dX7_route_94 : decode cX7_route 94 = .ok (.bipush (-9), 2) := by decide +kernel
theorem dX7_route_96 : decode cX7_route 96 = .ok (.if_icmp .eq 33, 3) := by decide +kernel
theorem dX7_route_99 : decode cX7_route 99 = .ok (.aload_n 0, 1) := by decide +kernel
theorem dX7_route_100 : decode cX7_route 100 = .ok (.aload_n 0, 1) := by decide +kernel
theorem dX7_route_101 : decode cX7_route 101 = .ok (.getfield 25, 3) := by decide +kernel
theorem dX7_route_104 : decode cX7_route 104 = .ok (.iload 7, 2) := by decide +kernel
theorem dX7_route_106 : decode cX7_route 106 = .ok (.iaload, 1) := by decide +kernel
theorem dX7_route_107 : decode cX7_route 107 = .ok (.aload_n 0, 1) := by decide +kernel
theorem dX7_route_108 : decode cX7_route 108 = .ok (.getfield 28, 3) := by decide +kernel
theorem dX7_route_111 : decode cX7_route 111 = .ok (.iload 7, 2) := by decide +kernel
theorem dX7_route_113 : decode cX7_route 113 = .ok (.iaload, 1) := by decide +kernel
theorem dX7_route_114 : decode cX7_route 114 = .ok (.aload_n 0, 1) := by decide +kernel
theorem dX7_route_115 : decode cX7_route 115 = .ok (.getfield 31, 3) := by decide +kernel
theorem dX7_route_118 : decode cX7_route 118 = .ok (.iload 7, 2) := by decide +kernel
theorem dX7_route_120 : decode cX7_route 120 = .ok (.iaload, 1) := by decide +kernel
theorem dX7_route_121 : decode cX7_route 121 = .ok (.iload 5, 2) := by decide +kernel
theorem dX7_route_123 : decode cX7_route 123 = .ok (.invokevirtual 232, 3) := by decide +kernel
theorem dX7_route_126 : decode cX7_route 126 = .ok (.ifCond .eq 8, 3) := by decide +kernel
theorem dX7_route_129 : decode cX7_route 129 = .ok (.iload 7, 2) := by decide +kernel
theorem dX7_route_131 : decode cX7_route 131 = .ok (.goto 5, 3) := by decide +kernel
theorem dX7_route_134 : decode cX7_route 134 = .ok (.iload 5, 2) := by decide +kernel
theorem dX7_route_136 : decode cX7_route 136 = .ok (.istore 5, 2) := by decide +kernel
theorem dX7_route_138 : decode cX7_route 138 = .ok (.iinc 6 1, 3) := by decide +kernel
theorem dX7_route_141 : decode cX7_route 141 = .ok (.goto (-80), 3) := by decide +kernel
theorem dX7_route_144 : decode cX7_route 144 = .ok (.iload 5, 2) := by decide +kernel
theorem dX7_route_146 : decode cX7_route 146 = .ok (.bipush (-9), 2) := by decide +kernel
theorem dX7_route_148 : decode cX7_route 148 = .ok (.if_icmp .ne 6, 3) := by decide +kernel
theorem dX7_route_151 : decode cX7_route 151 = .ok (.bipush (-9), 2) := by decide +kernel
theorem dX7_route_153 : decode cX7_route 153 = .ok (.ireturn, 1) := by decide +kernel
theorem dX7_route_154 : decode cX7_route 154 = .ok (.iload_n 3, 1) := by decide +kernel
theorem dX7_route_155 : decode cX7_route 155 = .ok (.iconst 2, 1) := by decide +kernel
theorem dX7_route_156 : decode cX7_route 156 = .ok (.if_icmp .ne 13, 3) := by decide +kernel
theorem dX7_route_159 : decode cX7_route 159 = .ok (.aload_n 0, 1) := by decide +kernel
theorem dX7_route_160 : decode cX7_route 160 = .ok (.getfield 31, 3) := by decide +kernel
theorem dX7_route_163 : decode cX7_route 163 = .ok (.iload 5, 2) := by decide +kernel
theorem dX7_route_165 : decode cX7_route 165 = .ok (.iaload, 1) := by decide +kernel
theorem dX7_route_166 : decode cX7_route 166 = .ok (.goto 34, 3) := by decide +kernel
theorem dX7_route_169 : decode cX7_route 169 = .ok (.iload_n 3, 1) := by decide +kernel
theorem dX7_route_170 : decode cX7_route 170 = .ok (.ifCond .ne 7, 3) := by decide +kernel
theorem dX7_route_173 : decode cX7_route 173 = .ok (.iconst 1, 1) := by decide +kernel
theorem dX7_route_174 : decode cX7_route 174 = .ok (.goto 4, 3) := by decide +kernel
theorem dX7_route_177 : decode cX7_route 177 = .ok (.iconst 0, 1) := by decide +kernel
theorem dX7_route_178 : decode cX7_route 178 = .ok (.iload 4, 2) := by decide +kernel
theorem dX7_route_180 : decode cX7_route 180 = .ok (.if_icmp .ne 13, 3) := by decide +kernel
theorem dX7_route_183 : decode cX7_route 183 = .ok (.aload_n 0, 1) := by decide +kernel
theorem dX7_route_184 : decode cX7_route 184 = .ok (.getfield 25, 3) := by decide +kernel
theorem dX7_route_187 : decode cX7_route 187 = .ok (.iload 5, 2) := by decide +kernel
theorem dX7_route_189 : decode cX7_route 189 = .ok (.iaload, 1) := by decide +kernel
theorem dX7_route_190 : decode cX7_route 190 = .ok (.goto 10, 3) := by decide +kernel
theorem dX7_route_193 : decode cX7_route 193 = .ok (.aload_n 0, 1) := by decide +kernel
theorem dX7_route_194 : decode cX7_route 194 = .ok (.getfield 28, 3) := by decide +kernel
theorem dX7_route_197 : decode cX7_route 197 = .ok (.iload 5, 2) := by decide +kernel
theorem dX7_route_199 : decode cX7_route 199 = .ok (.iaload, 1) := by decide +kernel
theorem dX7_route_200 : decode cX7_route 200 = .ok (.ireturn, 1) := by decide +kernel
set_option maxRecDepth 20000 in
theorem ggX7_soonest_X7_route : GoodIn wsX7_soonest wsX7_route := goodIn_r _ [5, 6, 7, 8, 9, 10, 11, 12, 13, 14, 4, 15, 16, 17, 18, 19, 20, 21, 22, 23, 24, 25, 26, 27, 28, 29, 30, 31, 32, 33, 34, 35, 36, 37, 38, 39, 40, 41, 42, 43, 44, 45, 46, 47, 48, 49, 50, 51, 52, 53, 54, 55, 56, 57, 58, 59, 60, 61, 62, 63, 64, 65, 66, 67, 68, 69, 70, 71, 72, 73, 74, 75, 76, 77, 78, 79, 80, 81, 82, 83, 84, 85, 86, 87, 88, 89, 90, 91, 92, 93, 94, 95, 96, 97] (by decide +kernel) (by decide +kernel)
set_option maxRecDepth 20000 in
theorem gX7_soonest_X7_route : GoodIn wsX7_soonest (wsV RX7 253 RX7 yX7_route wsX7_route) := goodIn_app (goodIn_of _ (by decide +kernel)) ggX7_soonest_X7_route
theorem dX7_soonest_0 : decode cX7_soonest 0 = .ok (.aload_n 0, 1) := by decide +kernel
theorem dX7_soonest_1 : decode cX7_soonest 1 = .ok (.iload_n 1, 1) := by decide +kernel
theorem dX7_soonest_2 : decode cX7_soonest 2 = .ok (.iload_n 2, 1) := by decide +kernel
theorem dX7_soonest_3 : decode cX7_soonest 3 = .ok (.iload_n 3, 1) := by decide +kernel
theorem dX7_soonest_4 : decode cX7_soonest 4 = .ok (.iconst 1, 1) := by decide +kernel
theorem dX7_soonest_5 : decode cX7_soonest 5 = .ok (.invokevirtual 253, 3) := by decide +kernel
theorem dX7_soonest_8 : decode cX7_soonest 8 = .ok (.ireturn, 1) := by decide +kernel
set_option maxRecDepth 20000 in
theorem ggX7_cheapest_X7_route : GoodIn wsX7_cheapest wsX7_route := goodIn_r _ [5, 6, 7, 8, 9, 10, 11, 12, 13, 14, 4, 15, 16, 17, 18, 19, 20, 21, 22, 23, 24, 25, 26, 27, 28, 29, 30, 31, 32, 33, 34, 35, 36, 37, 38, 39, 40, 41, 42, 43, 44, 45, 46, 47, 48, 49, 50, 51, 52, 53, 54, 55, 56, 57, 58, 59, 60, 61, 62, 63, 64, 65, 66, 67, 68, 69, 70, 71, 72, 73, 74, 75, 76, 77, 78, 79, 80, 81, 82, 83, 84, 85, 86, 87, 88, 89, 90, 91, 92, 93, 94, 95, 96, 97] (by decide +kernel) (by decide +kernel)
set_option maxRecDepth 20000 in
theorem gX7_cheapest_X7_route : GoodIn wsX7_cheapest (wsV RX7 253 RX7 yX7_route wsX7_route) := goodIn_app (goodIn_of _ (by decide +kernel)) ggX7_cheapest_X7_route
theorem dX7_cheapest_0 : decode cX7_cheapest 0 = .ok (.aload_n 0, 1) := by decide +kernel
theorem dX7_cheapest_1 : decode cX7_cheapest 1 = .ok (.iload_n 1, 1) := by decide +kernel
theorem dX7_cheapest_2 : decode cX7_cheapest 2 = .ok (.iload_n 2, 1) := by decide +kernel
theorem dX7_cheapest_3 : decode cX7_cheapest 3 = .ok (.iload_n 3, 1) := by decide +kernel
theorem dX7_cheapest_4 : decode cX7_cheapest 4 = .ok (.iconst 0, 1) := by decide +kernel
theorem dX7_cheapest_5 : decode cX7_cheapest 5 = .ok (.invokevirtual 253, 3) := by decide +kernel
theorem dX7_cheapest_8 : decode cX7_cheapest 8 = .ok (.ireturn, 1) := by decide +kernel
theorem dX7_reach_0 : decode cX7_reach 0 = .ok (.iload_n 1, 1) := by decide +kernel
theorem dX7_reach_1 : decode cX7_reach 1 = .ok (.istore_n 3, 1) := by decide +kernel
theorem dX7_reach_2 : decode cX7_reach 2 = .ok (.iconst 0, 1) := by decide +kernel
theorem dX7_reach_3 : decode cX7_reach 3 = .ok (.istore 4, 2) := by decide +kernel
theorem dX7_reach_5 : decode cX7_reach 5 = .ok (.iload 4, 2) := by decide +kernel
theorem dX7_reach_7 : decode cX7_reach 7 = .ok (.aload_n 0, 1) := by decide +kernel
theorem dX7_reach_8 : decode cX7_reach 8 = .ok (.getfield 16, 3) := by decide +kernel
theorem dX7_reach_11 : decode cX7_reach 11 = .ok (.iconst 0, 1) := by decide +kernel
theorem dX7_reach_12 : decode cX7_reach 12 = .ok (.iaload, 1) := by decide +kernel
theorem dX7_reach_13 : decode cX7_reach 13 = .ok (.if_icmp .ge 88, 3) := by decide +kernel
theorem dX7_reach_16 : decode cX7_reach 16 = .ok (.iconst 0, 1) := by decide +kernel
theorem dX7_reach_17 : decode cX7_reach 17 = .ok (.istore 5, 2) := by decide +kernel
theorem dX7_reach_19 : decode cX7_reach 19 = .ok (.iload 5, 2) := by decide +kernel
theorem dX7_reach_21 : decode cX7_reach 21 = .ok (.aload_n 0, 1) := by decide +kernel
theorem dX7_reach_22 : decode cX7_reach 22 = .ok (.getfield 16, 3) := by decide +kernel
theorem dX7_reach_25 : decode cX7_reach 25 = .ok (.iconst 1, 1) := by decide +kernel
theorem dX7_reach_26 : decode cX7_reach 26 = .ok (.iaload, 1) := by decide +kernel
theorem dX7_reach_27 : decode cX7_reach 27 = .ok (.if_icmp .ge 68, 3) := by decide +kernel
theorem dX7_reach_30 : decode cX7_reach 30 = .ok (.iconst 1, 1) := by decide +kernel
theorem dX7_reach_31 : decode cX7_reach 31 = .ok (.aload_n 0, 1) := by decide +kernel
theorem dX7_reach_32 : decode cX7_reach 32 = .ok (.getfield 16, 3) := by decide +kernel
theorem dX7_reach_35 : decode cX7_reach 35 = .ok (.bipush 13, 2) := by decide +kernel
theorem dX7_reach_37 : decode cX7_reach 37 = .ok (.iconst 3, 1) := by decide +kernel
theorem dX7_reach_38 : decode cX7_reach 38 = .ok (.iload 5, 2) := by decide +kernel
theorem dX7_reach_40 : decode cX7_reach 40 = .ok (.imul, 1) := by decide +kernel
theorem dX7_reach_41 : decode cX7_reach 41 = .ok (.iadd, 1) := by decide +kernel
theorem dX7_reach_42 : decode cX7_reach 42 = .ok (.iaload, 1) := by decide +kernel
theorem dX7_reach_43 : decode cX7_reach 43 = .ok (.ishl, 1) := by decide +kernel
theorem dX7_reach_44 : decode cX7_reach 44 = .ok (.iconst 1, 1) := by decide +kernel
theorem dX7_reach_45 : decode cX7_reach 45 = .ok (.aload_n 0, 1) := by decide +kernel
theorem dX7_reach_46 : decode cX7_reach 46 = .ok (.getfield 16, 3) := by decide +kernel
theorem dX7_reach_49 : decode cX7_reach 49 = .ok (.bipush 13, 2) := by decide +kernel
theorem dX7_reach_51 : decode cX7_reach 51 = .ok (.iconst 3, 1) := by decide +kernel
theorem dX7_reach_52 : decode cX7_reach 52 = .ok (.iload 5, 2) := by decide +kernel
theorem dX7_reach_54 : decode cX7_reach 54 = .ok (.imul, 1) := by decide +kernel
theorem dX7_reach_55 : decode cX7_reach 55 = .ok (.iadd, 1) := by decide +kernel
theorem dX7_reach_56 : decode cX7_reach 56 = .ok (.iconst 1, 1) := by decide +kernel
theorem dX7_reach_57 : decode cX7_reach 57 = .ok (.iadd, 1) := by decide +kernel
theorem dX7_reach_58 : decode cX7_reach 58 = .ok (.iaload, 1) := by decide +kernel
theorem dX7_reach_59 : decode cX7_reach 59 = .ok (.ishl, 1) := by decide +kernel
theorem dX7_reach_60 : decode cX7_reach 60 = .ok (.ior, 1) := by decide +kernel
theorem dX7_reach_61 : decode cX7_reach 61 = .ok (.istore 6, 2) := by decide +kernel
theorem dX7_reach_63 : decode cX7_reach 63 = .ok (.iload_n 3, 1) := by decide +kernel
theorem dX7_reach_64 : decode cX7_reach 64 = .ok (.iload_n 2, 1) := by decide +kernel
theorem dX7_reach_65 : decode cX7_reach 65 = .ok (.iload 5, 2) := by decide +kernel
theorem dX7_reach_67 : decode cX7_reach 67 = .ok (.ishr, 1) := by decide +kernel
theorem dX7_reach_68 : decode cX7_reach 68 = .ok (.iconst 1, 1) := by decide +kernel
theorem dX7_reach_69 : decode cX7_reach 69 = .ok (.iand, 1) := by decide +kernel
theorem dX7_reach_70 : decode cX7_reach 70 = .ok (.iconst 1, 1) := by decide +kernel
theorem dX7_reach_71 : decode cX7_reach 71 = .ok (.if_icmp .ne 15, 3) := by decide +kernel
theorem dX7_reach_74 : decode cX7_reach 74 = .ok (.iload_n 3, 1) := by decide +kernel
theorem dX7_reach_75 : decode cX7_reach 75 = .ok (.iload 6, 2) := by decide +kernel
theorem dX7_reach_77 : decode cX7_reach 77 = .ok (.iand, 1) := by decide +kernel
theorem dX7_reach_78 : decode cX7_reach 78 = .ok (.ifCond .eq 8, 3) := by decide +kernel
theorem dX7_reach_81 : decode cX7_reach 81 = .ok (.iload 6, 2) := by decide +kernel
theorem dX7_reach_83 : decode cX7_reach 83 = .ok (.goto 4, 3) := by decide +kernel
theorem dX7_reach_86 : decode cX7_reach 86 = .ok (.iconst 0, 1) := by decide +kernel
theorem dX7_reach_87 : decode cX7_reach 87 = .ok (.ior, 1) := by decide +kernel
theorem dX7_reach_88 : decode cX7_reach 88 = .ok (.istore_n 3, 1) := by decide +kernel
theorem dX7_reach_89 : decode cX7_reach 89 = .ok (.iinc 5 1, 3) := by decide +kernel
theorem dX7_reach_92 : decode cX7_reach 92 = .ok (.goto (-73), 3) := by decide +kernel
theorem dX7_reach_95 : decode cX7_reach 95 = .ok (.iinc 4 1, 3) := by decide +kernel
theorem dX7_reach_98 : decode cX7_reach 98 = .ok (.goto (-93), 3) := by decide +kernel
theorem dX7_reach_101 : decode cX7_reach 101 = .ok (.iload_n 3, 1) := by decide +kernel
theorem dX7_reach_102 : decode cX7_reach 102 = .ok (.ireturn, 1) := by decide +kernel
set_option maxRecDepth 20000 in
theorem ggX7_byOne_X7_isCorner : GoodIn wsX7_byOne wsX7_isCorner := goodIn_r _ [6, 1, 7, 8, 5, 9, 26, 27, 28, 29, 30, 31, 32, 33, 34, 35, 36, 37, 38, 39, 40, 41, 42, 43, 44, 45, 46, 47, 48, 49, 50, 51, 52, 53, 54, 55, 56, 57, 58, 59] (by decide +kernel) (by decide +kernel)
set_option maxRecDepth 20000 in
theorem gX7_byOne_X7_isCorner : GoodIn wsX7_byOne (wsV RX7 173 RX7 yX7_isCorner wsX7_isCorner) := goodIn_app (goodIn_of _ (by decide +kernel)) ggX7_byOne_X7_isCorner
set_option maxRecDepth 20000 in
theorem ggX7_byOne_X7_isHis : GoodIn wsX7_byOne wsX7_isHis := goodIn_r _ [13, 14, 15, 16, 5, 17, 1, 26, 27, 28, 29, 30, 31, 32, 33, 34, 35, 36, 37, 38, 39, 40, 41, 42, 43, 44, 45, 46, 47, 48, 49, 50, 51, 52, 53, 54, 55, 56, 57, 58, 59] (by decide +kernel) (by decide +kernel)
set_option maxRecDepth 20000 in
theorem gX7_byOne_X7_isHis : GoodIn wsX7_byOne (wsV RX7 200 RX7 yX7_isHis wsX7_isHis) := goodIn_app (goodIn_of _ (by decide +kernel)) ggX7_byOne_X7_isHis
set_option maxRecDepth 20000 in
theorem ggX7_byOne_X7_known : GoodIn wsX7_byOne wsX7_known := goodIn_r _ [21, 1, 26, 27, 28, 29, 30, 31, 32, 33, 34, 35, 36, 37, 38, 39, 40, 41, 42, 43, 44, 45, 46, 47, 48, 49, 50, 51, 52, 53, 54, 55, 56, 57, 58, 59] (by decide +kernel) (by decide +kernel)
set_option maxRecDepth 20000 in
theorem gX7_byOne_X7_known : GoodIn wsX7_byOne (wsV RX7 192 RX7 yX7_known wsX7_known) := goodIn_app (goodIn_of _ (by decide +kernel)) ggX7_byOne_X7_known
set_option maxRecDepth 20000 in
theorem ggX7_byOne_X7_reach : GoodIn wsX7_byOne wsX7_reach := goodIn_r _ [25, 1, 26, 27, 28, 29, 30, 31, 32, 33, 34, 35, 36, 37, 38, 39, 40, 41, 42, 43, 44, 45, 46, 47, 48, 49, 50, 51, 52, 53, 54, 55, 56, 57, 58, 59] (by decide +kernel) (by decide +kernel)
set_option maxRecDepth 20000 in
theorem gX7_byOne_X7_reach : GoodIn wsX7_byOne (wsV RX7 257 RX7 yX7_reach wsX7_reach) := goodIn_app (goodIn_of _ (by decide +kernel)) ggX7_byOne_X7_reach
theorem dX7_byOne_0 : decode cX7_byOne 0 = .ok (.aload_n 0, 1) := by decide +kernel
theorem dX7_byOne_1 : decode cX7_byOne 1 = .ok (.iload_n 1, 1) := by decide +kernel
theorem dX7_byOne_2 : decode cX7_byOne 2 = .ok (.invokevirtual 173, 3) := by decide +kernel
theorem dX7_byOne_5 : decode cX7_byOne 5 = .ok (.ifCond .eq 11, 3) := by decide +kernel
theorem dX7_byOne_8 : decode cX7_byOne 8 = .ok (.aload_n 0, 1) := by decide +kernel
theorem dX7_byOne_9 : decode cX7_byOne 9 = .ok (.iload_n 2, 1) := by decide +kernel
theorem dX7_byOne_10 : decode cX7_byOne 10 = .ok (.invokevirtual 173, 3) := by decide +kernel
theorem dX7_byOne_13 : decode cX7_byOne 13 = .ok (.ifCond .ne 5, 3) := by decide +kernel
theorem dX7_byOne_16 : decode cX7_byOne 16 = .ok (.iconst (-1), 1) := by decide +kernel
theorem dX7_byOne_17 : decode cX7_byOne 17 = .ok (.ireturn, 1) := by decide +kernel
theorem dX7_byOne_18 : decode cX7_byOne 18 = .ok (.iconst 0, 1) := by decide +kernel
theorem dX7_byOne_19 : decode cX7_byOne 19 = .ok (.istore_n 3, 1) := by decide +kernel
theorem dX7_byOne_20 : decode cX7_byOne 20 = .ok (.iconst 0, 1) := by decide +kernel
theorem dX7_byOne_21 : decode cX7_byOne 21 = .ok (.istore 4, 2) := by decide +kernel
theorem dX7_byOne_23 : decode cX7_byOne 23 = .ok (.iload 4, 2) := by decide +kernel
theorem dX7_byOne_25 : decode cX7_byOne 25 = .ok (.aload_n 0, 1) := by decide +kernel
theorem dX7_byOne_26 : decode cX7_byOne 26 = .ok (.getfield 16, 3) := by decide +kernel
theorem dX7_byOne_29 : decode cX7_byOne 29 = .ok (.iconst 2, 1) := by decide +kernel
theorem dX7_byOne_30 : decode cX7_byOne 30 = .ok (.iaload, 1) := by decide +kernel
theorem dX7_byOne_31 : decode cX7_byOne 31 = .ok (.if_icmp .ge 51, 3) := by decide +kernel
theorem dX7_byOne_34 : decode cX7_byOne 34 = .ok (.iload_n 3, 1) := by decide +kernel
theorem dX7_byOne_35 : decode cX7_byOne 35 = .ok (.aload_n 0, 1) := by decide +kernel
theorem dX7_byOne_36 : decode cX7_byOne 36 = .ok (.iload 4, 2) := by decide +kernel
theorem dX7_byOne_38 : decode cX7_byOne 38 = .ok (.iload_n 1, 1) := by decide +kernel
theorem dX7_byOne_39 : decode cX7_byOne 39 = .ok (.invokevirtual 200, 3) := by decide +kernel
theorem dX7_byOne_42 : decode cX7_byOne 42 = .ok (.ifCond .eq 31, 3) := by decide +kernel
theorem dX7_byOne_45 : decode cX7_byOne 45 = .ok (.aload_n 0, 1) := by decide +kernel
theorem dX7_byOne_46 : decode cX7_byOne 46 = .ok (.iconst 1, 1) := by decide +kernel
theorem dX7_byOne_47 : decode cX7_byOne 47 = .ok (.iload_n 1, 1) := by decide +kernel
theorem dX7_byOne_48 : decode cX7_byOne 48 = .ok (.ishl, 1) := by decide +kernel
theorem dX7_byOne_49 : decode cX7_byOne 49 = .ok (.aload_n 0, 1) := by decide +kernel
theorem dX7_byOne_50 : decode cX7_byOne 50 = .ok (.iload 4, 2) := by decide +kernel
theorem dX7_byOne_52 : decode cX7_byOne 52 = .ok (.invokevirtual 192, 3) := by decide +kernel
theorem dX7_byOne_55 : decode cX7_byOne 55 = .ok (.invokevirtual 257, 3) := by decide +kernel
theorem dX7_byOne_58 : decode cX7_byOne 58 = .ok (.iload_n 2, 1) := by decide +kernel
theorem dX7_byOne_59 : decode cX7_byOne 59 = .ok (.ishr, 1) := by decide +kernel
theorem dX7_byOne_60 : decode cX7_byOne 60 = .ok (.iconst 1, 1) := by decide +kernel
theorem dX7_byOne_61 : decode cX7_byOne 61 = .ok (.iand, 1) := by decide +kernel
theorem dX7_byOne_62 : decode cX7_byOne 62 = .ok (.iconst 1, 1) := by decide +kernel
theorem dX7_byOne_63 : decode cX7_byOne 63 = .ok (.if_icmp .ne 10, 3) := by decide +kernel
theorem dX7_byOne_66 : decode cX7_byOne 66 = .ok (.iconst 1, 1) := by decide +kernel
theorem dX7_byOne_67 : decode cX7_byOne 67 = .ok (.iload 4, 2) := by decide +kernel
theorem dX7_byOne_69 : decode cX7_byOne 69 = .ok (.ishl, 1) := by decide +kernel
theorem dX7_byOne_70 : decode cX7_byOne 70 = .ok (.goto 4, 3) := by decide +kernel
theorem dX7_byOne_73 : decode cX7_byOne 73 = .ok (.iconst 0, 1) := by decide +kernel
theorem dX7_byOne_74 : decode cX7_byOne 74 = .ok (.ior, 1) := by decide +kernel
theorem dX7_byOne_75 : decode cX7_byOne 75 = .ok (.istore_n 3, 1) := by decide +kernel
theorem dX7_byOne_76 : decode cX7_byOne 76 = .ok (.iinc 4 1, 3) := by decide +kernel
theorem dX7_byOne_79 : decode cX7_byOne 79 = .ok (.goto (-56), 3) := by decide +kernel
theorem dX7_byOne_82 : decode cX7_byOne 82 = .ok (.iload_n 3, 1) := by decide +kernel
theorem dX7_byOne_83 : decode cX7_byOne 83 = .ok (.ireturn, 1) := by decide +kernel
set_option maxRecDepth 20000 in
theorem ggX7_isFor_X7_over : GoodIn wsX7_isFor wsX7_over := goodIn_r _ [9, 4, 26, 27, 28, 29, 30, 31, 32, 33, 34, 35, 36, 37, 38, 39, 40, 41, 42, 43, 44, 45, 46, 47, 48, 49, 50, 51, 52, 53, 54, 55, 56, 57, 58, 59] (by decide +kernel) (by decide +kernel)
set_option maxRecDepth 20000 in
theorem gX7_isFor_X7_over : GoodIn wsX7_isFor (wsV RX7 209 RX7 yX7_over wsX7_over) := goodIn_app (goodIn_of _ (by decide +kernel)) ggX7_isFor_X7_over
set_option maxRecDepth 20000 in
theorem ggX7_isFor_X7_known : GoodIn wsX7_isFor wsX7_known := goodIn_r _ [13, 4, 26, 27, 28, 29, 30, 31, 32, 33, 34, 35, 36, 37, 38, 39, 40, 41, 42, 43, 44, 45, 46, 47, 48, 49, 50, 51, 52, 53, 54, 55, 56, 57, 58, 59] (by decide +kernel) (by decide +kernel)
set_option maxRecDepth 20000 in
theorem gX7_isFor_X7_known : GoodIn wsX7_isFor (wsV RX7 192 RX7 yX7_known wsX7_known) := goodIn_app (goodIn_of _ (by decide +kernel)) ggX7_isFor_X7_known
set_option maxRecDepth 20000 in
theorem ggX7_isFor_X7_length : GoodIn wsX7_isFor wsX7_length := goodIn_r _ [17, 4, 26, 27, 28, 29, 30, 31, 32, 33, 34, 35, 36, 37, 38, 39, 40, 41, 42, 43, 44, 45, 46, 47, 48, 49, 50, 51, 52, 53, 54, 55, 56, 57, 58, 59] (by decide +kernel) (by decide +kernel)
set_option maxRecDepth 20000 in
theorem gX7_isFor_X7_length : GoodIn wsX7_isFor (wsV RX7 213 RX7 yX7_length wsX7_length) := goodIn_app (goodIn_of _ (by decide +kernel)) ggX7_isFor_X7_length
set_option maxRecDepth 20000 in
theorem ggX7_isFor_X7_pace : GoodIn wsX7_isFor wsX7_pace := goodIn_r _ [21, 4, 26, 27, 28, 29, 30, 31, 32, 33, 34, 35, 36, 37, 38, 39, 40, 41, 42, 43, 44, 45, 46, 47, 48, 49, 50, 51, 52, 53, 54, 55, 56, 57, 58, 59] (by decide +kernel) (by decide +kernel)
set_option maxRecDepth 20000 in
theorem gX7_isFor_X7_pace : GoodIn wsX7_isFor (wsV RX7 186 RX7 yX7_pace wsX7_pace) := goodIn_app (goodIn_of _ (by decide +kernel)) ggX7_isFor_X7_pace
set_option maxRecDepth 20000 in
theorem ggX7_isFor_X7_fee : GoodIn wsX7_isFor wsX7_fee := goodIn_r _ [25, 4, 26, 27, 28, 29, 30, 31, 32, 33, 34, 35, 36, 37, 38, 39, 40, 41, 42, 43, 44, 45, 46, 47, 48, 49, 50, 51, 52, 53, 54, 55, 56, 57, 58, 59] (by decide +kernel) (by decide +kernel)
set_option maxRecDepth 20000 in
theorem gX7_isFor_X7_fee : GoodIn wsX7_isFor (wsV RX7 189 RX7 yX7_fee wsX7_fee) := goodIn_app (goodIn_of _ (by decide +kernel)) ggX7_isFor_X7_fee
theorem dX7_isFor_0 : decode cX7_isFor 0 = .ok (.iconst 0, 1) := by decide +kernel
theorem dX7_isFor_1 : decode cX7_isFor 1 = .ok (.istore 5, 2) := by decide +kernel
theorem dX7_isFor_3 : decode cX7_isFor 3 = .ok (.iconst 1, 1) := by decide +kernel
theorem dX7_isFor_4 : decode cX7_isFor 4 = .ok (.iload_n 2, 1) := by decide +kernel
theorem dX7_isFor_5 : decode cX7_isFor 5 = .ok (.ishl, 1) := by decide +kernel
theorem dX7_isFor_6 : decode cX7_isFor 6 = .ok (.istore 6, 2) := by decide +kernel
theorem dX7_isFor_8 : decode cX7_isFor 8 = .ok (.aload_n 0, 1) := by decide +kernel
theorem dX7_isFor_9 : decode cX7_isFor 9 = .ok (.getfield 37, 3) := by decide +kernel
theorem dX7_isFor_12 : decode cX7_isFor 12 = .ok (.iconst 0, 1) := by decide +kernel
theorem dX7_isFor_13 : decode cX7_isFor 13 = .ok (.iload_n 2, 1) := by decide +kernel
theorem dX7_isFor_14 : decode cX7_isFor 14 = .ok (.iastore, 1) := by decide +kernel
theorem dX7_isFor_15 : decode cX7_isFor 15 = .ok (.aload_n 0, 1) := by decide +kernel
theorem dX7_isFor_16 : decode cX7_isFor 16 = .ok (.getfield 40, 3) := by decide +kernel
theorem dX7_isFor_19 : decode cX7_isFor 19 = .ok (.iconst 0, 1) := by decide +kernel
theorem dX7_isFor_20 : decode cX7_isFor 20 = .ok (.iconst 0, 1) := by decide +kernel
theorem dX7_isFor_21 : decode cX7_isFor 21 = .ok (.iastore, 1) := by decide +kernel
theorem dX7_isFor_22 : decode cX7_isFor 22 = .ok (.aload_n 0, 1) := by decide +kernel
theorem dX7_isFor_23 : decode cX7_isFor 23 = .ok (.getfield 34, 3) := by decide +kernel
theorem dX7_isFor_26 : decode cX7_isFor 26 = .ok (.iconst 0, 1) := by decide +kernel
theorem dX7_isFor_27 : decode cX7_isFor 27 = .ok (.iconst (-1), 1) := by decide +kernel
theorem dX7_isFor_28 : decode cX7_isFor 28 = .ok (.iastore, 1) := by decide +kernel
theorem dX7_isFor_29 : decode cX7_isFor 29 = .ok (.iload_n 2, 1) := by decide +kernel
theorem dX7_isFor_30 : decode cX7_isFor 30 = .ok (.iload_n 3, 1) := by decide +kernel
theorem dX7_isFor_31 : decode cX7_isFor 31 = .ok (.if_icmp .ne 12, 3) := by decide +kernel
theorem dX7_isFor_34 : decode cX7_isFor 34 = .ok (.iload 4, 2) := by decide +kernel
theorem dX7_isFor_36 : decode cX7_isFor 36 = .ok (.ifCond .ne 7, 3) := by decide +kernel
theorem dX7_isFor_39 : decode cX7_isFor 39 = .ok (.iconst 1, 1) := by decide +kernel
theorem dX7_isFor_40 : decode cX7_isFor 40 = .ok (.goto 4, 3) := by decide +kernel
theorem dX7_isFor_43 : decode cX7_isFor 43 = .ok (.iconst 0, 1) := by decide +kernel
theorem dX7_isFor_44 : decode cX7_isFor 44 = .ok (.istore 7, 2) := by decide +kernel
theorem dX7_isFor_46 : decode cX7_isFor 46 = .ok (.iload 5, 2) := by decide +kernel
theorem dX7_isFor_48 : decode cX7_isFor 48 = .ok (.ifCond .lt 210, 3) := by decide +kernel
theorem dX7_isFor_51 : decode cX7_isFor 51 = .ok (.iload 7, 2) := by decide +kernel
theorem dX7_isFor_53 : decode cX7_isFor 53 = .ok (.ifCond .ne 205, 3) := by decide +kernel
theorem dX7_isFor_56 : decode cX7_isFor 56 = .ok (.aload_n 0, 1) := by decide +kernel
theorem dX7_isFor_57 : decode cX7_isFor 57 = .ok (.getfield 34, 3) := by decide +kernel
theorem dX7_isFor_60 : decode cX7_isFor 60 = .ok (.iload 5, 2) := by decide +kernel
theorem dX7_isFor_62 : decode cX7_isFor 62 = .ok (.dup2, 1) := by decide +kernel
theorem dX7_isFor_63 : decode cX7_isFor 63 = .ok (.iaload, 1) := by decide +kernel
theorem dX7_isFor_64 : decode cX7_isFor 64 = .ok (.iconst 1, 1) := by decide +kernel
theorem dX7_isFor_65 : decode cX7_isFor 65 = .ok (.iadd, 1) := by decide +kernel
theorem dX7_isFor_66 : decode cX7_isFor 66 = .ok (.iastore, 1) := by decide +kernel
theorem dX7_isFor_67 : decode cX7_isFor 67 = .ok (.aload_n 0, 1) := by decide +kernel
theorem dX7_isFor_68 : decode cX7_isFor 68 = .ok (.getfield 34, 3) := by decide +kernel
theorem dX7_isFor_71 : decode cX7_isFor 71 = .ok (.iload 5, 2) := by decide +kernel
theorem dX7_isFor_73 : decode cX7_isFor 73 = .ok (.iaload, 1) := by decide +kernel
theorem dX7_isFor_74 : decode cX7_isFor 74 = .ok (.istore 8, 2) := by decide +kernel
theorem dX7_isFor_76 : decode cX7_isFor 76 = .ok (.iload 8, 2) := by decide +kernel
theorem dX7_isFor_78 : decode cX7_isFor 78 = .ok (.aload_n 0, 1) := by decide +kernel
theorem dX7_isFor_79 : decode cX7_isFor 79 = .ok (.getfield 16, 3) := by decide +kernel
theorem dX7_isFor_82 : decode cX7_isFor 82 = .ok (.iconst 1, 1) := by decide +kernel
theorem dX7_isFor_83 : decode cX7_isFor 83 = .ok (.iaload, 1) := by decide +kernel
theorem dX7_isFor_84 : decode cX7_isFor 84 = .ok (.if_icmp .ne 25, 3) := by decide +kernel
theorem dX7_isFor_87 : decode cX7_isFor 87 = .ok (.iload 6, 2) := by decide +kernel
theorem dX7_isFor_89 : decode cX7_isFor 89 = .ok (.iconst 1, 1) := by decide +kernel
theorem dX7_isFor_90 : decode cX7_isFor 90 = .ok (.aload_n 0, 1) := by decide +kernel
theorem dX7_isFor_91 : decode cX7_isFor 91 = .ok (.getfield 37, 3) := by decide +kernel
theorem dX7_isFor_94 : decode cX7_isFor 94 = .ok (.iload 5, 2) := by decide +kernel
theorem dX7_isFor_96 : decode cX7_isFor 96 = .ok (.iaload, 1) := by decide +kernel
theorem dX7_isFor_97 : decode cX7_isFor 97 = .ok (.ishl, 1) := by decide +kernel
theorem dX7_isFor_98 : decode cX7_isFor 98 = .ok (.iconst (-1), 1) := by decide +kernel
theorem dX7_isFor_99 : decode cX7_isFor 99 = .ok (.ixor, 1) := by decide +kernel
theorem dX7_isFor_100 : decode cX7_isFor 100 = .ok (.iand, 1) := by decide +kernel
theorem dX7_isFor_101 : decode cX7_isFor 101 = .ok (.istore 6, 2) := by decide +kernel
theorem dX7_isFor_103 : decode cX7_isFor 103 = .ok (.iinc 5 (-1), 3) := by decide +kernel
theorem dX7_isFor_106 : decode cX7_isFor 106 = .ok (.goto 149, 3) := by decide +kernel
theorem dX7_isFor_109 : decode cX7_isFor 109 = .ok (.aload_n 0, 1) := by decide +kernel
theorem dX7_isFor_110 : decode cX7_isFor 110 = .ok (.iload 8, 2) := by decide +kernel
theorem dX7_isFor_112 : decode cX7_isFor 112 = .ok (.aload_n 0, 1) := by decide +kernel
theorem dX7_isFor_113 : decode cX7_isFor 113 = .ok (.getfield 37, 3) := by decide +kernel
theorem dX7_isFor_116 : decode cX7_isFor 116 = .ok (.iload 5, 2) := by decide +kernel
theorem dX7_isFor_118 : decode cX7_isFor 118 = .ok (.iaload, 1) := by decide +kernel
theorem dX7_isFor_119 : decode cX7_isFor 119 = .ok (.invokevirtual 209, 3) := by decide +kernel
theorem dX7_isFor_122 : decode cX7_isFor 122 = .ok (.istore 9, 2) := by decide +kernel
theorem dX7_isFor_124 : decode cX7_isFor 124 = .ok (.iload 9, 2) := by decide +kernel
theorem dX7_isFor_126 : decode cX7_isFor 126 = .ok (.bipush (-9), 2) := by decide +kernel
theorem dX7_isFor_128 : decode cX7_isFor 128 = .ok (.if_icmp .eq 127, 3) := by decide +kernel
theorem dX7_isFor_131 : decode cX7_isFor 131 = .ok (.aload_n 0, 1) := by decide +kernel
theorem dX7_isFor_132 : decode cX7_isFor 132 = .ok (.iload_n 1, 1) := by decide +kernel
theorem dX7_isFor_133 : decode cX7_isFor 133 = .ok (.invokevirtual 192, 3) := by decide +kernel
theorem dX7_isFor_136 : decode cX7_isFor 136 = .ok (.iload 8, 2) := by decide +kernel
theorem dX7_isFor_138 : decode cX7_isFor 138 = .ok (.ishr, 1) := by decide +kernel
theorem dX7_isFor_139 : decode cX7_isFor 139 = .ok (.iconst 1, 1) := by decide +kernel
theorem dX7_isFor_140 : decode cX7_isFor 140 = .ok (.iand, 1) := by decide +kernel
theorem dX7_isFor_141 : decode cX7_isFor 141 = .ok (.iconst 1, 1) := by decide +kernel
theorem dX7_isFor_142 : decode cX7_isFor 142 = .ok (.if_icmp .ne 113, 3) := by decide +kernel
theorem dX7_isFor_145 : decode cX7_isFor 145 = .ok (.iload 6, 2) := by decide +kernel
theorem dX7_isFor_147 : decode cX7_isFor 147 = .ok (.iload 9, 2) := by decide +kernel
theorem dX7_isFor_149 : decode cX7_isFor 149 = .ok (.ishr, 1) := by decide +kernel
theorem dX7_isFor_150 : decode cX7_isFor 150 = .ok (.iconst 1, 1) := by decide +kernel
theorem dX7_isFor_151 : decode cX7_isFor 151 = .ok (.iand, 1) := by decide +kernel
theorem dX7_isFor_152 : decode cX7_isFor 152 = .ok (.ifCond .ne 103, 3) := by decide +kernel
theorem dX7_isFor_155 : decode cX7_isFor 155 = .ok (.aload_n 0, 1) := by decide +kernel
theorem dX7_isFor_156 : decode cX7_isFor 156 = .ok (.getfield 37, 3) := by decide +kernel
theorem dX7_isFor_159 : decode cX7_isFor 159 = .ok (.iload 5, 2) := by decide +kernel
theorem dX7_isFor_161 : decode cX7_isFor 161 = .ok (.iaload, 1) := by decide +kernel
theorem dX7_isFor_162 : decode cX7_isFor 162 = .ok (.iload_n 3, 1) := by decide +kernel
theorem dX7_isFor_163 : decode cX7_isFor 163 = .ok (.if_icmp .eq 92, 3) := by decide +kernel
theorem dX7_isFor_166 : decode cX7_isFor 166 = .ok (.iinc 5 1, 3) := by decide +kernel
theorem dX7_isFor_169 : decode cX7_isFor 169 = .ok (.aload_n 0, 1) := by decide +kernel
theorem dX7_isFor_170 : decode cX7_isFor 170 = .ok (.getfield 37, 3) := by decide +kernel
theorem dX7_isFor_173 : decode cX7_isFor 173 = .ok (.iload 5, 2) := by decide +kernel
theorem dX7_isFor_175 : decode cX7_isFor 175 = .ok (.iload 9, 2) := by decide +kernel
theorem dX7_isFor_177 : decode cX7_isFor 177 = .ok (.iastore, 1) := by decide +kernel
theorem dX7_isFor_178 : decode cX7_isFor 178 = .ok (.aload_n 0, 1) := by decide +kernel
theorem dX7_isFor_179 : decode cX7_isFor 179 = .ok (.getfield 40, 3) := by decide +kernel
theorem dX7_isFor_182 : decode cX7_isFor 182 = .ok (.iload 5, 2) := by decide +kernel
theorem dX7_isFor_184 : decode cX7_isFor 184 = .ok (.aload_n 0, 1) := by decide +kernel
theorem dX7_isFor_185 : decode cX7_isFor 185 = .ok (.getfield 40, 3) := by decide +kernel
theorem dX7_isFor_188 : decode cX7_isFor 188 = .ok (.iload 5, 2) := by decide +kernel
theorem dX7_isFor_190 : decode cX7_isFor 190 = .ok (.iconst 1, 1) := by decide +kernel
theorem dX7_isFor_191 : decode cX7_isFor 191 = .ok (.isub, 1) := by decide +kernel
theorem dX7_isFor_192 : decode cX7_isFor 192 = .ok (.iaload, 1) := by decide +kernel
theorem dX7_isFor_193 : decode cX7_isFor 193 = .ok (.aload_n 0, 1) := by decide +kernel
theorem dX7_isFor_194 : decode cX7_isFor 194 = .ok (.iload 8, 2) := by decide +kernel
theorem dX7_isFor_196 : decode cX7_isFor 196 = .ok (.invokevirtual 213, 3) := by decide +kernel
theorem dX7_isFor_199 : decode cX7_isFor 199 = .ok (.iadd, 1) := by decide +kernel
theorem dX7_isFor_200 : decode cX7_isFor 200 = .ok (.aload_n 0, 1) := by decide +kernel
theorem dX7_isFor_201 : decode cX7_isFor 201 = .ok (.iload_n 1, 1) := by decide +kernel
theorem dX7_isFor_202 : decode cX7_isFor 202 = .ok (.invokevirtual 186, 3) := by decide +kernel
theorem dX7_isFor_205 : decode cX7_isFor 205 = .ok (.iadd, 1) := by decide +kernel
theorem dX7_isFor_206 : decode cX7_isFor 206 = .ok (.iastore, 1) := by decide +kernel
theorem dX7_isFor_207 : decode cX7_isFor 207 = .ok (.aload_n 0, 1) := by decide +kernel
theorem dX7_isFor_208 : decode cX7_isFor 208 = .ok (.getfield 34, 3) := by decide +kernel
theorem dX7_isFor_211 : decode cX7_isFor 211 = .ok (.iload 5, 2) := by decide +kernel
theorem dX7_isFor_213 : decode cX7_isFor 213 = .ok (.iconst (-1), 1) := by decide +kernel
theorem dX7_isFor_214 : decode cX7_isFor 214 = .ok (.iastore, 1) := by decide +kernel
theorem dX7_isFor_215 : decode cX7_isFor 215 = .ok (.iload 6, 2) := by decide +kernel
theorem dX7_isFor_217 : decode cX7_isFor 217 = .ok (.iconst 1, 1) := by decide +kernel
theorem dX7_isFor_218 : decode cX7_isFor 218 = .ok (.iload 9, 2) := by decide +kernel
theorem dX7_isFor_220 : decode cX7_isFor 220 = .ok (.ishl, 1) := by decide +kernel
theorem dX7_isFor_221 : decode cX7_isFor 221 = .ok (.ior, 1) := by decide +kernel
theorem dX7_isFor_222 : decode cX7_isFor 222 = .ok (.istore 6, 2) := by decide +kernel
theorem dX7_isFor_224 : decode cX7_isFor 224 = .ok (.iload 9, 2) := by decide +kernel
theorem dX7_isFor_226 : decode cX7_isFor 226 = .ok (.iload_n 3, 1) := by decide +kernel
theorem dX7_isFor_227 : decode cX7_isFor 227 = .ok (.if_icmp .ne 25, 3) := by decide +kernel
theorem dX7_isFor_230 : decode cX7_isFor 230 = .ok (.aload_n 0, 1) := by decide +kernel
theorem dX7_isFor_231 : decode cX7_isFor 231 = .ok (.iload_n 1, 1) := by decide +kernel
theorem dX7_isFor_232 : decode cX7_isFor 232 = .ok (.invokevirtual 189, 3) := by decide +kernel
theorem dX7_isFor_235 : decode cX7_isFor 235 = .ok (.aload_n 0, 1) := by decide +kernel
theorem dX7_isFor_236 : decode cX7_isFor 236 = .ok (.getfield 40, 3) := by decide +kernel
theorem dX7_isFor_239 : decode cX7_isFor 239 = .ok (.iload 5, 2) := by decide +kernel
theorem dX7_isFor_241 : decode cX7_isFor 241 = .ok (.iaload, 1) := by decide +kernel
theorem dX7_isFor_242 : decode cX7_isFor 242 = .ok (.imul, 1) := by decide +kernel
theorem dX7_isFor_243 : decode cX7_isFor 243 = .ok (.iload 4, 2) := by decide +kernel
theorem dX7_isFor_245 : decode cX7_isFor 245 = .ok (.if_icmp .ne 7, 3) := by decide +kernel
theorem dX7_isFor_248 : decode cX7_isFor 248 = .ok (.iconst 1, 1) := by decide +kernel
theorem dX7_isFor_249 : decode cX7_isFor 249 = .ok (.goto 4, 3) := by decide +kernel
theorem dX7_isFor_252 : decode cX7_isFor 252 = .ok (.iconst 0, 1) := by decide +kernel
theorem dX7_isFor_253 : decode cX7_isFor 253 = .ok (.istore 7, 2) := by decide +kernel
theorem dX7_isFor_255 : decode cX7_isFor 255 = .ok (.goto (-209), 3) := by decide +kernel
theorem dX7_isFor_258 : decode cX7_isFor 258 = .ok (.iload 7, 2) := by decide +kernel
theorem dX7_isFor_260 : decode cX7_isFor 260 = .ok (.ireturn, 1) := by decide +kernel
set_option maxRecDepth 20000 in
theorem ggX7_forFee_X7_isCorner : GoodIn wsX7_forFee wsX7_isCorner := goodIn_r _ [7, 2, 8, 9, 6, 10, 46, 47, 48, 49, 50, 51, 52, 53, 54, 55, 56, 57, 58, 59, 60, 61, 62, 63, 64, 65, 66, 67, 68, 69, 70, 71, 72, 73, 74, 75, 76, 77, 78, 79] (by decide +kernel) (by decide +kernel)
set_option maxRecDepth 20000 in
theorem gX7_forFee_X7_isCorner : GoodIn wsX7_forFee (wsV RX7 173 RX7 yX7_isCorner wsX7_isCorner) := goodIn_app (goodIn_of _ (by decide +kernel)) ggX7_forFee_X7_isCorner
set_option maxRecDepth 20000 in
theorem ggX7_forFee_X7_in : GoodIn wsX7_forFee wsX7_in := goodIn_r _ [10] (by decide +kernel) (by decide +kernel)
set_option maxRecDepth 20000 in
theorem gX7_forFee_X7_in : GoodIn wsX7_forFee (va_wsS RX7 87 yX7_in wsX7_in) := goodIn_app (goodIn_of _ (by decide +kernel)) ggX7_forFee_X7_in
set_option maxRecDepth 20000 in
theorem ggX7_forFee_X7_isHis : GoodIn wsX7_forFee wsX7_isHis := goodIn_r _ [14, 15, 16, 17, 6, 18, 2, 46, 47, 48, 49, 50, 51, 52, 53, 54, 55, 56, 57, 58, 59, 60, 61, 62, 63, 64, 65, 66, 67, 68, 69, 70, 71, 72, 73, 74, 75, 76, 77, 78, 79] (by decide +kernel) (by decide +kernel)
set_option maxRecDepth 20000 in
theorem gX7_forFee_X7_isHis : GoodIn wsX7_forFee (wsV RX7 200 RX7 yX7_isHis wsX7_isHis) := goodIn_app (goodIn_of _ (by decide +kernel)) ggX7_forFee_X7_isHis
set_option maxRecDepth 20000 in
theorem ggX7_forFee_X7_isFor : GoodIn wsX7_forFee wsX7_isFor := goodIn_r _ [22, 23, 24, 25, 2, 26, 27, 28, 6, 29, 30, 31, 32, 33, 34, 35, 36, 37, 38, 39, 40, 41, 42, 43, 44, 45, 46, 47, 48, 49, 50, 51, 52, 53, 54, 55, 56, 57, 58, 59, 60, 61, 62, 63, 64, 65, 66, 67, 68, 69, 70, 71, 72, 73, 74, 75, 76, 77, 78, 79] (by decide +kernel) (by decide +kernel)
set_option maxRecDepth 20000 in
theorem gX7_forFee_X7_isFor : GoodIn wsX7_forFee (wsV RX7 262 RX7 yX7_isFor wsX7_isFor) := goodIn_app (goodIn_of _ (by decide +kernel)) ggX7_forFee_X7_isFor
theorem dX7_forFee_0 : decode cX7_forFee 0 = .ok (.aload_n 0, 1) := by decide +kernel
theorem dX7_forFee_1 : decode cX7_forFee 1 = .ok (.iload_n 1, 1) := by decide +kernel
theorem dX7_forFee_2 : decode cX7_forFee 2 = .ok (.invokevirtual 173, 3) := by decide +kernel

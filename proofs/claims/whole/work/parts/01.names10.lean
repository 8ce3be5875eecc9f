theorem dX7_fit_230 : decode cX7_fit 230 = .ok (.if_icmp .ge 33, 3) := by decide +kernel
theorem dX7_fit_233 : decode cX7_fit 233 = .ok (.aload_n 0, 1) := by decide +kernel
theorem dX7_fit_234 : decode cX7_fit 234 = .ok (.getfield 52, 3) := by decide +kernel
theorem dX7_fit_237 : decode cX7_fit 237 = .ok (.iload_n 2, 1) := by decide +kernel
theorem dX7_fit_238 : decode cX7_fit 238 = .ok (.aload_n 0, 1) := by decide +kernel
theorem dX7_fit_239 : decode cX7_fit 239 = .ok (.getfield 55, 3) := by decide +kernel
theorem dX7_fit_242 : decode cX7_fit 242 = .ok (.iload_n 2, 1) := by decide +kernel
theorem dX7_fit_243 : decode cX7_fit 243 = .ok (.iaload, 1) := by decide +kernel
theorem dX7_fit_244 : decode cX7_fit 244 = .ok (.iastore, 1) := by decide +kernel
theorem dX7_fit_245 : decode cX7_fit 245 = .ok (.aload_n 0, 1) := by decide +kernel
theorem dX7_fit_246 : decode cX7_fit 246 = .ok (.getfield 58, 3) := by decide +kernel
theorem dX7_fit_249 : decode cX7_fit 249 = .ok (.iload_n 2, 1) := by decide +kernel
theorem dX7_fit_250 : decode cX7_fit 250 = .ok (.aload_n 0, 1) := by decide +kernel
theorem dX7_fit_251 : decode cX7_fit 251 = .ok (.getfield 61, 3) := by decide +kernel
theorem dX7_fit_254 : decode cX7_fit 254 = .ok (.iload_n 2, 1) := by decide +kernel
theorem dX7_fit_255 : decode cX7_fit 255 = .ok (.iaload, 1) := by decide +kernel
theorem dX7_fit_256 : decode cX7_fit 256 = .ok (.iastore, 1) := by decide +kernel
theorem dX7_fit_257 : decode cX7_fit 257 = .ok (.iinc 2 1, 3) := by decide +kernel
theorem dX7_fit_260 : decode cX7_fit 260 = .ok (.goto (-37), 3) := by decide +kernel
theorem dX7_fit_263 : decode cX7_fit 263 = .ok (.iinc 1 1, 3) := by decide +kernel
theorem dX7_fit_266 : decode cX7_fit 266 = .ok (.goto (-177), 3) := by decide +kernel
theorem dX7_fit_269 : decode cX7_fit 269 = .ok (.return_, 1) := by decide +kernel
set_option maxRecDepth 20000 in
theorem ggX7_fits_X7_in : GoodIn wsX7_fits wsX7_in := goodIn_r _ [8] (by decide +kernel) (by decide +kernel)
set_option maxRecDepth 20000 in
theorem gX7_fits_X7_in : GoodIn wsX7_fits (va_wsS RX7 87 yX7_in wsX7_in) := goodIn_app (goodIn_of _ (by decide +kernel)) ggX7_fits_X7_in
set_option maxRecDepth 20000 in
theorem ggX7_fits_X7_fit : GoodIn wsX7_fits wsX7_fit := goodIn_r _ [12, 2, 13, 14, 3, 4, 15, 16, 17, 18, 19, 7, 20, 21, 22, 23, 24, 28, 29, 30, 31, 32, 33, 34, 35, 36, 37, 38, 39, 40, 41, 42, 43, 44, 45, 46, 47, 48, 49, 50, 51, 52, 53, 54, 55, 56, 57, 58, 59, 60, 61] (by decide +kernel) (by decide +kernel)
set_option maxRecDepth 20000 in
theorem gX7_fits_X7_fit : GoodIn wsX7_fits (wsV RX7 271 RX7 yX7_fit wsX7_fit) := goodIn_app (goodIn_of _ (by decide +kernel)) ggX7_fits_X7_fit
set_option maxRecDepth 20000 in
theorem ggX7_fits_X7_areBeside : GoodIn wsX7_fits wsX7_areBeside := goodIn_r _ [20, 2, 21, 22, 23, 7, 24, 28, 29, 30, 31, 32, 33, 34, 35, 36, 37, 38, 39, 40, 41, 42, 43, 44, 45, 46, 47, 48, 49, 50, 51, 52, 53, 54, 55, 56, 57, 58, 59, 60, 61] (by decide +kernel) (by decide +kernel)
set_option maxRecDepth 20000 in
theorem gX7_fits_X7_areBeside : GoodIn wsX7_fits (wsV RX7 268 RX7 yX7_areBeside wsX7_areBeside) := goodIn_app (goodIn_of _ (by decide +kernel)) ggX7_fits_X7_areBeside
set_option maxRecDepth 20000 in
theorem ggX7_fits_X7_many : GoodIn wsX7_fits wsX7_many := goodIn_r _ [27] (by decide +kernel) (by decide +kernel)
set_option maxRecDepth 20000 in
theorem gX7_fits_X7_many : GoodIn wsX7_fits (va_wsS RX7 265 yX7_many wsX7_many) := goodIn_app (goodIn_of _ (by decide +kernel)) ggX7_fits_X7_many
theorem dX7_fits_0 : decode cX7_fits 0 = .ok (.iload_n 1, 1) := by decide +kernel
theorem dX7_fits_1 : decode cX7_fits 1 = .ok (.i2l, 1) := by decide +kernel
theorem dX7_fits_2 : decode cX7_fits 2 = .ok (.lconst 0, 1) := by decide +kernel
theorem dX7_fits_3 : decode cX7_fits 3 = .ok (.ldc2_w 184, 3) := by decide +kernel
theorem dX7_fits_6 : decode cX7_fits 6 = .ok (.invokestatic 87, 3) := by decide +kernel
theorem dX7_fits_9 : decode cX7_fits 9 = .ok (.ifCond .ne 5, 3) := by decide +kernel
theorem dX7_fits_12 : decode cX7_fits 12 = .ok (.iconst (-1), 1) := by decide +kernel
theorem dX7_fits_13 : decode cX7_fits 13 = .ok (.ireturn, 1) := by decide +kernel
theorem dX7_fits_14 : decode cX7_fits 14 = .ok (.aload_n 0, 1) := by decide +kernel
theorem dX7_fits_15 : decode cX7_fits 15 = .ok (.invokevirtual 271, 3) := by decide +kernel
theorem dX7_fits_18 : decode cX7_fits 18 = .ok (.iconst 0, 1) := by decide +kernel
theorem dX7_fits_19 : decode cX7_fits 19 = .ok (.istore_n 2, 1) := by decide +kernel
theorem dX7_fits_20 : decode cX7_fits 20 = .ok (.iconst 0, 1) := by decide +kernel
theorem dX7_fits_21 : decode cX7_fits 21 = .ok (.istore_n 3, 1) := by decide +kernel
theorem dX7_fits_22 : decode cX7_fits 22 = .ok (.iconst 0, 1) := by decide +kernel
theorem dX7_fits_23 : decode cX7_fits 23 = .ok (.istore 4, 2) := by decide +kernel
theorem dX7_fits_25 : decode cX7_fits 25 = .ok (.iconst 0, 1) := by decide +kernel
theorem dX7_fits_26 : decode cX7_fits 26 = .ok (.istore 5, 2) := by decide +kernel
theorem dX7_fits_28 : decode cX7_fits 28 = .ok (.iconst 0, 1) := by decide +kernel
theorem dX7_fits_29 : decode cX7_fits 29 = .ok (.istore 6, 2) := by decide +kernel
theorem dX7_fits_31 : decode cX7_fits 31 = .ok (.iload 6, 2) := by decide +kernel
theorem dX7_fits_33 : decode cX7_fits 33 = .ok (.aload_n 0, 1) := by decide +kernel
theorem dX7_fits_34 : decode cX7_fits 34 = .ok (.getfield 16, 3) := by decide +kernel
theorem dX7_fits_37 : decode cX7_fits 37 = .ok (.iconst 0, 1) := by decide +kernel
theorem dX7_fits_38 : decode cX7_fits 38 = .ok (.iaload, 1) := by decide +kernel
theorem dX7_fits_39 : decode cX7_fits 39 = .ok (.if_icmp .ge 114, 3) := by decide +kernel
theorem dX7_fits_42 : decode cX7_fits 42 = .ok (.iload_n 2, 1) := by decide +kernel
theorem dX7_fits_43 : decode cX7_fits 43 = .ok (.aload_n 0, 1) := by decide +kernel
theorem dX7_fits_44 : decode cX7_fits 44 = .ok (.getfield 52, 3) := by decide +kernel
theorem dX7_fits_47 : decode cX7_fits 47 = .ok (.iload 6, 2) := by decide +kernel
theorem dX7_fits_49 : decode cX7_fits 49 = .ok (.iaload, 1) := by decide +kernel
theorem dX7_fits_50 : decode cX7_fits 50 = .ok (.iadd, 1) := by decide +kernel
theorem dX7_fits_51 : decode cX7_fits 51 = .ok (.istore_n 2, 1) := by decide +kernel
theorem dX7_fits_52 : decode cX7_fits 52 = .ok (.iload_n 3, 1) := by decide +kernel
theorem dX7_fits_53 : decode cX7_fits 53 = .ok (.aload_n 0, 1) := by decide +kernel
theorem dX7_fits_54 : decode cX7_fits 54 = .ok (.getfield 52, 3) := by decide +kernel
theorem dX7_fits_57 : decode cX7_fits 57 = .ok (.iload 6, 2) := by decide +kernel
theorem dX7_fits_59 : decode cX7_fits 59 = .ok (.iaload, 1) := by decide +kernel
theorem dX7_fits_60 : decode cX7_fits 60 = .ok (.ifCond .le 10, 3) := by decide +kernel
theorem dX7_fits_63 : decode cX7_fits 63 = .ok (.iconst 1, 1) := by decide +kernel
theorem dX7_fits_64 : decode cX7_fits 64 = .ok (.iload 6, 2) := by decide +kernel
theorem dX7_fits_66 : decode cX7_fits 66 = .ok (.ishl, 1) := by decide +kernel
theorem dX7_fits_67 : decode cX7_fits 67 = .ok (.goto 4, 3) := by decide +kernel
theorem dX7_fits_70 : decode cX7_fits 70 = .ok (.iconst 0, 1) := by decide +kernel
theorem dX7_fits_71 : decode cX7_fits 71 = .ok (.ior, 1) := by decide +kernel
theorem dX7_fits_72 : decode cX7_fits 72 = .ok (.istore_n 3, 1) := by decide +kernel
theorem dX7_fits_73 : decode cX7_fits 73 = .ok (.iload 4, 2) := by decide +kernel
theorem dX7_fits_75 : decode cX7_fits 75 = .ok (.aload_n 0, 1) := by decide +kernel
theorem dX7_fits_76 : decode cX7_fits 76 = .ok (.getfield 58, 3) := by decide +kernel
theorem dX7_fits_79 : decode cX7_fits 79 = .ok (.iload 6, 2) := by decide +kernel
theorem dX7_fits_81 : decode cX7_fits 81 = .ok (.iaload, 1) := by decide +kernel
theorem dX7_fits_82 : decode cX7_fits 82 = .ok (.ior, 1) := by decide +kernel
theorem dX7_fits_83 : decode cX7_fits 83 = .ok (.istore 4, 2) := by decide +kernel
theorem dX7_fits_85 : decode cX7_fits 85 = .ok (.iconst 0, 1) := by decide +kernel
theorem dX7_fits_86 : decode cX7_fits 86 = .ok (.istore 7, 2) := by decide +kernel
theorem dX7_fits_88 : decode cX7_fits 88 = .ok (.iload 7, 2) := by decide +kernel
theorem dX7_fits_90 : decode cX7_fits 90 = .ok (.aload_n 0, 1) := by decide +kernel
theorem dX7_fits_91 : decode cX7_fits 91 = .ok (.getfield 16, 3) := by decide +kernel
theorem dX7_fits_94 : decode cX7_fits 94 = .ok (.iconst 0, 1) := by decide +kernel
theorem dX7_fits_95 : decode cX7_fits 95 = .ok (.iaload, 1) := by decide +kernel
theorem dX7_fits_96 : decode cX7_fits 96 = .ok (.if_icmp .ge 51, 3) := by decide +kernel
theorem dX7_fits_99 : decode cX7_fits 99 = .ok (.aload_n 0, 1) := by decide +kernel
theorem dX7_fits_100 : decode cX7_fits 100 = .ok (.getfield 52, 3) := by decide +kernel
theorem dX7_fits_103 : decode cX7_fits 103 = .ok (.iload 6, 2) := by decide +kernel
theorem dX7_fits_105 : decode cX7_fits 105 = .ok (.iaload, 1) := by decide +kernel
theorem dX7_fits_106 : decode cX7_fits 106 = .ok (.ifCond .le 41, 3) := by decide +kernel
theorem dX7_fits_109 : decode cX7_fits 109 = .ok (.iload 5, 2) := by decide +kernel
theorem dX7_fits_111 : decode cX7_fits 111 = .ok (.aload_n 0, 1) := by decide +kernel
theorem dX7_fits_112 : decode cX7_fits 112 = .ok (.iload 6, 2) := by decide +kernel
theorem dX7_fits_114 : decode cX7_fits 114 = .ok (.iload 7, 2) := by decide +kernel
theorem dX7_fits_116 : decode cX7_fits 116 = .ok (.invokevirtual 268, 3) := by decide +kernel
theorem dX7_fits_119 : decode cX7_fits 119 = .ok (.ifCond .eq 18, 3) := by decide +kernel
theorem dX7_fits_122 : decode cX7_fits 122 = .ok (.iconst 1, 1) := by decide +kernel
theorem dX7_fits_123 : decode cX7_fits 123 = .ok (.aload_n 0, 1) := by decide +kernel
theorem dX7_fits_124 : decode cX7_fits 124 = .ok (.getfield 16, 3) := by decide +kernel
theorem dX7_fits_127 : decode cX7_fits 127 = .ok (.bipush 6, 2) := by decide +kernel
theorem dX7_fits_129 : decode cX7_fits 129 = .ok (.iload 7, 2) := by decide +kernel
theorem dX7_fits_131 : decode cX7_fits 131 = .ok (.iadd, 1) := by decide +kernel
theorem dX7_fits_132 : decode cX7_fits 132 = .ok (.iaload, 1) := by decide +kernel
theorem dX7_fits_133 : decode cX7_fits 133 = .ok (.ishl, 1) := by decide +kernel
theorem dX7_fits_134 : decode cX7_fits 134 = .ok (.goto 4, 3) := by decide +kernel
theorem dX7_fits_137 : decode cX7_fits 137 = .ok (.iconst 0, 1) := by decide +kernel
theorem dX7_fits_138 : decode cX7_fits 138 = .ok (.ior, 1) := by decide +kernel
theorem dX7_fits_139 : decode cX7_fits 139 = .ok (.istore 5, 2) := by decide +kernel
theorem dX7_fits_141 : decode cX7_fits 141 = .ok (.iinc 7 1, 3) := by decide +kernel
theorem dX7_fits_144 : decode cX7_fits 144 = .ok (.goto (-56), 3) := by decide +kernel
theorem dX7_fits_147 : decode cX7_fits 147 = .ok (.iinc 6 1, 3) := by decide +kernel
theorem dX7_fits_150 : decode cX7_fits 150 = .ok (.goto (-119), 3) := by decide +kernel
theorem dX7_fits_153 : decode cX7_fits 153 = .ok (.iload_n 1, 1) := by decide +kernel
theorem dX7_fits_154 : decode cX7_fits 154 = .ok (.ifCond .ne 7, 3) := by decide +kernel
theorem dX7_fits_157 : decode cX7_fits 157 = .ok (.iload_n 2, 1) := by decide +kernel
theorem dX7_fits_158 : decode cX7_fits 158 = .ok (.goto 27, 3) := by decide +kernel
theorem dX7_fits_161 : decode cX7_fits 161 = .ok (.iload_n 1, 1) := by decide +kernel
theorem dX7_fits_162 : decode cX7_fits 162 = .ok (.iconst 1, 1) := by decide +kernel
theorem dX7_fits_163 : decode cX7_fits 163 = .ok (.if_icmp .ne 7, 3) := by decide +kernel
theorem dX7_fits_166 : decode cX7_fits 166 = .ok (.iload_n 3, 1) := by decide +kernel
theorem dX7_fits_167 : decode cX7_fits 167 = .ok (.goto 18, 3) := by decide +kernel
theorem dX7_fits_170 : decode cX7_fits 170 = .ok (.iload_n 1, 1) := by decide +kernel
theorem dX7_fits_171 : decode cX7_fits 171 = .ok (.iconst 2, 1) := by decide +kernel
theorem dX7_fits_172 : decode cX7_fits 172 = .ok (.if_icmp .ne 8, 3) := by decide +kernel
theorem dX7_fits_175 : decode cX7_fits 175 = .ok (.iload 4, 2) := by decide +kernel
theorem dX7_fits_177 : decode cX7_fits 177 = .ok (.goto 8, 3) := by decide +kernel
theorem dX7_fits_180 : decode cX7_fits 180 = .ok (.iload 5, 2) := by decide +kernel
theorem dX7_fits_182 : decode cX7_fits 182 = .ok (.invokestatic 265, 3) := by decide +kernel
theorem dX7_fits_185 : decode cX7_fits 185 = .ok (.ireturn, 1) := by decide +kernel
theorem dX7_falseMark_0 : decode cX7_falseMark 0 = .ok (.bipush (-9), 2) := by decide +kernel
theorem dX7_falseMark_2 : decode cX7_falseMark 2 = .ok (.istore_n 1, 1) := by decide +kernel
theorem dX7_falseMark_3 : decode cX7_falseMark 3 = .ok (.bipush (-9), 2) := by decide +kernel
theorem dX7_falseMark_5 : decode cX7_falseMark 5 = .ok (.istore_n 2, 1) := by decide +kernel
theorem dX7_falseMark_6 : decode cX7_falseMark 6 = .ok (.aload_n 0, 1) := by decide +kernel
theorem dX7_falseMark_7 : decode cX7_falseMark 7 = .ok (.getfield 157, 3) := by decide +kernel
theorem dX7_falseMark_10 : decode cX7_falseMark 10 = .ok (.aload_n 0, 1) := by decide +kernel
theorem dX7_falseMark_11 : decode cX7_falseMark 11 = .ok (.getfield 160, 3) := by decide +kernel
theorem dX7_falseMark_14 : decode cX7_falseMark 14 = .ok (.if_icmp .ne 14, 3) := by decide +kernel
theorem dX7_falseMark_17 : decode cX7_falseMark 17 = .ok (.aload_n 0, 1) := by decide +kernel
theorem dX7_falseMark_18 : decode cX7_falseMark 18 = .ok (.getfield 157, 3) := by decide +kernel
theorem dX7_falseMark_21 : decode cX7_falseMark 21 = .ok (.ifCond .le 7, 3) := by decide +kernel
theorem dX7_falseMark_24 : decode cX7_falseMark 24 = .ok (.iconst 1, 1) := by decide +kernel
theorem dX7_falseMark_25 : decode cX7_falseMark 25 = .ok (.goto 4, 3) := by decide +kernel
theorem dX7_falseMark_28 : decode cX7_falseMark 28 = .ok (.iconst 0, 1) := by decide +kernel
theorem dX7_falseMark_29 : decode cX7_falseMark 29 = .ok (.istore_n 3, 1) := by decide +kernel
theorem dX7_falseMark_30 : decode cX7_falseMark 30 = .ok (.iconst 0, 1) := by decide +kernel
theorem dX7_falseMark_31 : decode cX7_falseMark 31 = .ok (.istore 4, 2) := by decide +kernel
theorem dX7_falseMark_33 : decode cX7_falseMark 33 = .ok (.iload 4, 2) := by decide +kernel
theorem dX7_falseMark_35 : decode cX7_falseMark 35 = .ok (.aload_n 0, 1) := by decide +kernel
theorem dX7_falseMark_36 : decode cX7_falseMark 36 = .ok (.getfield 157, 3) := by decide +kernel
theorem dX7_falseMark_39 : decode cX7_falseMark 39 = .ok (.if_icmp .ge 82, 3) := by decide +kernel
theorem dX7_falseMark_42 : decode cX7_falseMark 42 = .ok (.iload_n 3, 1) := by decide +kernel
theorem dX7_falseMark_43 : decode cX7_falseMark 43 = .ok (.ifCond .eq 78, 3) := by decide +kernel
theorem dX7_falseMark_46 : decode cX7_falseMark 46 = .ok (.aload_n 0, 1) := by decide +kernel
theorem dX7_falseMark_47 : decode cX7_falseMark 47 = .ok (.getfield 49, 3) := by decide +kernel
theorem dX7_falseMark_50 : decode cX7_falseMark 50 = .ok (.iload 4, 2) := by decide +kernel
theorem dX7_falseMark_52 : decode cX7_falseMark 52 = .ok (.iaload, 1) := by decide +kernel
theorem dX7_falseMark_53 : decode cX7_falseMark 53 = .ok (.istore 5, 2) := by decide +kernel
theorem dX7_falseMark_55 : decode cX7_falseMark 55 = .ok (.aload_n 0, 1) := by decide +kernel
theorem dX7_falseMark_56 : decode cX7_falseMark 56 = .ok (.getfield 46, 3) := by decide +kernel
theorem dX7_falseMark_59 : decode cX7_falseMark 59 = .ok (.iload 4, 2) := by decide +kernel
theorem dX7_falseMark_61 : decode cX7_falseMark 61 = .ok (.iaload, 1) := by decide +kernel
theorem dX7_falseMark_62 : decode cX7_falseMark 62 = .ok (.aload_n 0, 1) := by decide +kernel
theorem dX7_falseMark_63 : decode cX7_falseMark 63 = .ok (.getfield 16, 3) := by decide +kernel
theorem dX7_falseMark_66 : decode cX7_falseMark 66 = .ok (.bipush 6, 2) := by decide +kernel
theorem dX7_falseMark_68 : decode cX7_falseMark 68 = .ok (.iload 5, 2) := by decide +kernel
theorem dX7_falseMark_70 : decode cX7_falseMark 70 = .ok (.iadd, 1) := by decide +kernel
theorem dX7_falseMark_71 : decode cX7_falseMark 71 = .ok (.iaload, 1) := by decide +kernel
theorem dX7_falseMark_72 : decode cX7_falseMark 72 = .ok (.if_icmp .eq 43, 3) := by decide +kernel
theorem dX7_falseMark_75 : decode cX7_falseMark 75 = .ok (.iload_n 1, 1) := by decide +kernel
theorem dX7_falseMark_76 : decode cX7_falseMark 76 = .ok (.bipush (-9), 2) := by decide +kernel
theorem dX7_falseMark_78 : decode cX7_falseMark 78 = .ok (.if_icmp .eq 20, 3) := by decide +kernel
theorem dX7_falseMark_81 : decode cX7_falseMark 81 = .ok (.iload_n 1, 1) := by decide +kernel
theorem dX7_falseMark_82 : decode cX7_falseMark 82 = .ok (.iload 5, 2) := by decide +kernel
theorem dX7_falseMark_84 : decode cX7_falseMark 84 = .ok (.if_icmp .ne 18, 3) := by decide +kernel
theorem dX7_falseMark_87 : decode cX7_falseMark 87 = .ok (.iload_n 2, 1) := by decide +kernel
theorem dX7_falseMark_88 : decode cX7_falseMark 88 = .ok (.aload_n 0, 1) := by decide +kernel
theorem dX7_falseMark_89 : decode cX7_falseMark 89 = .ok (.getfield 46, 3) := by decide +kernel
theorem dX7_falseMark_92 : decode cX7_falseMark 92 = .ok (.iload 4, 2) := by decide +kernel
theorem dX7_falseMark_94 : decode cX7_falseMark 94 = .ok (.iaload, 1) := by decide +kernel
theorem dX7_falseMark_95 : decode cX7_falseMark 95 = .ok (.if_icmp .ne 7, 3) := by decide +kernel
theorem dX7_falseMark_98 : decode cX7_falseMark 98 = .ok (.iconst 1, 1) := by decide +kernel
theorem dX7_falseMark_99 : decode cX7_falseMark 99 = .ok (.goto 4, 3) := by decide +kernel
theorem dX7_falseMark_102 : decode cX7_falseMark 102 = .ok (.iconst 0, 1) := by decide +kernel
theorem dX7_falseMark_103 : decode cX7_falseMark 103 = .ok (.istore_n 3, 1) := by decide +kernel
theorem dX7_falseMark_104 : decode cX7_falseMark 104 = .ok (.iload 5, 2) := by decide +kernel
theorem dX7_falseMark_106 : decode cX7_falseMark 106 = .ok (.istore_n 1, 1) := by decide +kernel
theorem dX7_falseMark_107 : decode cX7_falseMark 107 = .ok (.aload_n 0, 1) := by decide +kernel
theorem dX7_falseMark_108 : decode cX7_falseMark 108 = .ok (.getfield 46, 3) := by decide +kernel
theorem dX7_falseMark_111 : decode cX7_falseMark 111 = .ok (.iload 4, 2) := by decide +kernel
theorem dX7_falseMark_113 : decode cX7_falseMark 113 = .ok (.iaload, 1) := by decide +kernel
theorem dX7_falseMark_114 : decode cX7_falseMark 114 = .ok (.istore_n 2, 1) := by decide +kernel
theorem dX7_falseMark_115 : decode cX7_falseMark 115 = .ok (.iinc 4 1, 3) := by decide +kernel
theorem dX7_falseMark_118 : decode cX7_falseMark 118 = .ok (.goto (-85), 3) := by decide +kernel
theorem dX7_falseMark_121 : decode cX7_falseMark 121 = .ok (.iconst 0, 1) := by decide +kernel
theorem dX7_falseMark_122 : decode cX7_falseMark 122 = .ok (.istore 4, 2) := by decide +kernel
theorem dX7_falseMark_124 : decode cX7_falseMark 124 = .ok (.iload 4, 2) := by decide +kernel
theorem dX7_falseMark_126 : decode cX7_falseMark 126 = .ok (.aload_n 0, 1) := by decide +kernel
theorem dX7_falseMark_127 : decode cX7_falseMark 127 = .ok (.getfield 157, 3) := by decide +kernel
theorem dX7_falseMark_130 : decode cX7_falseMark 130 = .ok (.if_icmp .ge 41, 3) := by decide +kernel
theorem dX7_falseMark_133 : decode cX7_falseMark 133 = .ok (.iload_n 3, 1) := by decide +kernel
theorem dX7_falseMark_134 : decode cX7_falseMark 134 = .ok (.ifCond .eq 37, 3) := by decide +kernel
theorem dX7_falseMark_137 : decode cX7_falseMark 137 = .ok (.aload_n 0, 1) := by decide +kernel
theorem dX7_falseMark_138 : decode cX7_falseMark 138 = .ok (.getfield 49, 3) := by decide +kernel
theorem dX7_falseMark_141 : decode cX7_falseMark 141 = .ok (.iload 4, 2) := by decide +kernel
theorem dX7_falseMark_143 : decode cX7_falseMark 143 = .ok (.iaload, 1) := by decide +kernel
theorem dX7_falseMark_144 : decode cX7_falseMark 144 = .ok (.iload_n 1, 1) := by decide +kernel
theorem dX7_falseMark_145 : decode cX7_falseMark 145 = .ok (.if_icmp .ne 14, 3) := by decide +kernel
theorem dX7_falseMark_148 : decode cX7_falseMark 148 = .ok (.aload_n 0, 1) := by decide +kernel
theorem dX7_falseMark_149 : decode cX7_falseMark 149 = .ok (.getfield 46, 3) := by decide +kernel
theorem dX7_falseMark_152 : decode cX7_falseMark 152 = .ok (.iload 4, 2) := by decide +kernel
theorem dX7_falseMark_154 : decode cX7_falseMark 154 = .ok (.iaload, 1) := by decide +kernel
theorem dX7_falseMark_155 : decode cX7_falseMark 155 = .ok (.iload_n 2, 1) := by decide +kernel
theorem dX7_falseMark_156 : decode cX7_falseMark 156 = .ok (.if_icmp .ne 7, 3) := by decide +kernel
theorem dX7_falseMark_159 : decode cX7_falseMark 159 = .ok (.iconst 1, 1) := by decide +kernel
theorem dX7_falseMark_160 : decode cX7_falseMark 160 = .ok (.goto 4, 3) := by decide +kernel
theorem dX7_falseMark_163 : decode cX7_falseMark 163 = .ok (.iconst 0, 1) := by decide +kernel
theorem dX7_falseMark_164 : decode cX7_falseMark 164 = .ok (.istore_n 3, 1) := by decide +kernel
theorem dX7_falseMark_165 : decode cX7_falseMark 165 = .ok (.iinc 4 1, 3) := by decide +kernel
theorem dX7_falseMark_168 : decode cX7_falseMark 168 = .ok (.goto (-44), 3) := by decide +kernel
theorem dX7_falseMark_171 : decode cX7_falseMark 171 = .ok (.iload_n 3, 1) := by decide +kernel
theorem dX7_falseMark_172 : decode cX7_falseMark 172 = .ok (.ifCond .eq 15, 3) := by decide +kernel
theorem dX7_falseMark_175 : decode cX7_falseMark 175 = .ok (.iload_n 1, 1) := by decide +kernel
theorem dX7_falseMark_176 : decode cX7_falseMark 176 = .ok (.bipush (-9), 2) := by decide +kernel
theorem dX7_falseMark_178 : decode cX7_falseMark 178 = .ok (.if_icmp .eq 9, 3) := by decide +kernel
theorem dX7_falseMark_181 : decode cX7_falseMark 181 = .ok (.iconst 1, 1) := by decide +kernel
theorem dX7_falseMark_182 : decode cX7_falseMark 182 = .ok (.iload_n 1, 1) := by decide +kernel
theorem dX7_falseMark_183 : decode cX7_falseMark 183 = .ok (.ishl, 1) := by decide +kernel
theorem dX7_falseMark_184 : decode cX7_falseMark 184 = .ok (.goto 4, 3) := by decide +kernel
theorem dX7_falseMark_187 : decode cX7_falseMark 187 = .ok (.iconst 0, 1) := by decide +kernel
theorem dX7_falseMark_188 : decode cX7_falseMark 188 = .ok (.ireturn, 1) := by decide +kernel
set_option maxRecDepth 20000 in
theorem ggX7_wishes_X7_isCorner : GoodIn wsX7_wishes wsX7_isCorner := goodIn_r _ [10, 11, 12, 13, 9, 14, 15, 16, 17, 18, 19, 20, 21, 22, 23, 24, 25, 26, 27, 28, 29, 30, 31, 32, 33, 34, 35, 36, 37, 38, 39, 40, 41, 42, 43, 44, 45, 46, 47, 48] (by decide +kernel) (by decide +kernel)
set_option maxRecDepth 20000 in
theorem gX7_wishes_X7_isCorner : GoodIn wsX7_wishes (wsV RX7 173 RX7 yX7_isCorner wsX7_isCorner) := goodIn_app (goodIn_of _ (by decide +kernel)) ggX7_wishes_X7_isCorner
set_option maxRecDepth 20000 in
theorem ggX7_wishes_X7_in : GoodIn wsX7_wishes wsX7_in := goodIn_r _ [14] (by decide +kernel) (by decide +kernel)
set_option maxRecDepth 20000 in
theorem gX7_wishes_X7_in : GoodIn wsX7_wishes (va_wsS RX7 87 yX7_in wsX7_in) := goodIn_app (goodIn_of _ (by decide +kernel)) ggX7_wishes_X7_in
theorem dX7_wishes_0 : decode cX7_wishes 0 = .ok (.aload_n 0, 1) := by decide +kernel
theorem dX7_wishes_1 : decode cX7_wishes 1 = .ok (.iload_n 1, 1) := by decide +kernel
theorem dX7_wishes_2 : decode cX7_wishes 2 = .ok (.invokevirtual 173, 3) := by decide +kernel
theorem dX7_wishes_5 : decode cX7_wishes 5 = .ok (.ifCond .eq 28, 3) := by decide +kernel
theorem dX7_wishes_8 : decode cX7_wishes 8 = .ok (.aload_n 0, 1) := by decide +kernel
theorem dX7_wishes_9 : decode cX7_wishes 9 = .ok (.iload_n 2, 1) := by decide +kernel
theorem dX7_wishes_10 : decode cX7_wishes 10 = .ok (.invokevirtual 173, 3) := by decide +kernel
theorem dX7_wishes_13 : decode cX7_wishes 13 = .ok (.ifCond .eq 20, 3) := by decide +kernel
theorem dX7_wishes_16 : decode cX7_wishes 16 = .ok (.iload_n 1, 1) := by decide +kernel
theorem dX7_wishes_17 : decode cX7_wishes 17 = .ok (.iload_n 2, 1) := by decide +kernel
theorem dX7_wishes_18 : decode cX7_wishes 18 = .ok (.if_icmp .eq 15, 3) := by decide +kernel
theorem dX7_wishes_21 : decode cX7_wishes 21 = .ok (.iload_n 3, 1) := by decide +kernel
theorem dX7_wishes_22 : decode cX7_wishes 22 = .ok (.i2l, 1) := by decide +kernel
theorem dX7_wishes_23 : decode cX7_wishes 23 = .ok (.lconst 0, 1) := by decide +kernel
theorem dX7_wishes_24 : decode cX7_wishes 24 = .ok (.ldc2_w 226, 3) := by decide +kernel
theorem dX7_wishes_27 : decode cX7_wishes 27 = .ok (.invokestatic 87, 3) := by decide +kernel
theorem dX7_wishes_30 : decode cX7_wishes 30 = .ok (.ifCond .ne 5, 3) := by decide +kernel
theorem dX7_wishes_33 : decode cX7_wishes 33 = .ok (.iconst (-1), 1) := by decide +kernel
theorem dX7_wishes_34 : decode cX7_wishes 34 = .ok (.ireturn, 1) := by decide +kernel
theorem dX7_wishes_35 : decode cX7_wishes 35 = .ok (.aload_n 0, 1) := by decide +kernel
theorem dX7_wishes_36 : decode cX7_wishes 36 = .ok (.getfield 163, 3) := by decide +kernel
theorem dX7_wishes_39 : decode cX7_wishes 39 = .ok (.iconst 4, 1) := by decide +kernel
theorem dX7_wishes_40 : decode cX7_wishes 40 = .ok (.if_icmp .ne 6, 3) := by decide +kernel
theorem dX7_wishes_43 : decode cX7_wishes 43 = .ok (.bipush (-3), 2) := by decide +kernel
theorem dX7_wishes_45 : decode cX7_wishes 45 = .ok (.ireturn, 1) := by decide +kernel
theorem dX7_wishes_46 : decode cX7_wishes 46 = .ok (.aload_n 0, 1) := by decide +kernel
theorem dX7_wishes_47 : decode cX7_wishes 47 = .ok (.getfield 64, 3) := by decide +kernel
theorem dX7_wishes_50 : decode cX7_wishes 50 = .ok (.aload_n 0, 1) := by decide +kernel
theorem dX7_wishes_51 : decode cX7_wishes 51 = .ok (.getfield 163, 3) := by decide +kernel
theorem dX7_wishes_54 : decode cX7_wishes 54 = .ok (.iload_n 1, 1) := by decide +kernel
theorem dX7_wishes_55 : decode cX7_wishes 55 = .ok (.iastore, 1) := by decide +kernel
theorem dX7_wishes_56 : decode cX7_wishes 56 = .ok (.aload_n 0, 1) := by decide +kernel
theorem dX7_wishes_57 : decode cX7_wishes 57 = .ok (.getfield 67, 3) := by decide +kernel
theorem dX7_wishes_60 : decode cX7_wishes 60 = .ok (.aload_n 0, 1) := by decide +kernel
theorem dX7_wishes_61 : decode cX7_wishes 61 = .ok (.getfield 163, 3) := by decide +kernel
theorem dX7_wishes_64 : decode cX7_wishes 64 = .ok (.iload_n 2, 1) := by decide +kernel
theorem dX7_wishes_65 : decode cX7_wishes 65 = .ok (.iastore, 1) := by decide +kernel
theorem dX7_wishes_66 : decode cX7_wishes 66 = .ok (.aload_n 0, 1) := by decide +kernel
theorem dX7_wishes_67 : decode cX7_wishes 67 = .ok (.getfield 70, 3) := by decide +kernel
theorem dX7_wishes_70 : decode cX7_wishes 70 = .ok (.aload_n 0, 1) := by decide +kernel
theorem dX7_wishes_71 : decode cX7_wishes 71 = .ok (.getfield 163, 3) := by decide +kernel
theorem dX7_wishes_74 : decode cX7_wishes 74 = .ok (.iload_n 3, 1) := by decide +kernel
theorem dX7_wishes_75 : decode cX7_wishes 75 = .ok (.iastore, 1) := by decide +kernel
theorem dX7_wishes_76 : decode cX7_wishes 76 = .ok (.aload_n 0, 1) := by decide +kernel
theorem dX7_wishes_77 : decode cX7_wishes 77 = .ok (.dup, 1) := by decide +kernel
theorem dX7_wishes_78 : decode cX7_wishes 78 = .ok (.getfield 163, 3) := by decide +kernel
theorem dX7_wishes_81 : decode cX7_wishes 81 = .ok (.iconst 1, 1) := by decide +kernel
theorem dX7_wishes_82 : decode cX7_wishes 82 = .ok (.iadd, 1) := by decide +kernel
theorem dX7_wishes_83 : decode cX7_wishes 83 = .ok (.putfield 163, 3) := by decide +kernel
theorem dX7_wishes_86 : decode cX7_wishes 86 = .ok (.aload_n 0, 1) := by decide +kernel
theorem dX7_wishes_87 : decode cX7_wishes 87 = .ok (.getfield 163, 3) := by decide +kernel
theorem dX7_wishes_90 : decode cX7_wishes 90 = .ok (.ireturn, 1) := by decide +kernel
theorem dX7_grants_0 : decode cX7_grants 0 = .ok (.aload_n 0, 1) := by decide +kernel
theorem dX7_grants_1 : decode cX7_grants 1 = .ok (.getfield 163, 3) := by decide +kernel
theorem dX7_grants_4 : decode cX7_grants 4 = .ok (.istore_n 1, 1) := by decide +kernel
theorem dX7_grants_5 : decode cX7_grants 5 = .ok (.aload_n 0, 1) := by decide +kernel
theorem dX7_grants_6 : decode cX7_grants 6 = .ok (.iconst 0, 1) := by decide +kernel
theorem dX7_grants_7 : decode cX7_grants 7 = .ok (.putfield 163, 3) := by decide +kernel
theorem dX7_grants_10 : decode cX7_grants 10 = .ok (.iload_n 1, 1) := by decide +kernel
theorem dX7_grants_11 : decode cX7_grants 11 = .ok (.ireturn, 1) := by decide +kernel
set_option maxRecDepth 20000 in
theorem ggX7_shortest_X7_known : GoodIn wsX7_shortest wsX7_known := goodIn_r _ [8, 3, 21, 22, 23, 24, 25, 26, 27, 28, 29, 30, 31, 32, 33, 34, 35, 36, 37, 38, 39, 40, 41, 42, 43, 44, 45, 46, 47, 48, 49, 50, 51, 52, 53, 54] (by decide +kernel) (by decide +kernel)
set_option maxRecDepth 20000 in
theorem gX7_shortest_X7_known : GoodIn wsX7_shortest (wsV RX7 192 RX7 yX7_known wsX7_known) := goodIn_app (goodIn_of _ (by decide +kernel)) ggX7_shortest_X7_known
set_option maxRecDepth 20000 in
theorem ggX7_shortest_X7_length : GoodIn wsX7_shortest wsX7_length := goodIn_r _ [12, 3, 21, 22, 23, 24, 25, 26, 27, 28, 29, 30, 31, 32, 33, 34, 35, 36, 37, 38, 39, 40, 41, 42, 43, 44, 45, 46, 47, 48, 49, 50, 51, 52, 53, 54] (by decide +kernel) (by decide +kernel)
set_option maxRecDepth 20000 in
theorem gX7_shortest_X7_length : GoodIn wsX7_shortest (wsV RX7 213 RX7 yX7_length wsX7_length) := goodIn_app (goodIn_of _ (by decide +kernel)) ggX7_shortest_X7_length
set_option maxRecDepth 20000 in
theorem ggX7_shortest_X7_pace : GoodIn wsX7_shortest wsX7_pace := goodIn_r _ [16, 3, 21, 22, 23, 24, 25, 26, 27, 28, 29, 30, 31, 32, 33, 34, 35, 36, 37, 38, 39, 40, 41, 42, 43, 44, 45, 46, 47, 48, 49, 50, 51, 52, 53, 54] (by decide +kernel) (by decide +kernel)
set_option maxRecDepth 20000 in
theorem gX7_shortest_X7_pace : GoodIn wsX7_shortest (wsV RX7 186 RX7 yX7_pace wsX7_pace) := goodIn_app (goodIn_of _ (by decide +kernel)) ggX7_shortest_X7_pace
set_option maxRecDepth 20000 in
theorem ggX7_shortest_X7_walks : GoodIn wsX7_shortest wsX7_walks := goodIn_r _ [20, 1, 21, 22, 23, 24, 25, 26, 27, 28, 29, 30, 31, 32, 33, 34, 35, 36, 37, 38, 39, 40, 41, 42, 43, 44, 45, 46, 47, 48, 49, 50, 51, 52, 53, 54] (by decide +kernel) (by decide +kernel)
set_option maxRecDepth 20000 in
theorem gX7_shortest_X7_walks : GoodIn wsX7_shortest (wsV RX7 274 RX7 yX7_walks wsX7_walks) := goodIn_app (goodIn_of _ (by decide +kernel)) ggX7_shortest_X7_walks
theorem dX7_shortest_0 : decode cX7_shortest 0 = .ok (.iconst 0, 1) := by decide +kernel
theorem dX7_shortest_1 : decode cX7_shortest 1 = .ok (.istore_n 2, 1) := by decide +kernel
theorem dX7_shortest_2 : decode cX7_shortest 2 = .ok (.iload_n 2, 1) := by decide +kernel
theorem dX7_shortest_3 : decode cX7_shortest 3 = .ok (.bipush 49, 2) := by decide +kernel
theorem dX7_shortest_5 : decode cX7_shortest 5 = .ok (.if_icmp .ge 32, 3) := by decide +kernel
theorem dX7_shortest_8 : decode cX7_shortest 8 = .ok (.aload_n 0, 1) := by decide +kernel
theorem dX7_shortest_9 : decode cX7_shortest 9 = .ok (.getfield 73, 3) := by decide +kernel
theorem dX7_shortest_12 : decode cX7_shortest 12 = .ok (.iload_n 2, 1) := by decide +kernel
theorem dX7_shortest_13 : decode cX7_shortest 13 = .ok (.iload_n 2, 1) := by decide +kernel
theorem dX7_shortest_14 : decode cX7_shortest 14 = .ok (.bipush 7, 2) := by decide +kernel
theorem dX7_shortest_16 : decode cX7_shortest 16 = .ok (.idiv, 1) := by decide +kernel
theorem dX7_shortest_17 : decode cX7_shortest 17 = .ok (.iload_n 2, 1) := by decide +kernel
theorem dX7_shortest_18 : decode cX7_shortest 18 = .ok (.bipush 7, 2) := by decide +kernel
theorem dX7_shortest_20 : decode cX7_shortest 20 = .ok (.irem, 1) := by decide +kernel
theorem dX7_shortest_21 : decode cX7_shortest 21 = .ok (.if_icmp .ne 7, 3) := by decide +kernel
theorem dX7_shortest_24 : decode cX7_shortest 24 = .ok (.iconst 0, 1) := by decide +kernel
theorem dX7_shortest_25 : decode cX7_shortest 25 = .ok (.goto 5, 3) := by decide +kernel
theorem dX7_shortest_28 : decode cX7_shortest 28 = .ok (.ldc 240, 2) := by decide +kernel
theorem dX7_shortest_30 : decode cX7_shortest 30 = .ok (.iastore, 1) := by decide +kernel
theorem dX7_shortest_31 : decode cX7_shortest 31 = .ok (.iinc 2 1, 3) := by decide +kernel
theorem dX7_shortest_34 : decode cX7_shortest 34 = .ok (.goto (-32), 3) := by decide +kernel
theorem dX7_shortest_37 : decode cX7_shortest 37 = .ok (.iconst 0, 1) := by decide +kernel
theorem dX7_shortest_38 : decode cX7_shortest 38 = .ok (.istore_n 2, 1) := by decide +kernel
theorem dX7_shortest_39 : decode cX7_shortest 39 = .ok (.iload_n 2, 1) := by decide +kernel
theorem dX7_shortest_40 : decode cX7_shortest 40 = .ok (.bipush 7, 2) := by decide +kernel
theorem dX7_shortest_42 : decode cX7_shortest 42 = .ok (.if_icmp .ge 104, 3) := by decide +kernel
theorem dX7_shortest_45 : decode cX7_shortest 45 = .ok (.iconst 0, 1) := by decide +kernel
theorem dX7_shortest_46 : decode cX7_shortest 46 = .ok (.istore_n 3, 1) := by decide +kernel
theorem dX7_shortest_47 : decode cX7_shortest 47 = .ok (.iload_n 3, 1) := by decide +kernel
theorem dX7_shortest_48 : decode cX7_shortest 48 = .ok (.aload_n 0, 1) := by decide +kernel
theorem dX7_shortest_49 : decode cX7_shortest 49 = .ok (.getfield 16, 3) := by decide +kernel
theorem dX7_shortest_52 : decode cX7_shortest 52 = .ok (.iconst 0, 1) := by decide +kernel
theorem dX7_shortest_53 : decode cX7_shortest 53 = .ok (.iaload, 1) := by decide +kernel
theorem dX7_shortest_54 : decode cX7_shortest 54 = .ok (.if_icmp .ge 86, 3) := by decide +kernel
theorem dX7_shortest_57 : decode cX7_shortest 57 = .ok (.iconst 0, 1) := by decide +kernel
theorem dX7_shortest_58 : decode cX7_shortest 58 = .ok (.istore 4, 2) := by decide +kernel
theorem dX7_shortest_60 : decode cX7_shortest 60 = .ok (.iload 4, 2) := by decide +kernel
theorem dX7_shortest_62 : decode cX7_shortest 62 = .ok (.aload_n 0, 1) := by decide +kernel
theorem dX7_shortest_63 : decode cX7_shortest 63 = .ok (.getfield 16, 3) := by decide +kernel
theorem dX7_shortest_66 : decode cX7_shortest 66 = .ok (.iconst 1, 1) := by decide +kernel
theorem dX7_shortest_67 : decode cX7_shortest 67 = .ok (.iaload, 1) := by decide +kernel
theorem dX7_shortest_68 : decode cX7_shortest 68 = .ok (.if_icmp .ge 66, 3) := by decide +kernel
theorem dX7_shortest_71 : decode cX7_shortest 71 = .ok (.aload_n 0, 1) := by decide +kernel
theorem dX7_shortest_72 : decode cX7_shortest 72 = .ok (.iload_n 1, 1) := by decide +kernel
theorem dX7_shortest_73 : decode cX7_shortest 73 = .ok (.invokevirtual 192, 3) := by decide +kernel
theorem dX7_shortest_76 : decode cX7_shortest 76 = .ok (.iload 4, 2) := by decide +kernel
theorem dX7_shortest_78 : decode cX7_shortest 78 = .ok (.ishr, 1) := by decide +kernel
theorem dX7_shortest_79 : decode cX7_shortest 79 = .ok (.iconst 1, 1) := by decide +kernel
theorem dX7_shortest_80 : decode cX7_shortest 80 = .ok (.iand, 1) := by decide +kernel
theorem dX7_shortest_81 : decode cX7_shortest 81 = .ok (.iconst 1, 1) := by decide +kernel
theorem dX7_shortest_82 : decode cX7_shortest 82 = .ok (.if_icmp .ne 46, 3) := by decide +kernel
theorem dX7_shortest_85 : decode cX7_shortest 85 = .ok (.aload_n 0, 1) := by decide +kernel
theorem dX7_shortest_86 : decode cX7_shortest 86 = .ok (.iload_n 3, 1) := by decide +kernel
theorem dX7_shortest_87 : decode cX7_shortest 87 = .ok (.aload_n 0, 1) := by decide +kernel
theorem dX7_shortest_88 : decode cX7_shortest 88 = .ok (.getfield 16, 3) := by decide +kernel
theorem dX7_shortest_91 : decode cX7_shortest 91 = .ok (.bipush 13, 2) := by decide +kernel
theorem dX7_shortest_93 : decode cX7_shortest 93 = .ok (.iconst 3, 1) := by decide +kernel
theorem dX7_shortest_94 : decode cX7_shortest 94 = .ok (.iload 4, 2) := by decide +kernel
theorem dX7_shortest_96 : decode cX7_shortest 96 = .ok (.imul, 1) := by decide +kernel
theorem dX7_shortest_97 : decode cX7_shortest 97 = .ok (.iadd, 1) := by decide +kernel
theorem dX7_shortest_98 : decode cX7_shortest 98 = .ok (.iaload, 1) := by decide +kernel
theorem dX7_shortest_99 : decode cX7_shortest 99 = .ok (.aload_n 0, 1) := by decide +kernel
theorem dX7_shortest_100 : decode cX7_shortest 100 = .ok (.getfield 16, 3) := by decide +kernel
theorem dX7_shortest_103 : decode cX7_shortest 103 = .ok (.bipush 13, 2) := by decide +kernel
theorem dX7_shortest_105 : decode cX7_shortest 105 = .ok (.iconst 3, 1) := by decide +kernel
theorem dX7_shortest_106 : decode cX7_shortest 106 = .ok (.iload 4, 2) := by decide +kernel
theorem dX7_shortest_108 : decode cX7_shortest 108 = .ok (.imul, 1) := by decide +kernel
theorem dX7_shortest_109 : decode cX7_shortest 109 = .ok (.iadd, 1) := by decide +kernel
theorem dX7_shortest_110 : decode cX7_shortest 110 = .ok (.iconst 1, 1) := by decide +kernel
theorem dX7_shortest_111 : decode cX7_shortest 111 = .ok (.iadd, 1) := by decide +kernel
theorem dX7_shortest_112 : decode cX7_shortest 112 = .ok (.iaload, 1) := by decide +kernel
theorem dX7_shortest_113 : decode cX7_shortest 113 = .ok (.aload_n 0, 1) := by decide +kernel
theorem dX7_shortest_114 : decode cX7_shortest 114 = .ok (.iload 4, 2) := by decide +kernel
theorem dX7_shortest_116 : decode cX7_shortest 116 = .ok (.invokevirtual 213, 3) := by decide +kernel
theorem dX7_shortest_119 : decode cX7_shortest 119 = .ok (.aload_n 0, 1) := by decide +kernel
theorem dX7_shortest_120 : decode cX7_shortest 120 = .ok (.iload_n 1, 1) := by decide +kernel
theorem dX7_shortest_121 : decode cX7_shortest 121 = .ok (.invokevirtual 186, 3) := by decide +kernel
theorem dX7_shortest_124 : decode cX7_shortest 124 = .ok (.iadd, 1) := by decide +kernel
theorem dX7_shortest_125 : decode cX7_shortest 125 = .ok (.invokevirtual 274, 3) := by decide +kernel
theorem dX7_shortest_128 : decode cX7_shortest 128 = .ok (.iinc 4 1, 3) := by decide +kernel
theorem dX7_shortest_131 : decode cX7_shortest 131 = .ok (.goto (-71), 3) := by decide +kernel
theorem dX7_shortest_134 : decode cX7_shortest 134 = .ok (.iinc 3 1, 3) := by decide +kernel
theorem dX7_shortest_137 : decode cX7_shortest 137 = .ok (.goto (-90), 3) := by decide +kernel
theorem dX7_shortest_140 : decode cX7_shortest 140 = .ok (.iinc 2 1, 3) := by decide +kernel
theorem dX7_shortest_143 : decode cX7_shortest 143 = .ok (.goto (-104), 3) := by decide +kernel
theorem dX7_shortest_146 : decode cX7_shortest 146 = .ok (.return_, 1) := by decide +kernel
theorem dX7_walks_0 : decode cX7_walks 0 = .ok (.aload_n 0, 1) := by decide +kernel
theorem dX7_walks_1 : decode cX7_walks 1 = .ok (.getfield 73, 3) := by decide +kernel
theorem dX7_walks_4 : decode cX7_walks 4 = .ok (.bipush 7, 2) := by decide +kernel
theorem dX7_walks_6 : decode cX7_walks 6 = .ok (.iload_n 1, 1) := by decide +kernel
theorem dX7_walks_7 : decode cX7_walks 7 = .ok (.imul, 1) := by decide +kernel
theorem dX7_walks_8 : decode cX7_walks 8 = .ok (.iload_n 2, 1) := by decide +kernel
theorem dX7_walks_9 : decode cX7_walks 9 = .ok (.iadd, 1) := by decide +kernel
theorem dX7_walks_10 : decode cX7_walks 10 = .ok (.iaload, 1) := by decide +kernel
theorem dX7_walks_11 : decode cX7_walks 11 = .ok (.iload 4, 2) := by decide +kernel
theorem dX7_walks_13 : decode cX7_walks 13 = .ok (.iadd, 1) := by decide +kernel
theorem dX7_walks_14 : decode cX7_walks 14 = .ok (.istore 5, 2) := by decide +kernel
theorem dX7_walks_16 : decode cX7_walks 16 = .ok (.aload_n 0, 1) := by decide +kernel
theorem dX7_walks_17 : decode cX7_walks 17 = .ok (.getfield 73, 3) := by decide +kernel
theorem dX7_walks_20 : decode cX7_walks 20 = .ok (.bipush 7, 2) := by decide +kernel
theorem dX7_walks_22 : decode cX7_walks 22 = .ok (.iload_n 1, 1) := by decide +kernel
theorem dX7_walks_23 : decode cX7_walks 23 = .ok (.imul, 1) := by decide +kernel
theorem dX7_walks_24 : decode cX7_walks 24 = .ok (.iload_n 3, 1) := by decide +kernel
theorem dX7_walks_25 : decode cX7_walks 25 = .ok (.iadd, 1) := by decide +kernel
theorem dX7_walks_26 : decode cX7_walks 26 = .ok (.iload 5, 2) := by decide +kernel
theorem dX7_walks_28 : decode cX7_walks 28 = .ok (.aload_n 0, 1) := by decide +kernel
theorem dX7_walks_29 : decode cX7_walks 29 = .ok (.getfield 73, 3) := by decide +kernel
theorem dX7_walks_32 : decode cX7_walks 32 = .ok (.bipush 7, 2) := by decide +kernel
theorem dX7_walks_34 : decode cX7_walks 34 = .ok (.iload_n 1, 1) := by decide +kernel
theorem dX7_walks_35 : decode cX7_walks 35 = .ok (.imul, 1) := by decide +kernel
theorem dX7_walks_36 : decode cX7_walks 36 = .ok (.iload_n 3, 1) := by decide +kernel
theorem dX7_walks_37 : decode cX7_walks 37 = .ok (.iadd, 1) := by decide +kernel
theorem dX7_walks_38 : decode cX7_walks 38 = .ok (.iaload, 1) := by decide +kernel
theorem dX7_walks_39 : decode cX7_walks 39 = .ok (.if_icmp .ge 8, 3) := by decide +kernel
theorem dX7_walks_42 : decode cX7_walks 42 = .ok (.iload 5, 2) := by decide +kernel
theorem dX7_walks_44 : decode cX7_walks 44 = .ok (.goto 14, 3) := by decide +kernel
theorem dX7_walks_47 : decode cX7_walks 47 = .ok (.aload_n 0, 1) := by decide +kernel
theorem dX7_walks_48 : decode cX7_walks 48 = .ok (.getfield 73, 3) := by decide +kernel
theorem dX7_walks_51 : decode cX7_walks 51 = .ok (.bipush 7, 2) := by decide +kernel
theorem dX7_walks_53 : decode cX7_walks 53 = .ok (.iload_n 1, 1) := by decide +kernel
theorem dX7_walks_54 : decode cX7_walks 54 = .ok (.imul, 1) := by decide +kernel
theorem dX7_walks_55 : decode cX7_walks 55 = .ok (.iload_n 3, 1) := by decide +kernel
theorem dX7_walks_56 : decode cX7_walks 56 = .ok (.iadd, 1) := by decide +kernel
theorem dX7_walks_57 : decode cX7_walks 57 = .ok (.iaload, 1) := by decide +kernel
theorem dX7_walks_58 : decode cX7_walks 58 = .ok (.iastore, 1) := by decide +kernel
theorem dX7_walks_59 : decode cX7_walks 59 = .ok (.aload_n 0, 1) := by decide +kernel
theorem dX7_walks_60 : decode cX7_walks 60 = .ok (.getfield 73, 3) := by decide +kernel
theorem dX7_walks_63 : decode cX7_walks 63 = .ok (.bipush 7, 2) := by decide +kernel
theorem dX7_walks_65 : decode cX7_walks 65 = .ok (.iload_n 1, 1) := by decide +kernel
theorem dX7_walks_66 : decode cX7_walks 66 = .ok (.imul, 1) := by decide +kernel
theorem dX7_walks_67 : decode cX7_walks 67 = .ok (.iload_n 3, 1) := by decide +kernel
theorem dX7_walks_68 : decode cX7_walks 68 = .ok (.iadd, 1) := by decide +kernel
theorem dX7_walks_69 : decode cX7_walks 69 = .ok (.iaload, 1) := by decide +kernel
theorem dX7_walks_70 : decode cX7_walks 70 = .ok (.iload 4, 2) := by decide +kernel
theorem dX7_walks_72 : decode cX7_walks 72 = .ok (.iadd, 1) := by decide +kernel
theorem dX7_walks_73 : decode cX7_walks 73 = .ok (.istore 6, 2) := by decide +kernel
theorem dX7_walks_75 : decode cX7_walks 75 = .ok (.aload_n 0, 1) := by decide +kernel
theorem dX7_walks_76 : decode cX7_walks 76 = .ok (.getfield 73, 3) := by decide +kernel
theorem dX7_walks_79 : decode cX7_walks 79 = .ok (.bipush 7, 2) := by decide +kernel
theorem dX7_walks_81 : decode cX7_walks 81 = .ok (.iload_n 1, 1) := by decide +kernel
theorem dX7_walks_82 : decode cX7_walks 82 = .ok (.imul, 1) := by decide +kernel
theorem dX7_walks_83 : decode cX7_walks 83 = .ok (.iload_n 2, 1) := by decide +kernel
theorem dX7_walks_84 : decode cX7_walks 84 = .ok (.iadd, 1) := by decide +kernel
theorem dX7_walks_85 : decode cX7_walks 85 = .ok (.iload 6, 2) := by decide +kernel
theorem dX7_walks_87 : decode cX7_walks 87 = .ok (.aload_n 0, 1) := by decide +kernel
theorem dX7_walks_88 : decode cX7_walks 88 = .ok (.getfield 73, 3) := by decide +kernel
theorem dX7_walks_91 : decode cX7_walks 91 = .ok (.bipush 7, 2) := by decide +kernel
theorem dX7_walks_93 : decode cX7_walks 93 = .ok (.iload_n 1, 1) := by decide +kernel
theorem dX7_walks_94 : decode cX7_walks 94 = .ok (.imul, 1) := by decide +kernel
theorem dX7_walks_95 : decode cX7_walks 95 = .ok (.iload_n 2, 1) := by decide +kernel
theorem dX7_walks_96 : decode cX7_walks 96 = .ok (.iadd, 1) := by decide +kernel
theorem dX7_walks_97 : decode cX7_walks 97 = .ok (.iaload, 1) := by decide +kernel
theorem dX7_walks_98 : decode cX7_walks 98 = .ok (.if_icmp .ge 8, 3) := by decide +kernel
theorem dX7_walks_101 : decode cX7_walks 101 = .ok (.iload 6, 2) := by decide +kernel
theorem dX7_walks_103 : decode cX7_walks 103 = .ok (.goto 14, 3) := by decide +kernel
theorem dX7_walks_106 : decode cX7_walks 106 = .ok (.aload_n 0, 1) := by decide +kernel
theorem dX7_walks_107 : decode cX7_walks 107 = .ok (.getfield 73, 3) := by decide +kernel
theorem dX7_walks_110 : decode cX7_walks 110 = .ok (.bipush 7, 2) := by decide +kernel
theorem dX7_walks_112 : decode cX7_walks 112 = .ok (.iload_n 1, 1) := by decide +kernel
theorem dX7_walks_113 : decode cX7_walks 113 = .ok (.imul, 1) := by decide +kernel
theorem dX7_walks_114 : decode cX7_walks 114 = .ok (.iload_n 2, 1) := by decide +kernel
theorem dX7_walks_115 : decode cX7_walks 115 = .ok (.iadd, 1) := by decide +kernel
theorem dX7_walks_116 : decode cX7_walks 116 = .ok (.iaload, 1) := by decide +kernel
theorem dX7_walks_117 : decode cX7_walks 117 = .ok (.iastore, 1) := by decide +kernel
theorem dX7_walks_118 : decode cX7_walks 118 = .ok (.return_, 1) := by decide +kernel
set_option maxRecDepth 20000 in
theorem ggX7_day_X7_isGuide : GoodIn wsX7_day wsX7_isGuide := goodIn_r _ [11, 12, 13, 14, 10, 15, 49, 50, 51, 52, 53, 54, 55, 56, 57, 58, 59, 60, 61, 62, 63, 64, 65, 66, 67, 68, 69, 70, 71, 72, 73, 74, 75, 76, 77, 78, 79, 80, 81, 82] (by decide +kernel) (by decide +kernel)
set_option maxRecDepth 20000 in
theorem gX7_day_X7_isGuide : GoodIn wsX7_day (wsV RX7 181 RX7 yX7_isGuide wsX7_isGuide) := goodIn_app (goodIn_of _ (by decide +kernel)) ggX7_day_X7_isGuide
set_option maxRecDepth 20000 in
theorem ggX7_day_X7_isCorner : GoodIn wsX7_day wsX7_isCorner := goodIn_r _ [19, 12, 13, 14, 10, 15, 49, 50, 51, 52, 53, 54, 55, 56, 57, 58, 59, 60, 61, 62, 63, 64, 65, 66, 67, 68, 69, 70, 71, 72, 73, 74, 75, 76, 77, 78, 79, 80, 81, 82] (by decide +kernel) (by decide +kernel)
set_option maxRecDepth 20000 in
theorem gX7_day_X7_isCorner : GoodIn wsX7_day (wsV RX7 173 RX7 yX7_isCorner wsX7_isCorner) := goodIn_app (goodIn_of _ (by decide +kernel)) ggX7_day_X7_isCorner
set_option maxRecDepth 20000 in
theorem ggX7_day_X7_in : GoodIn wsX7_day wsX7_in := goodIn_r _ [15] (by decide +kernel) (by decide +kernel)
set_option maxRecDepth 20000 in
theorem gX7_day_X7_in : GoodIn wsX7_day (va_wsS RX7 87 yX7_in wsX7_in) := goodIn_app (goodIn_of _ (by decide +kernel)) ggX7_day_X7_in
set_option maxRecDepth 20000 in
theorem ggX7_day_X7_isHis : GoodIn wsX7_day wsX7_isHis := goodIn_r _ [23, 24, 25, 26, 10, 27, 12, 49, 50, 51, 52, 53, 54, 55, 56, 57, 58, 59, 60, 61, 62, 63, 64, 65, 66, 67, 68, 69, 70, 71, 72, 73, 74, 75, 76, 77, 78, 79, 80, 81, 82] (by decide +kernel) (by decide +kernel)
set_option maxRecDepth 20000 in
theorem gX7_day_X7_isHis : GoodIn wsX7_day (wsV RX7 200 RX7 yX7_isHis wsX7_isHis) := goodIn_app (goodIn_of _ (by decide +kernel)) ggX7_day_X7_isHis
set_option maxRecDepth 20000 in
theorem ggX7_day_X7_shortest : GoodIn wsX7_day wsX7_shortest := goodIn_r _ [31, 3, 32, 12, 33, 34, 35, 10, 36, 37, 38, 39, 40, 41, 42, 43, 44, 45, 46, 47, 48, 49, 50, 51, 52, 53, 54, 55, 56, 57, 58, 59, 60, 61, 62, 63, 64, 65, 66, 67, 68, 69, 70, 71, 72, 73, 74, 75, 76, 77, 78, 79, 80, 81, 82] (by decide +kernel) (by decide +kernel)
set_option maxRecDepth 20000 in
theorem gX7_day_X7_shortest : GoodIn wsX7_day (wsV RX7 277 RX7 yX7_shortest wsX7_shortest) := goodIn_app (goodIn_of _ (by decide +kernel)) ggX7_day_X7_shortest
theorem dX7_day_0 : decode cX7_day 0 = .ok (.aload_n 0, 1) := by decide +kernel
theorem dX7_day_1 : decode cX7_day 1 = .ok (.iload_n 1, 1) := by decide +kernel
theorem dX7_day_2 : decode cX7_day 2 = .ok (.invokevirtual 181, 3) := by decide +kernel
theorem dX7_day_5 : decode cX7_day 5 = .ok (.ifCond .eq 43, 3) := by decide +kernel
theorem dX7_day_8 : decode cX7_day 8 = .ok (.aload_n 0, 1) := by decide +kernel
theorem dX7_day_9 : decode cX7_day 9 = .ok (.iload_n 2, 1) := by decide +kernel
theorem dX7_day_10 : decode cX7_day 10 = .ok (.invokevirtual 173, 3) := by decide +kernel
theorem dX7_day_13 : decode cX7_day 13 = .ok (.ifCond .eq 35, 3) := by decide +kernel
theorem dX7_day_16 : decode cX7_day 16 = .ok (.iload_n 3, 1) := by decide +kernel
theorem dX7_day_17 : decode cX7_day 17 = .ok (.i2l, 1) := by decide +kernel
theorem dX7_day_18 : decode cX7_day 18 = .ok (.lconst 0, 1) := by decide +kernel
theorem dX7_day_19 : decode cX7_day 19 = .ok (.ldc2_w 226, 3) := by decide +kernel
theorem dX7_day_22 : decode cX7_day 22 = .ok (.invokestatic 87, 3) := by decide +kernel
theorem dX7_day_25 : decode cX7_day 25 = .ok (.ifCond .eq 23, 3) := by decide +kernel
theorem dX7_day_28 : decode cX7_day 28 = .ok (.iload 4, 2) := by decide +kernel
theorem dX7_day_30 : decode cX7_day 30 = .ok (.i2l, 1) := by decide +kernel
theorem dX7_day_31 : decode cX7_day 31 = .ok (.lconst 0, 1) := by decide +kernel
theorem dX7_day_32 : decode cX7_day 32 = .ok (.lconst 1, 1) := by decide +kernel
theorem dX7_day_33 : decode cX7_day 33 = .ok (.invokestatic 87, 3) := by decide +kernel
theorem dX7_day_36 : decode cX7_day 36 = .ok (.ifCond .eq 12, 3) := by decide +kernel
theorem dX7_day_39 : decode cX7_day 39 = .ok (.aload_n 0, 1) := by decide +kernel
theorem dX7_day_40 : decode cX7_day 40 = .ok (.iload_n 1, 1) := by decide +kernel
theorem dX7_day_41 : decode cX7_day 41 = .ok (.iload_n 2, 1) := by decide +kernel
theorem dX7_day_42 : decode cX7_day 42 = .ok (.invokevirtual 200, 3) := by decide +kernel
theorem dX7_day_45 : decode cX7_day 45 = .ok (.ifCond .ne 5, 3) := by decide +kernel
theorem dX7_day_48 : decode cX7_day 48 = .ok (.iconst (-1), 1) := by decide +kernel
theorem dX7_day_49 : decode cX7_day 49 = .ok (.ireturn, 1) := by decide +kernel
theorem dX7_day_50 : decode cX7_day 50 = .ok (.aload_n 0, 1) := by decide +kernel
theorem dX7_day_51 : decode cX7_day 51 = .ok (.iload_n 1, 1) := by decide +kernel
theorem dX7_day_52 : decode cX7_day 52 = .ok (.invokevirtual 277, 3) := by decide +kernel
theorem dX7_day_55 : decode cX7_day 55 = .ok (.iconst 0, 1) := by decide +kernel
theorem dX7_day_56 : decode cX7_day 56 = .ok (.istore 5, 2) := by decide +kernel
theorem dX7_day_58 : decode cX7_day 58 = .ok (.iconst 0, 1) := by decide +kernel
theorem dX7_day_59 : decode cX7_day 59 = .ok (.istore 6, 2) := by decide +kernel
theorem dX7_day_61 : decode cX7_day 61 = .ok (.iconst 0, 1) := by decide +kernel
theorem dX7_day_62 : decode cX7_day 62 = .ok (.istore 7, 2) := by decide +kernel
theorem dX7_day_64 : decode cX7_day 64 = .ok (.iload 7, 2) := by decide +kernel
theorem dX7_day_66 : decode cX7_day 66 = .ok (.sipush 625, 3) := by decide +kernel
theorem dX7_day_69 : decode cX7_day 69 = .ok (.if_icmp .ge 291, 3) := by decide +kernel
theorem dX7_day_72 : decode cX7_day 72 = .ok (.iconst 0, 1) := by decide +kernel
theorem dX7_day_73 : decode cX7_day 73 = .ok (.istore 8, 2) := by decide +kernel
theorem dX7_day_75 : decode cX7_day 75 = .ok (.iconst 0, 1) := by decide +kernel
theorem dX7_day_76 : decode cX7_day 76 = .ok (.istore 9, 2) := by decide +kernel
theorem dX7_day_78 : decode cX7_day 78 = .ok (.iload_n 2, 1) := by decide +kernel
theorem dX7_day_79 : decode cX7_day 79 = .ok (.istore 10, 2) := by decide +kernel
theorem dX7_day_81 : decode cX7_day 81 = .ok (.lconst 0, 1) := by decide +kernel
theorem dX7_day_82 : decode cX7_day 82 = .ok (.lstore 11, 2) := by decide +kernel
theorem dX7_day_84 : decode cX7_day 84 = .ok (.iconst 1, 1) := by decide +kernel
theorem dX7_day_85 : decode cX7_day 85 = .ok (.istore 13, 2) := by decide +kernel

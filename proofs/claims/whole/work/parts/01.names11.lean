theorem dX7_day_87 : decode cX7_day 87 = .ok (.iconst 0, 1) := by decide +kernel
theorem dX7_day_88 : decode cX7_day 88 = .ok (.istore 14, 2) := by decide +kernel
theorem dX7_day_90 : decode cX7_day 90 = .ok (.iconst 0, 1) := by decide +kernel
theorem dX7_day_91 : decode cX7_day 91 = .ok (.istore 15, 2) := by decide +kernel
theorem dX7_day_93 : decode cX7_day 93 = .ok (.bipush 125, 2) := by decide +kernel
theorem dX7_day_95 : decode cX7_day 95 = .ok (.istore 16, 2) := by decide +kernel
theorem dX7_day_97 : decode cX7_day 97 = .ok (.iload 15, 2) := by decide +kernel
theorem dX7_day_99 : decode cX7_day 99 = .ok (.iconst 4, 1) := by decide +kernel
theorem dX7_day_100 : decode cX7_day 100 = .ok (.if_icmp .ge 185, 3) := by decide +kernel
theorem dX7_day_103 : decode cX7_day 103 = .ok (.iload 13, 2) := by decide +kernel
theorem dX7_day_105 : decode cX7_day 105 = .ok (.ifCond .eq 180, 3) := by decide +kernel
theorem dX7_day_108 : decode cX7_day 108 = .ok (.iload 7, 2) := by decide +kernel
theorem dX7_day_110 : decode cX7_day 110 = .ok (.iload 16, 2) := by decide +kernel
theorem dX7_day_112 : decode cX7_day 112 = .ok (.idiv, 1) := by decide +kernel
theorem dX7_day_113 : decode cX7_day 113 = .ok (.iconst 5, 1) := by decide +kernel
theorem dX7_day_114 : decode cX7_day 114 = .ok (.irem, 1) := by decide +kernel
theorem dX7_day_115 : decode cX7_day 115 = .ok (.istore 17, 2) := by decide +kernel
theorem dX7_day_117 : decode cX7_day 117 = .ok (.iload 14, 2) := by decide +kernel
theorem dX7_day_119 : decode cX7_day 119 = .ok (.ifCond .ne 9, 3) := by decide +kernel
theorem dX7_day_122 : decode cX7_day 122 = .ok (.iload 17, 2) := by decide +kernel
theorem dX7_day_124 : decode cX7_day 124 = .ok (.iconst 4, 1) := by decide +kernel
theorem dX7_day_125 : decode cX7_day 125 = .ok (.if_icmp .ne 7, 3) := by decide +kernel
theorem dX7_day_128 : decode cX7_day 128 = .ok (.iconst 1, 1) := by decide +kernel
theorem dX7_day_129 : decode cX7_day 129 = .ok (.goto 4, 3) := by decide +kernel
theorem dX7_day_132 : decode cX7_day 132 = .ok (.iconst 0, 1) := by decide +kernel
theorem dX7_day_133 : decode cX7_day 133 = .ok (.istore 14, 2) := by decide +kernel
theorem dX7_day_135 : decode cX7_day 135 = .ok (.iload 14, 2) := by decide +kernel
theorem dX7_day_137 : decode cX7_day 137 = .ok (.ifCond .eq 17, 3) := by decide +kernel
theorem dX7_day_140 : decode cX7_day 140 = .ok (.iload 17, 2) := by decide +kernel
theorem dX7_day_142 : decode cX7_day 142 = .ok (.iconst 4, 1) := by decide +kernel
theorem dX7_day_143 : decode cX7_day 143 = .ok (.if_icmp .ne 7, 3) := by decide +kernel
theorem dX7_day_146 : decode cX7_day 146 = .ok (.iconst 1, 1) := by decide +kernel
theorem dX7_day_147 : decode cX7_day 147 = .ok (.goto 31, 3) := by decide +kernel
theorem dX7_day_150 : decode cX7_day 150 = .ok (.iconst 0, 1) := by decide +kernel
theorem dX7_day_151 : decode cX7_day 151 = .ok (.goto 27, 3) := by decide +kernel
theorem dX7_day_154 : decode cX7_day 154 = .ok (.iload 17, 2) := by decide +kernel
theorem dX7_day_156 : decode cX7_day 156 = .ok (.aload_n 0, 1) := by decide +kernel
theorem dX7_day_157 : decode cX7_day 157 = .ok (.getfield 163, 3) := by decide +kernel
theorem dX7_day_160 : decode cX7_day 160 = .ok (.if_icmp .ge 17, 3) := by decide +kernel
theorem dX7_day_163 : decode cX7_day 163 = .ok (.iload 8, 2) := by decide +kernel
theorem dX7_day_165 : decode cX7_day 165 = .ok (.iload 17, 2) := by decide +kernel
theorem dX7_day_167 : decode cX7_day 167 = .ok (.ishr, 1) := by decide +kernel
theorem dX7_day_168 : decode cX7_day 168 = .ok (.iconst 1, 1) := by decide +kernel
theorem dX7_day_169 : decode cX7_day 169 = .ok (.iand, 1) := by decide +kernel
theorem dX7_day_170 : decode cX7_day 170 = .ok (.ifCond .ne 7, 3) := by decide +kernel
theorem dX7_day_173 : decode cX7_day 173 = .ok (.iconst 1, 1) := by decide +kernel
theorem dX7_day_174 : decode cX7_day 174 = .ok (.goto 4, 3) := by decide +kernel
theorem dX7_day_177 : decode cX7_day 177 = .ok (.iconst 0, 1) := by decide +kernel
theorem dX7_day_178 : decode cX7_day 178 = .ok (.istore 13, 2) := by decide +kernel
theorem dX7_day_180 : decode cX7_day 180 = .ok (.iload 13, 2) := by decide +kernel
theorem dX7_day_182 : decode cX7_day 182 = .ok (.ifCond .eq 91, 3) := by decide +kernel
theorem dX7_day_185 : decode cX7_day 185 = .ok (.iload 14, 2) := by decide +kernel
theorem dX7_day_187 : decode cX7_day 187 = .ok (.ifCond .ne 86, 3) := by decide +kernel
theorem dX7_day_190 : decode cX7_day 190 = .ok (.lload 11, 2) := by decide +kernel
theorem dX7_day_192 : decode cX7_day 192 = .ok (.aload_n 0, 1) := by decide +kernel
theorem dX7_day_193 : decode cX7_day 193 = .ok (.getfield 73, 3) := by decide +kernel
theorem dX7_day_196 : decode cX7_day 196 = .ok (.bipush 7, 2) := by decide +kernel
theorem dX7_day_198 : decode cX7_day 198 = .ok (.iload 10, 2) := by decide +kernel
theorem dX7_day_200 : decode cX7_day 200 = .ok (.imul, 1) := by decide +kernel
theorem dX7_day_201 : decode cX7_day 201 = .ok (.aload_n 0, 1) := by decide +kernel
theorem dX7_day_202 : decode cX7_day 202 = .ok (.getfield 64, 3) := by decide +kernel
theorem dX7_day_205 : decode cX7_day 205 = .ok (.iload 17, 2) := by decide +kernel
theorem dX7_day_207 : decode cX7_day 207 = .ok (.iaload, 1) := by decide +kernel
theorem dX7_day_208 : decode cX7_day 208 = .ok (.iadd, 1) := by decide +kernel
theorem dX7_day_209 : decode cX7_day 209 = .ok (.iaload, 1) := by decide +kernel
theorem dX7_day_210 : decode cX7_day 210 = .ok (.i2l, 1) := by decide +kernel
theorem dX7_day_211 : decode cX7_day 211 = .ok (.ladd, 1) := by decide +kernel
theorem dX7_day_212 : decode cX7_day 212 = .ok (.lstore 11, 2) := by decide +kernel
theorem dX7_day_214 : decode cX7_day 214 = .ok (.lload 11, 2) := by decide +kernel
theorem dX7_day_216 : decode cX7_day 216 = .ok (.aload_n 0, 1) := by decide +kernel
theorem dX7_day_217 : decode cX7_day 217 = .ok (.getfield 73, 3) := by decide +kernel
theorem dX7_day_220 : decode cX7_day 220 = .ok (.bipush 7, 2) := by decide +kernel
theorem dX7_day_222 : decode cX7_day 222 = .ok (.aload_n 0, 1) := by decide +kernel
theorem dX7_day_223 : decode cX7_day 223 = .ok (.getfield 64, 3) := by decide +kernel
theorem dX7_day_226 : decode cX7_day 226 = .ok (.iload 17, 2) := by decide +kernel
theorem dX7_day_228 : decode cX7_day 228 = .ok (.iaload, 1) := by decide +kernel
theorem dX7_day_229 : decode cX7_day 229 = .ok (.imul, 1) := by decide +kernel
theorem dX7_day_230 : decode cX7_day 230 = .ok (.aload_n 0, 1) := by decide +kernel
theorem dX7_day_231 : decode cX7_day 231 = .ok (.getfield 67, 3) := by decide +kernel
theorem dX7_day_234 : decode cX7_day 234 = .ok (.iload 17, 2) := by decide +kernel
theorem dX7_day_236 : decode cX7_day 236 = .ok (.iaload, 1) := by decide +kernel
theorem dX7_day_237 : decode cX7_day 237 = .ok (.iadd, 1) := by decide +kernel
theorem dX7_day_238 : decode cX7_day 238 = .ok (.iaload, 1) := by decide +kernel
theorem dX7_day_239 : decode cX7_day 239 = .ok (.i2l, 1) := by decide +kernel
theorem dX7_day_240 : decode cX7_day 240 = .ok (.ladd, 1) := by decide +kernel
theorem dX7_day_241 : decode cX7_day 241 = .ok (.lstore 11, 2) := by decide +kernel
theorem dX7_day_243 : decode cX7_day 243 = .ok (.aload_n 0, 1) := by decide +kernel
theorem dX7_day_244 : decode cX7_day 244 = .ok (.getfield 67, 3) := by decide +kernel
theorem dX7_day_247 : decode cX7_day 247 = .ok (.iload 17, 2) := by decide +kernel
theorem dX7_day_249 : decode cX7_day 249 = .ok (.iaload, 1) := by decide +kernel
theorem dX7_day_250 : decode cX7_day 250 = .ok (.istore 10, 2) := by decide +kernel
theorem dX7_day_252 : decode cX7_day 252 = .ok (.iload 8, 2) := by decide +kernel
theorem dX7_day_254 : decode cX7_day 254 = .ok (.iconst 1, 1) := by decide +kernel
theorem dX7_day_255 : decode cX7_day 255 = .ok (.iload 17, 2) := by decide +kernel
theorem dX7_day_257 : decode cX7_day 257 = .ok (.ishl, 1) := by decide +kernel
theorem dX7_day_258 : decode cX7_day 258 = .ok (.ior, 1) := by decide +kernel
theorem dX7_day_259 : decode cX7_day 259 = .ok (.istore 8, 2) := by decide +kernel
theorem dX7_day_261 : decode cX7_day 261 = .ok (.iload 9, 2) := by decide +kernel
theorem dX7_day_263 : decode cX7_day 263 = .ok (.aload_n 0, 1) := by decide +kernel
theorem dX7_day_264 : decode cX7_day 264 = .ok (.getfield 70, 3) := by decide +kernel
theorem dX7_day_267 : decode cX7_day 267 = .ok (.iload 17, 2) := by decide +kernel
theorem dX7_day_269 : decode cX7_day 269 = .ok (.iaload, 1) := by decide +kernel
theorem dX7_day_270 : decode cX7_day 270 = .ok (.iadd, 1) := by decide +kernel
theorem dX7_day_271 : decode cX7_day 271 = .ok (.istore 9, 2) := by decide +kernel
theorem dX7_day_273 : decode cX7_day 273 = .ok (.iinc 15 1, 3) := by decide +kernel
theorem dX7_day_276 : decode cX7_day 276 = .ok (.iload 16, 2) := by decide +kernel
theorem dX7_day_278 : decode cX7_day 278 = .ok (.iconst 5, 1) := by decide +kernel
theorem dX7_day_279 : decode cX7_day 279 = .ok (.idiv, 1) := by decide +kernel
theorem dX7_day_280 : decode cX7_day 280 = .ok (.istore 16, 2) := by decide +kernel
theorem dX7_day_282 : decode cX7_day 282 = .ok (.goto (-185), 3) := by decide +kernel
theorem dX7_day_285 : decode cX7_day 285 = .ok (.iload 13, 2) := by decide +kernel
theorem dX7_day_287 : decode cX7_day 287 = .ok (.ifCond .eq 36, 3) := by decide +kernel
theorem dX7_day_290 : decode cX7_day 290 = .ok (.lload 11, 2) := by decide +kernel
theorem dX7_day_292 : decode cX7_day 292 = .ok (.iload_n 3, 1) := by decide +kernel
theorem dX7_day_293 : decode cX7_day 293 = .ok (.i2l, 1) := by decide +kernel
theorem dX7_day_294 : decode cX7_day 294 = .ok (.lcmp, 1) := by decide +kernel
theorem dX7_day_295 : decode cX7_day 295 = .ok (.ifCond .gt 28, 3) := by decide +kernel
theorem dX7_day_298 : decode cX7_day 298 = .ok (.iload 9, 2) := by decide +kernel
theorem dX7_day_300 : decode cX7_day 300 = .ok (.iload 5, 2) := by decide +kernel
theorem dX7_day_302 : decode cX7_day 302 = .ok (.if_icmp .gt 17, 3) := by decide +kernel
theorem dX7_day_305 : decode cX7_day 305 = .ok (.iload 9, 2) := by decide +kernel
theorem dX7_day_307 : decode cX7_day 307 = .ok (.iload 5, 2) := by decide +kernel
theorem dX7_day_309 : decode cX7_day 309 = .ok (.if_icmp .ne 14, 3) := by decide +kernel
theorem dX7_day_312 : decode cX7_day 312 = .ok (.iload 8, 2) := by decide +kernel
theorem dX7_day_314 : decode cX7_day 314 = .ok (.iload 6, 2) := by decide +kernel
theorem dX7_day_316 : decode cX7_day 316 = .ok (.if_icmp .ge 7, 3) := by decide +kernel
theorem dX7_day_319 : decode cX7_day 319 = .ok (.iconst 1, 1) := by decide +kernel
theorem dX7_day_320 : decode cX7_day 320 = .ok (.goto 4, 3) := by decide +kernel
theorem dX7_day_323 : decode cX7_day 323 = .ok (.iconst 0, 1) := by decide +kernel
theorem dX7_day_324 : decode cX7_day 324 = .ok (.istore 15, 2) := by decide +kernel
theorem dX7_day_326 : decode cX7_day 326 = .ok (.iload 15, 2) := by decide +kernel
theorem dX7_day_328 : decode cX7_day 328 = .ok (.ifCond .eq 8, 3) := by decide +kernel
theorem dX7_day_331 : decode cX7_day 331 = .ok (.iload 8, 2) := by decide +kernel
theorem dX7_day_333 : decode cX7_day 333 = .ok (.goto 5, 3) := by decide +kernel
theorem dX7_day_336 : decode cX7_day 336 = .ok (.iload 6, 2) := by decide +kernel
theorem dX7_day_338 : decode cX7_day 338 = .ok (.istore 6, 2) := by decide +kernel
theorem dX7_day_340 : decode cX7_day 340 = .ok (.iload 15, 2) := by decide +kernel
theorem dX7_day_342 : decode cX7_day 342 = .ok (.ifCond .eq 8, 3) := by decide +kernel
theorem dX7_day_345 : decode cX7_day 345 = .ok (.iload 9, 2) := by decide +kernel
theorem dX7_day_347 : decode cX7_day 347 = .ok (.goto 5, 3) := by decide +kernel
theorem dX7_day_350 : decode cX7_day 350 = .ok (.iload 5, 2) := by decide +kernel
theorem dX7_day_352 : decode cX7_day 352 = .ok (.istore 5, 2) := by decide +kernel
theorem dX7_day_354 : decode cX7_day 354 = .ok (.iinc 7 1, 3) := by decide +kernel
theorem dX7_day_357 : decode cX7_day 357 = .ok (.goto (-293), 3) := by decide +kernel
theorem dX7_day_360 : decode cX7_day 360 = .ok (.iload 4, 2) := by decide +kernel
theorem dX7_day_362 : decode cX7_day 362 = .ok (.ifCond .ne 8, 3) := by decide +kernel
theorem dX7_day_365 : decode cX7_day 365 = .ok (.iload 5, 2) := by decide +kernel
theorem dX7_day_367 : decode cX7_day 367 = .ok (.goto 5, 3) := by decide +kernel
theorem dX7_day_370 : decode cX7_day 370 = .ok (.iload 6, 2) := by decide +kernel
theorem dX7_day_372 : decode cX7_day 372 = .ok (.ireturn, 1) := by decide +kernel
set_option maxRecDepth 20000 in
theorem ggX7_rate_X7_in : GoodIn wsX7_rate wsX7_in := goodIn_r _ [13] (by decide +kernel) (by decide +kernel)
set_option maxRecDepth 20000 in
theorem gX7_rate_X7_in : GoodIn wsX7_rate (va_wsS RX7 87 yX7_in wsX7_in) := goodIn_app (goodIn_of _ (by decide +kernel)) ggX7_rate_X7_in
set_option maxRecDepth 20000 in
theorem ggX7_rate_X7_isGuide : GoodIn wsX7_rate wsX7_isGuide := goodIn_r _ [17, 18, 10, 11, 12, 13, 38, 39, 40, 41, 42, 43, 44, 45, 46, 47, 48, 49, 50, 51, 52, 53, 54, 55, 56, 57, 58, 59, 60, 61, 62, 63, 64, 65, 66, 67, 68, 69, 70, 71] (by decide +kernel) (by decide +kernel)
set_option maxRecDepth 20000 in
theorem gX7_rate_X7_isGuide : GoodIn wsX7_rate (wsV RX7 181 RX7 yX7_isGuide wsX7_isGuide) := goodIn_app (goodIn_of _ (by decide +kernel)) ggX7_rate_X7_isGuide
set_option maxRecDepth 20000 in
theorem ggX7_rate_X7_fee : GoodIn wsX7_rate wsX7_fee := goodIn_r _ [22, 18, 38, 39, 40, 41, 42, 43, 44, 45, 46, 47, 48, 49, 50, 51, 52, 53, 54, 55, 56, 57, 58, 59, 60, 61, 62, 63, 64, 65, 66, 67, 68, 69, 70, 71] (by decide +kernel) (by decide +kernel)
set_option maxRecDepth 20000 in
theorem gX7_rate_X7_fee : GoodIn wsX7_rate (wsV RX7 189 RX7 yX7_fee wsX7_fee) := goodIn_app (goodIn_of _ (by decide +kernel)) ggX7_rate_X7_fee
set_option maxRecDepth 20000 in
theorem ggX7_rate_X7_pace : GoodIn wsX7_rate wsX7_pace := goodIn_r _ [26, 18, 38, 39, 40, 41, 42, 43, 44, 45, 46, 47, 48, 49, 50, 51, 52, 53, 54, 55, 56, 57, 58, 59, 60, 61, 62, 63, 64, 65, 66, 67, 68, 69, 70, 71] (by decide +kernel) (by decide +kernel)
set_option maxRecDepth 20000 in
theorem gX7_rate_X7_pace : GoodIn wsX7_rate (wsV RX7 186 RX7 yX7_pace wsX7_pace) := goodIn_app (goodIn_of _ (by decide +kernel)) ggX7_rate_X7_pace
set_option maxRecDepth 20000 in
theorem ggX7_rate_X7_known : GoodIn wsX7_rate wsX7_known := goodIn_r _ [30, 18, 38, 39, 40, 41, 42, 43, 44, 45, 46, 47, 48, 49, 50, 51, 52, 53, 54, 55, 56, 57, 58, 59, 60, 61, 62, 63, 64, 65, 66, 67, 68, 69, 70, 71] (by decide +kernel) (by decide +kernel)
set_option maxRecDepth 20000 in
theorem gX7_rate_X7_known : GoodIn wsX7_rate (wsV RX7 192 RX7 yX7_known wsX7_known) := goodIn_app (goodIn_of _ (by decide +kernel)) ggX7_rate_X7_known
set_option maxRecDepth 20000 in
theorem ggX7_rate_X7_many : GoodIn wsX7_rate wsX7_many := goodIn_r _ [33] (by decide +kernel) (by decide +kernel)
set_option maxRecDepth 20000 in
theorem gX7_rate_X7_many : GoodIn wsX7_rate (va_wsS RX7 265 yX7_many wsX7_many) := goodIn_app (goodIn_of _ (by decide +kernel)) ggX7_rate_X7_many
set_option maxRecDepth 20000 in
theorem ggX7_rate_X7_his : GoodIn wsX7_rate wsX7_his := goodIn_r _ [37, 18, 38, 39, 40, 41, 42, 43, 44, 45, 46, 47, 48, 49, 50, 51, 52, 53, 54, 55, 56, 57, 58, 59, 60, 61, 62, 63, 64, 65, 66, 67, 68, 69, 70, 71] (by decide +kernel) (by decide +kernel)
set_option maxRecDepth 20000 in
theorem gX7_rate_X7_his : GoodIn wsX7_rate (wsV RX7 169 RX7 yX7_his wsX7_his) := goodIn_app (goodIn_of _ (by decide +kernel)) ggX7_rate_X7_his
theorem dX7_rate_0 : decode cX7_rate 0 = .ok (.iload_n 1, 1) := by decide +kernel
theorem dX7_rate_1 : decode cX7_rate 1 = .ok (.i2l, 1) := by decide +kernel
theorem dX7_rate_2 : decode cX7_rate 2 = .ok (.lconst 0, 1) := by decide +kernel
theorem dX7_rate_3 : decode cX7_rate 3 = .ok (.ldc2_w 230, 3) := by decide +kernel
theorem dX7_rate_6 : decode cX7_rate 6 = .ok (.invokestatic 87, 3) := by decide +kernel
theorem dX7_rate_9 : decode cX7_rate 9 = .ok (.ifCond .eq 11, 3) := by decide +kernel
theorem dX7_rate_12 : decode cX7_rate 12 = .ok (.aload_n 0, 1) := by decide +kernel
theorem dX7_rate_13 : decode cX7_rate 13 = .ok (.iload_n 2, 1) := by decide +kernel
theorem dX7_rate_14 : decode cX7_rate 14 = .ok (.invokevirtual 181, 3) := by decide +kernel
theorem dX7_rate_17 : decode cX7_rate 17 = .ok (.ifCond .ne 7, 3) := by decide +kernel
theorem dX7_rate_20 : decode cX7_rate 20 = .ok (.ldc_w 281, 3) := by decide +kernel
theorem dX7_rate_23 : decode cX7_rate 23 = .ok (.ireturn, 1) := by decide +kernel
theorem dX7_rate_24 : decode cX7_rate 24 = .ok (.aload_n 0, 1) := by decide +kernel
theorem dX7_rate_25 : decode cX7_rate 25 = .ok (.dup, 1) := by decide +kernel
theorem dX7_rate_26 : decode cX7_rate 26 = .ok (.getfield 282, 3) := by decide +kernel
theorem dX7_rate_29 : decode cX7_rate 29 = .ok (.iload_n 1, 1) := by decide +kernel
theorem dX7_rate_30 : decode cX7_rate 30 = .ok (.ifCond .ne 7, 3) := by decide +kernel
theorem dX7_rate_33 : decode cX7_rate 33 = .ok (.lconst 1, 1) := by decide +kernel
theorem dX7_rate_34 : decode cX7_rate 34 = .ok (.goto 50, 3) := by decide +kernel
theorem dX7_rate_37 : decode cX7_rate 37 = .ok (.iload_n 1, 1) := by decide +kernel
theorem dX7_rate_38 : decode cX7_rate 38 = .ok (.iconst 1, 1) := by decide +kernel
theorem dX7_rate_39 : decode cX7_rate 39 = .ok (.if_icmp .ne 9, 3) := by decide +kernel
theorem dX7_rate_42 : decode cX7_rate 42 = .ok (.ldc2_w 286, 3) := by decide +kernel
theorem dX7_rate_45 : decode cX7_rate 45 = .ok (.goto 39, 3) := by decide +kernel
theorem dX7_rate_48 : decode cX7_rate 48 = .ok (.iload_n 1, 1) := by decide +kernel
theorem dX7_rate_49 : decode cX7_rate 49 = .ok (.iconst 2, 1) := by decide +kernel
theorem dX7_rate_50 : decode cX7_rate 50 = .ok (.if_icmp .ne 9, 3) := by decide +kernel
theorem dX7_rate_53 : decode cX7_rate 53 = .ok (.ldc2_w 288, 3) := by decide +kernel
theorem dX7_rate_56 : decode cX7_rate 56 = .ok (.goto 28, 3) := by decide +kernel
theorem dX7_rate_59 : decode cX7_rate 59 = .ok (.iload_n 1, 1) := by decide +kernel
theorem dX7_rate_60 : decode cX7_rate 60 = .ok (.iconst 3, 1) := by decide +kernel
theorem dX7_rate_61 : decode cX7_rate 61 = .ok (.if_icmp .ne 9, 3) := by decide +kernel
theorem dX7_rate_64 : decode cX7_rate 64 = .ok (.ldc2_w 290, 3) := by decide +kernel
theorem dX7_rate_67 : decode cX7_rate 67 = .ok (.goto 17, 3) := by decide +kernel
theorem dX7_rate_70 : decode cX7_rate 70 = .ok (.iload_n 1, 1) := by decide +kernel
theorem dX7_rate_71 : decode cX7_rate 71 = .ok (.iconst 4, 1) := by decide +kernel
theorem dX7_rate_72 : decode cX7_rate 72 = .ok (.if_icmp .ne 9, 3) := by decide +kernel
theorem dX7_rate_75 : decode cX7_rate 75 = .ok (.ldc2_w 292, 3) := by decide +kernel
theorem dX7_rate_78 : decode cX7_rate 78 = .ok (.goto 6, 3) := by decide +kernel
theorem dX7_rate_81 : decode cX7_rate 81 = .ok (.ldc2_w 294, 3) := by decide +kernel
theorem dX7_rate_84 : decode cX7_rate 84 = .ok (.ladd, 1) := by decide +kernel
theorem dX7_rate_85 : decode cX7_rate 85 = .ok (.putfield 282, 3) := by decide +kernel
theorem dX7_rate_88 : decode cX7_rate 88 = .ok (.iload_n 1, 1) := by decide +kernel
theorem dX7_rate_89 : decode cX7_rate 89 = .ok (.tableswitch 106 0 4 #[35, 41, 53, 68, 82], 35) := by decide +kernel
theorem dX7_rate_124 : decode cX7_rate 124 = .ok (.aload_n 0, 1) := by decide +kernel
theorem dX7_rate_125 : decode cX7_rate 125 = .ok (.iload_n 2, 1) := by decide +kernel
theorem dX7_rate_126 : decode cX7_rate 126 = .ok (.invokevirtual 189, 3) := by decide +kernel
theorem dX7_rate_129 : decode cX7_rate 129 = .ok (.ireturn, 1) := by decide +kernel
theorem dX7_rate_130 : decode cX7_rate 130 = .ok (.aload_n 0, 1) := by decide +kernel
theorem dX7_rate_131 : decode cX7_rate 131 = .ok (.iload_n 2, 1) := by decide +kernel
theorem dX7_rate_132 : decode cX7_rate 132 = .ok (.invokevirtual 189, 3) := by decide +kernel
theorem dX7_rate_135 : decode cX7_rate 135 = .ok (.aload_n 0, 1) := by decide +kernel
theorem dX7_rate_136 : decode cX7_rate 136 = .ok (.iload_n 2, 1) := by decide +kernel
theorem dX7_rate_137 : decode cX7_rate 137 = .ok (.invokevirtual 186, 3) := by decide +kernel
theorem dX7_rate_140 : decode cX7_rate 140 = .ok (.iadd, 1) := by decide +kernel
theorem dX7_rate_141 : decode cX7_rate 141 = .ok (.ireturn, 1) := by decide +kernel
theorem dX7_rate_142 : decode cX7_rate 142 = .ok (.aload_n 0, 1) := by decide +kernel
theorem dX7_rate_143 : decode cX7_rate 143 = .ok (.iload_n 2, 1) := by decide +kernel
theorem dX7_rate_144 : decode cX7_rate 144 = .ok (.invokevirtual 189, 3) := by decide +kernel
theorem dX7_rate_147 : decode cX7_rate 147 = .ok (.aload_n 0, 1) := by decide +kernel
theorem dX7_rate_148 : decode cX7_rate 148 = .ok (.iload_n 2, 1) := by decide +kernel
theorem dX7_rate_149 : decode cX7_rate 149 = .ok (.invokevirtual 192, 3) := by decide +kernel
theorem dX7_rate_152 : decode cX7_rate 152 = .ok (.invokestatic 265, 3) := by decide +kernel
theorem dX7_rate_155 : decode cX7_rate 155 = .ok (.isub, 1) := by decide +kernel
theorem dX7_rate_156 : decode cX7_rate 156 = .ok (.ireturn, 1) := by decide +kernel
theorem dX7_rate_157 : decode cX7_rate 157 = .ok (.iconst 2, 1) := by decide +kernel
theorem dX7_rate_158 : decode cX7_rate 158 = .ok (.aload_n 0, 1) := by decide +kernel
theorem dX7_rate_159 : decode cX7_rate 159 = .ok (.iload_n 2, 1) := by decide +kernel
theorem dX7_rate_160 : decode cX7_rate 160 = .ok (.invokevirtual 189, 3) := by decide +kernel
theorem dX7_rate_163 : decode cX7_rate 163 = .ok (.aload_n 0, 1) := by decide +kernel
theorem dX7_rate_164 : decode cX7_rate 164 = .ok (.iload_n 2, 1) := by decide +kernel
theorem dX7_rate_165 : decode cX7_rate 165 = .ok (.invokevirtual 186, 3) := by decide +kernel
theorem dX7_rate_168 : decode cX7_rate 168 = .ok (.iadd, 1) := by decide +kernel
theorem dX7_rate_169 : decode cX7_rate 169 = .ok (.imul, 1) := by decide +kernel
theorem dX7_rate_170 : decode cX7_rate 170 = .ok (.ireturn, 1) := by decide +kernel
theorem dX7_rate_171 : decode cX7_rate 171 = .ok (.aload_n 0, 1) := by decide +kernel
theorem dX7_rate_172 : decode cX7_rate 172 = .ok (.iload_n 2, 1) := by decide +kernel
theorem dX7_rate_173 : decode cX7_rate 173 = .ok (.invokevirtual 189, 3) := by decide +kernel
theorem dX7_rate_176 : decode cX7_rate 176 = .ok (.aload_n 0, 1) := by decide +kernel
theorem dX7_rate_177 : decode cX7_rate 177 = .ok (.iload_n 2, 1) := by decide +kernel
theorem dX7_rate_178 : decode cX7_rate 178 = .ok (.invokevirtual 192, 3) := by decide +kernel
theorem dX7_rate_181 : decode cX7_rate 181 = .ok (.invokestatic 265, 3) := by decide +kernel
theorem dX7_rate_184 : decode cX7_rate 184 = .ok (.isub, 1) := by decide +kernel
theorem dX7_rate_185 : decode cX7_rate 185 = .ok (.aload_n 0, 1) := by decide +kernel
theorem dX7_rate_186 : decode cX7_rate 186 = .ok (.iload_n 2, 1) := by decide +kernel
theorem dX7_rate_187 : decode cX7_rate 187 = .ok (.invokevirtual 169, 3) := by decide +kernel
theorem dX7_rate_190 : decode cX7_rate 190 = .ok (.invokestatic 265, 3) := by decide +kernel
theorem dX7_rate_193 : decode cX7_rate 193 = .ok (.iadd, 1) := by decide +kernel
theorem dX7_rate_194 : decode cX7_rate 194 = .ok (.ireturn, 1) := by decide +kernel
theorem dX7_rate_195 : decode cX7_rate 195 = .ok (.aload_n 0, 1) := by decide +kernel
theorem dX7_rate_196 : decode cX7_rate 196 = .ok (.iload_n 2, 1) := by decide +kernel
theorem dX7_rate_197 : decode cX7_rate 197 = .ok (.invokevirtual 189, 3) := by decide +kernel
theorem dX7_rate_200 : decode cX7_rate 200 = .ok (.aload_n 0, 1) := by decide +kernel
theorem dX7_rate_201 : decode cX7_rate 201 = .ok (.getfield 19, 3) := by decide +kernel
theorem dX7_rate_204 : decode cX7_rate 204 = .ok (.iconst 1, 1) := by decide +kernel
theorem dX7_rate_205 : decode cX7_rate 205 = .ok (.iaload, 1) := by decide +kernel
theorem dX7_rate_206 : decode cX7_rate 206 = .ok (.iadd, 1) := by decide +kernel
theorem dX7_rate_207 : decode cX7_rate 207 = .ok (.ireturn, 1) := by decide +kernel
theorem dX7_trace_0 : decode cX7_trace 0 = .ok (.aload_n 0, 1) := by decide +kernel
theorem dX7_trace_1 : decode cX7_trace 1 = .ok (.getfield 282, 3) := by decide +kernel
theorem dX7_trace_4 : decode cX7_trace 4 = .ok (.lreturn, 1) := by decide +kernel
set_option maxRecDepth 20000 in
theorem ggX7_keep_X7_in : GoodIn wsX7_keep wsX7_in := goodIn_r _ [8] (by decide +kernel) (by decide +kernel)
set_option maxRecDepth 20000 in
theorem gX7_keep_X7_in : GoodIn wsX7_keep (va_wsS RX7 87 yX7_in wsX7_in) := goodIn_app (goodIn_of _ (by decide +kernel)) ggX7_keep_X7_in
theorem dX7_keep_0 : decode cX7_keep 0 = .ok (.iload_n 1, 1) := by decide +kernel
theorem dX7_keep_1 : decode cX7_keep 1 = .ok (.i2l, 1) := by decide +kernel
theorem dX7_keep_2 : decode cX7_keep 2 = .ok (.lconst 0, 1) := by decide +kernel
theorem dX7_keep_3 : decode cX7_keep 3 = .ok (.lconst 1, 1) := by decide +kernel
theorem dX7_keep_4 : decode cX7_keep 4 = .ok (.invokestatic 87, 3) := by decide +kernel
theorem dX7_keep_7 : decode cX7_keep 7 = .ok (.ifCond .ne 5, 3) := by decide +kernel
theorem dX7_keep_10 : decode cX7_keep 10 = .ok (.iconst (-1), 1) := by decide +kernel
theorem dX7_keep_11 : decode cX7_keep 11 = .ok (.ireturn, 1) := by decide +kernel
theorem dX7_keep_12 : decode cX7_keep 12 = .ok (.bipush 46, 2) := by decide +kernel
theorem dX7_keep_14 : decode cX7_keep 14 = .ok (.iload_n 1, 1) := by decide +kernel
theorem dX7_keep_15 : decode cX7_keep 15 = .ok (.imul, 1) := by decide +kernel
theorem dX7_keep_16 : decode cX7_keep 16 = .ok (.istore_n 2, 1) := by decide +kernel
theorem dX7_keep_17 : decode cX7_keep 17 = .ok (.aload_n 0, 1) := by decide +kernel
theorem dX7_keep_18 : decode cX7_keep 18 = .ok (.getfield 76, 3) := by decide +kernel
theorem dX7_keep_21 : decode cX7_keep 21 = .ok (.iload_n 2, 1) := by decide +kernel
theorem dX7_keep_22 : decode cX7_keep 22 = .ok (.iconst 1, 1) := by decide +kernel
theorem dX7_keep_23 : decode cX7_keep 23 = .ok (.iastore, 1) := by decide +kernel
theorem dX7_keep_24 : decode cX7_keep 24 = .ok (.aload_n 0, 1) := by decide +kernel
theorem dX7_keep_25 : decode cX7_keep 25 = .ok (.getfield 76, 3) := by decide +kernel
theorem dX7_keep_28 : decode cX7_keep 28 = .ok (.iload_n 2, 1) := by decide +kernel
theorem dX7_keep_29 : decode cX7_keep 29 = .ok (.iconst 1, 1) := by decide +kernel
theorem dX7_keep_30 : decode cX7_keep 30 = .ok (.iadd, 1) := by decide +kernel
theorem dX7_keep_31 : decode cX7_keep 31 = .ok (.aload_n 0, 1) := by decide +kernel
theorem dX7_keep_32 : decode cX7_keep 32 = .ok (.getfield 166, 3) := by decide +kernel
theorem dX7_keep_35 : decode cX7_keep 35 = .ok (.iastore, 1) := by decide +kernel
theorem dX7_keep_36 : decode cX7_keep 36 = .ok (.iconst 0, 1) := by decide +kernel
theorem dX7_keep_37 : decode cX7_keep 37 = .ok (.istore_n 3, 1) := by decide +kernel
theorem dX7_keep_38 : decode cX7_keep 38 = .ok (.iload_n 3, 1) := by decide +kernel
theorem dX7_keep_39 : decode cX7_keep 39 = .ok (.iconst 4, 1) := by decide +kernel
theorem dX7_keep_40 : decode cX7_keep 40 = .ok (.if_icmp .ge 25, 3) := by decide +kernel
theorem dX7_keep_43 : decode cX7_keep 43 = .ok (.aload_n 0, 1) := by decide +kernel
theorem dX7_keep_44 : decode cX7_keep 44 = .ok (.getfield 76, 3) := by decide +kernel
theorem dX7_keep_47 : decode cX7_keep 47 = .ok (.iload_n 2, 1) := by decide +kernel
theorem dX7_keep_48 : decode cX7_keep 48 = .ok (.iconst 2, 1) := by decide +kernel
theorem dX7_keep_49 : decode cX7_keep 49 = .ok (.iadd, 1) := by decide +kernel
theorem dX7_keep_50 : decode cX7_keep 50 = .ok (.iload_n 3, 1) := by decide +kernel
theorem dX7_keep_51 : decode cX7_keep 51 = .ok (.iadd, 1) := by decide +kernel
theorem dX7_keep_52 : decode cX7_keep 52 = .ok (.aload_n 0, 1) := by decide +kernel
theorem dX7_keep_53 : decode cX7_keep 53 = .ok (.getfield 19, 3) := by decide +kernel
theorem dX7_keep_56 : decode cX7_keep 56 = .ok (.iload_n 3, 1) := by decide +kernel
theorem dX7_keep_57 : decode cX7_keep 57 = .ok (.iaload, 1) := by decide +kernel
theorem dX7_keep_58 : decode cX7_keep 58 = .ok (.iastore, 1) := by decide +kernel
theorem dX7_keep_59 : decode cX7_keep 59 = .ok (.iinc 3 1, 3) := by decide +kernel
theorem dX7_keep_62 : decode cX7_keep 62 = .ok (.goto (-24), 3) := by decide +kernel
theorem dX7_keep_65 : decode cX7_keep 65 = .ok (.iconst 0, 1) := by decide +kernel
theorem dX7_keep_66 : decode cX7_keep 66 = .ok (.istore_n 3, 1) := by decide +kernel
theorem dX7_keep_67 : decode cX7_keep 67 = .ok (.iload_n 3, 1) := by decide +kernel
theorem dX7_keep_68 : decode cX7_keep 68 = .ok (.bipush 40, 2) := by decide +kernel
theorem dX7_keep_70 : decode cX7_keep 70 = .ok (.if_icmp .ge 26, 3) := by decide +kernel
theorem dX7_keep_73 : decode cX7_keep 73 = .ok (.aload_n 0, 1) := by decide +kernel
theorem dX7_keep_74 : decode cX7_keep 74 = .ok (.getfield 76, 3) := by decide +kernel
theorem dX7_keep_77 : decode cX7_keep 77 = .ok (.iload_n 2, 1) := by decide +kernel
theorem dX7_keep_78 : decode cX7_keep 78 = .ok (.bipush 6, 2) := by decide +kernel
theorem dX7_keep_80 : decode cX7_keep 80 = .ok (.iadd, 1) := by decide +kernel
theorem dX7_keep_81 : decode cX7_keep 81 = .ok (.iload_n 3, 1) := by decide +kernel
theorem dX7_keep_82 : decode cX7_keep 82 = .ok (.iadd, 1) := by decide +kernel
theorem dX7_keep_83 : decode cX7_keep 83 = .ok (.aload_n 0, 1) := by decide +kernel
theorem dX7_keep_84 : decode cX7_keep 84 = .ok (.getfield 22, 3) := by decide +kernel
theorem dX7_keep_87 : decode cX7_keep 87 = .ok (.iload_n 3, 1) := by decide +kernel
theorem dX7_keep_88 : decode cX7_keep 88 = .ok (.iaload, 1) := by decide +kernel
theorem dX7_keep_89 : decode cX7_keep 89 = .ok (.iastore, 1) := by decide +kernel
theorem dX7_keep_90 : decode cX7_keep 90 = .ok (.iinc 3 1, 3) := by decide +kernel
theorem dX7_keep_93 : decode cX7_keep 93 = .ok (.goto (-26), 3) := by decide +kernel
theorem dX7_keep_96 : decode cX7_keep 96 = .ok (.aload_n 0, 1) := by decide +kernel
theorem dX7_keep_97 : decode cX7_keep 97 = .ok (.getfield 19, 3) := by decide +kernel
theorem dX7_keep_100 : decode cX7_keep 100 = .ok (.iconst 1, 1) := by decide +kernel
theorem dX7_keep_101 : decode cX7_keep 101 = .ok (.iaload, 1) := by decide +kernel
theorem dX7_keep_102 : decode cX7_keep 102 = .ok (.ireturn, 1) := by decide +kernel
set_option maxRecDepth 20000 in
theorem ggX7_back_X7_in : GoodIn wsX7_back wsX7_in := goodIn_r _ [8] (by decide +kernel) (by decide +kernel)
set_option maxRecDepth 20000 in
theorem gX7_back_X7_in : GoodIn wsX7_back (va_wsS RX7 87 yX7_in wsX7_in) := goodIn_app (goodIn_of _ (by decide +kernel)) ggX7_back_X7_in
theorem dX7_back_0 : decode cX7_back 0 = .ok (.iload_n 1, 1) := by decide +kernel
theorem dX7_back_1 : decode cX7_back 1 = .ok (.i2l, 1) := by decide +kernel
theorem dX7_back_2 : decode cX7_back 2 = .ok (.lconst 0, 1) := by decide +kernel
theorem dX7_back_3 : decode cX7_back 3 = .ok (.lconst 1, 1) := by decide +kernel
theorem dX7_back_4 : decode cX7_back 4 = .ok (.invokestatic 87, 3) := by decide +kernel
theorem dX7_back_7 : decode cX7_back 7 = .ok (.ifCond .ne 5, 3) := by decide +kernel
theorem dX7_back_10 : decode cX7_back 10 = .ok (.iconst (-1), 1) := by decide +kernel
theorem dX7_back_11 : decode cX7_back 11 = .ok (.ireturn, 1) := by decide +kernel
theorem dX7_back_12 : decode cX7_back 12 = .ok (.bipush 46, 2) := by decide +kernel
theorem dX7_back_14 : decode cX7_back 14 = .ok (.iload_n 1, 1) := by decide +kernel
theorem dX7_back_15 : decode cX7_back 15 = .ok (.imul, 1) := by decide +kernel
theorem dX7_back_16 : decode cX7_back 16 = .ok (.istore_n 2, 1) := by decide +kernel
theorem dX7_back_17 : decode cX7_back 17 = .ok (.aload_n 0, 1) := by decide +kernel
theorem dX7_back_18 : decode cX7_back 18 = .ok (.getfield 76, 3) := by decide +kernel
theorem dX7_back_21 : decode cX7_back 21 = .ok (.iload_n 2, 1) := by decide +kernel
theorem dX7_back_22 : decode cX7_back 22 = .ok (.iaload, 1) := by decide +kernel
theorem dX7_back_23 : decode cX7_back 23 = .ok (.ifCond .ne 6, 3) := by decide +kernel
theorem dX7_back_26 : decode cX7_back 26 = .ok (.bipush (-2), 2) := by decide +kernel
theorem dX7_back_28 : decode cX7_back 28 = .ok (.ireturn, 1) := by decide +kernel
theorem dX7_back_29 : decode cX7_back 29 = .ok (.aload_n 0, 1) := by decide +kernel
theorem dX7_back_30 : decode cX7_back 30 = .ok (.aload_n 0, 1) := by decide +kernel
theorem dX7_back_31 : decode cX7_back 31 = .ok (.getfield 76, 3) := by decide +kernel
theorem dX7_back_34 : decode cX7_back 34 = .ok (.iload_n 2, 1) := by decide +kernel
theorem dX7_back_35 : decode cX7_back 35 = .ok (.iconst 1, 1) := by decide +kernel
theorem dX7_back_36 : decode cX7_back 36 = .ok (.iadd, 1) := by decide +kernel
theorem dX7_back_37 : decode cX7_back 37 = .ok (.iaload, 1) := by decide +kernel
theorem dX7_back_38 : decode cX7_back 38 = .ok (.putfield 166, 3) := by decide +kernel
theorem dX7_back_41 : decode cX7_back 41 = .ok (.iconst 0, 1) := by decide +kernel
theorem dX7_back_42 : decode cX7_back 42 = .ok (.istore_n 3, 1) := by decide +kernel
theorem dX7_back_43 : decode cX7_back 43 = .ok (.iload_n 3, 1) := by decide +kernel
theorem dX7_back_44 : decode cX7_back 44 = .ok (.iconst 4, 1) := by decide +kernel
theorem dX7_back_45 : decode cX7_back 45 = .ok (.if_icmp .ge 25, 3) := by decide +kernel
theorem dX7_back_48 : decode cX7_back 48 = .ok (.aload_n 0, 1) := by decide +kernel
theorem dX7_back_49 : decode cX7_back 49 = .ok (.getfield 19, 3) := by decide +kernel
theorem dX7_back_52 : decode cX7_back 52 = .ok (.iload_n 3, 1) := by decide +kernel
theorem dX7_back_53 : decode cX7_back 53 = .ok (.aload_n 0, 1) := by decide +kernel
theorem dX7_back_54 : decode cX7_back 54 = .ok (.getfield 76, 3) := by decide +kernel
theorem dX7_back_57 : decode cX7_back 57 = .ok (.iload_n 2, 1) := by decide +kernel
theorem dX7_back_58 : decode cX7_back 58 = .ok (.iconst 2, 1) := by decide +kernel
theorem dX7_back_59 : decode cX7_back 59 = .ok (.iadd, 1) := by decide +kernel
theorem dX7_back_60 : decode cX7_back 60 = .ok (.iload_n 3, 1) := by decide +kernel
theorem dX7_back_61 : decode cX7_back 61 = .ok (.iadd, 1) := by decide +kernel
theorem dX7_back_62 : decode cX7_back 62 = .ok (.iaload, 1) := by decide +kernel
theorem dX7_back_63 : decode cX7_back 63 = .ok (.iastore, 1) := by decide +kernel
theorem dX7_back_64 : decode cX7_back 64 = .ok (.iinc 3 1, 3) := by decide +kernel
theorem dX7_back_67 : decode cX7_back 67 = .ok (.goto (-24), 3) := by decide +kernel
theorem dX7_back_70 : decode cX7_back 70 = .ok (.iconst 0, 1) := by decide +kernel
theorem dX7_back_71 : decode cX7_back 71 = .ok (.istore_n 3, 1) := by decide +kernel
theorem dX7_back_72 : decode cX7_back 72 = .ok (.iload_n 3, 1) := by decide +kernel
theorem dX7_back_73 : decode cX7_back 73 = .ok (.bipush 40, 2) := by decide +kernel
theorem dX7_back_75 : decode cX7_back 75 = .ok (.if_icmp .ge 26, 3) := by decide +kernel
theorem dX7_back_78 : decode cX7_back 78 = .ok (.aload_n 0, 1) := by decide +kernel
theorem dX7_back_79 : decode cX7_back 79 = .ok (.getfield 22, 3) := by decide +kernel
theorem dX7_back_82 : decode cX7_back 82 = .ok (.iload_n 3, 1) := by decide +kernel
theorem dX7_back_83 : decode cX7_back 83 = .ok (.aload_n 0, 1) := by decide +kernel
theorem dX7_back_84 : decode cX7_back 84 = .ok (.getfield 76, 3) := by decide +kernel
theorem dX7_back_87 : decode cX7_back 87 = .ok (.iload_n 2, 1) := by decide +kernel
theorem dX7_back_88 : decode cX7_back 88 = .ok (.bipush 6, 2) := by decide +kernel
theorem dX7_back_90 : decode cX7_back 90 = .ok (.iadd, 1) := by decide +kernel
theorem dX7_back_91 : decode cX7_back 91 = .ok (.iload_n 3, 1) := by decide +kernel
theorem dX7_back_92 : decode cX7_back 92 = .ok (.iadd, 1) := by decide +kernel
theorem dX7_back_93 : decode cX7_back 93 = .ok (.iaload, 1) := by decide +kernel
theorem dX7_back_94 : decode cX7_back 94 = .ok (.iastore, 1) := by decide +kernel
theorem dX7_back_95 : decode cX7_back 95 = .ok (.iinc 3 1, 3) := by decide +kernel
theorem dX7_back_98 : decode cX7_back 98 = .ok (.goto (-26), 3) := by decide +kernel
theorem dX7_back_101 : decode cX7_back 101 = .ok (.aload_n 0, 1) := by decide +kernel
theorem dX7_back_102 : decode cX7_back 102 = .ok (.getfield 19, 3) := by decide +kernel
theorem dX7_back_105 : decode cX7_back 105 = .ok (.iconst 1, 1) := by decide +kernel
theorem dX7_back_106 : decode cX7_back 106 = .ok (.iaload, 1) := by decide +kernel
theorem dX7_back_107 : decode cX7_back 107 = .ok (.ireturn, 1) := by decide +kernel
theorem dX7_count_0 : decode cX7_count 0 = .ok (.iload_n 1, 1) := by decide +kernel
theorem dX7_count_1 : decode cX7_count 1 = .ok (.tableswitch 87 0 9 #[55, 55, 55, 55, 55, 62, 67, 72, 77, 82], 55) := by decide +kernel
theorem dX7_count_56 : decode cX7_count 56 = .ok (.aload_n 0, 1) := by decide +kernel
theorem dX7_count_57 : decode cX7_count 57 = .ok (.getfield 16, 3) := by decide +kernel
theorem dX7_count_60 : decode cX7_count 60 = .ok (.iload_n 1, 1) := by decide +kernel
theorem dX7_count_61 : decode cX7_count 61 = .ok (.iaload, 1) := by decide +kernel
theorem dX7_count_62 : decode cX7_count 62 = .ok (.ireturn, 1) := by decide +kernel
theorem dX7_count_63 : decode cX7_count 63 = .ok (.aload_n 0, 1) := by decide +kernel
theorem dX7_count_64 : decode cX7_count 64 = .ok (.getfield 157, 3) := by decide +kernel
theorem dX7_count_67 : decode cX7_count 67 = .ok (.ireturn, 1) := by decide +kernel
theorem dX7_count_68 : decode cX7_count 68 = .ok (.aload_n 0, 1) := by decide +kernel
theorem dX7_count_69 : decode cX7_count 69 = .ok (.getfield 160, 3) := by decide +kernel
theorem dX7_count_72 : decode cX7_count 72 = .ok (.ireturn, 1) := by decide +kernel
theorem dX7_count_73 : decode cX7_count 73 = .ok (.aload_n 0, 1) := by decide +kernel
theorem dX7_count_74 : decode cX7_count 74 = .ok (.getfield 163, 3) := by decide +kernel
theorem dX7_count_77 : decode cX7_count 77 = .ok (.ireturn, 1) := by decide +kernel
theorem dX7_count_78 : decode cX7_count 78 = .ok (.aload_n 0, 1) := by decide +kernel
theorem dX7_count_79 : decode cX7_count 79 = .ok (.getfield 166, 3) := by decide +kernel
theorem dX7_count_82 : decode cX7_count 82 = .ok (.ireturn, 1) := by decide +kernel
theorem dX7_count_83 : decode cX7_count 83 = .ok (.aload_n 0, 1) := by decide +kernel
theorem dX7_count_84 : decode cX7_count 84 = .ok (.getfield 91, 3) := by decide +kernel
theorem dX7_count_87 : decode cX7_count 87 = .ok (.ireturn, 1) := by decide +kernel
theorem dX7_count_88 : decode cX7_count 88 = .ok (.iconst (-1), 1) := by decide +kernel
theorem dX7_count_89 : decode cX7_count 89 = .ok (.ireturn, 1) := by decide +kernel
theorem dJ6_bitCount_0f7a4_0 : decode cJ6_bitCount_0f7a4 0 = .ok (.iload_n 0, 1) := by decide +kernel
theorem dJ6_bitCount_0f7a4_1 : decode cJ6_bitCount_0f7a4 1 = .ok (.iload_n 0, 1) := by decide +kernel
theorem dJ6_bitCount_0f7a4_2 : decode cJ6_bitCount_0f7a4 2 = .ok (.iconst 1, 1) := by decide +kernel
theorem dJ6_bitCount_0f7a4_3 : decode cJ6_bitCount_0f7a4 3 = .ok (.iushr, 1) := by decide +kernel
theorem dJ6_bitCount_0f7a4_4 : decode cJ6_bitCount_0f7a4 4 = .ok (.ldc_w 265, 3) := by decide +kernel
theorem dJ6_bitCount_0f7a4_7 : decode cJ6_bitCount_0f7a4 7 = .ok (.iand, 1) := by decide +kernel
theorem dJ6_bitCount_0f7a4_8 : decode cJ6_bitCount_0f7a4 8 = .ok (.isub, 1) := by decide +kernel
theorem dJ6_bitCount_0f7a4_9 : decode cJ6_bitCount_0f7a4 9 = .ok (.istore_n 0, 1) := by decide +kernel
theorem dJ6_bitCount_0f7a4_10 : decode cJ6_bitCount_0f7a4 10 = .ok (.iload_n 0, 1) := by decide +kernel
theorem dJ6_bitCount_0f7a4_11 : decode cJ6_bitCount_0f7a4 11 = .ok (.ldc_w 266, 3) := by decide +kernel
theorem dJ6_bitCount_0f7a4_14 : decode cJ6_bitCount_0f7a4 14 = .ok (.iand, 1) := by decide +kernel
theorem dJ6_bitCount_0f7a4_15 : decode cJ6_bitCount_0f7a4 15 = .ok (.iload_n 0, 1) := by decide +kernel
theorem dJ6_bitCount_0f7a4_16 : decode cJ6_bitCount_0f7a4 16 = .ok (.iconst 2, 1) := by decide +kernel
theorem dJ6_bitCount_0f7a4_17 : decode cJ6_bitCount_0f7a4 17 = .ok (.iushr, 1) := by decide +kernel
theorem dJ6_bitCount_0f7a4_18 : decode cJ6_bitCount_0f7a4 18 = .ok (.ldc_w 266, 3) := by decide +kernel
theorem dJ6_bitCount_0f7a4_21 : decode cJ6_bitCount_0f7a4 21 = .ok (.iand, 1) := by decide +kernel
theorem dJ6_bitCount_0f7a4_22 : decode cJ6_bitCount_0f7a4 22 = .ok (.iadd, 1) := by decide +kernel
theorem dJ6_bitCount_0f7a4_23 : decode cJ6_bitCount_0f7a4 23 = .ok (.istore_n 0, 1) := by decide +kernel
theorem dJ6_bitCount_0f7a4_24 : decode cJ6_bitCount_0f7a4 24 = .ok (.iload_n 0, 1) := by decide +kernel
theorem dJ6_bitCount_0f7a4_25 : decode cJ6_bitCount_0f7a4 25 = .ok (.iload_n 0, 1) := by decide +kernel
theorem dJ6_bitCount_0f7a4_26 : decode cJ6_bitCount_0f7a4 26 = .ok (.iconst 4, 1) := by decide +kernel
theorem dJ6_bitCount_0f7a4_27 : decode cJ6_bitCount_0f7a4 27 = .ok (.iushr, 1) := by decide +kernel

theorem dX9_init_0 : decode cX9_init 0 = .ok (.aload_n 0, 1) := by decide +kernel
theorem dX9_init_1 : decode cX9_init 1 = .ok (.invokespecial 1, 3) := by decide +kernel
theorem dX9_init_4 : decode cX9_init 4 = .ok (.aload_n 0, 1) := by decide +kernel
theorem dX9_init_5 : decode cX9_init 5 = .ok (.sipush 256, 3) := by decide +kernel
theorem dX9_init_8 : decode cX9_init 8 = .ok (.newarray .int, 2) := by decide +kernel
theorem dX9_init_10 : decode cX9_init 10 = .ok (.putfield 7, 3) := by decide +kernel
theorem dX9_init_13 : decode cX9_init 13 = .ok (.aload_n 0, 1) := by decide +kernel
theorem dX9_init_14 : decode cX9_init 14 = .ok (.sipush 400, 3) := by decide +kernel
theorem dX9_init_17 : decode cX9_init 17 = .ok (.newarray .int, 2) := by decide +kernel
theorem dX9_init_19 : decode cX9_init 19 = .ok (.putfield 13, 3) := by decide +kernel
theorem dX9_init_22 : decode cX9_init 22 = .ok (.aload_n 0, 1) := by decide +kernel
theorem dX9_init_23 : decode cX9_init 23 = .ok (.iconst (-1), 1) := by decide +kernel
theorem dX9_init_24 : decode cX9_init 24 = .ok (.putfield 16, 3) := by decide +kernel
theorem dX9_init_27 : decode cX9_init 27 = .ok (.aload_n 0, 1) := by decide +kernel
theorem dX9_init_28 : decode cX9_init 28 = .ok (.iconst (-1), 1) := by decide +kernel
theorem dX9_init_29 : decode cX9_init 29 = .ok (.putfield 20, 3) := by decide +kernel
theorem dX9_init_32 : decode cX9_init 32 = .ok (.aload_n 0, 1) := by decide +kernel
theorem dX9_init_33 : decode cX9_init 33 = .ok (.sipush 256, 3) := by decide +kernel
theorem dX9_init_36 : decode cX9_init 36 = .ok (.newarray .int, 2) := by decide +kernel
theorem dX9_init_38 : decode cX9_init 38 = .ok (.putfield 23, 3) := by decide +kernel
theorem dX9_init_41 : decode cX9_init 41 = .ok (.aload_n 0, 1) := by decide +kernel
theorem dX9_init_42 : decode cX9_init 42 = .ok (.sipush 256, 3) := by decide +kernel
theorem dX9_init_45 : decode cX9_init 45 = .ok (.newarray .boolean, 2) := by decide +kernel
theorem dX9_init_47 : decode cX9_init 47 = .ok (.putfield 26, 3) := by decide +kernel
theorem dX9_init_50 : decode cX9_init 50 = .ok (.aload_n 0, 1) := by decide +kernel
theorem dX9_init_51 : decode cX9_init 51 = .ok (.sipush 200, 3) := by decide +kernel
theorem dX9_init_54 : decode cX9_init 54 = .ok (.newarray .int, 2) := by decide +kernel
theorem dX9_init_56 : decode cX9_init 56 = .ok (.putfield 30, 3) := by decide +kernel
theorem dX9_init_59 : decode cX9_init 59 = .ok (.aload_n 0, 1) := by decide +kernel
theorem dX9_init_60 : decode cX9_init 60 = .ok (.iconst 4, 1) := by decide +kernel
theorem dX9_init_61 : decode cX9_init 61 = .ok (.newarray .int, 2) := by decide +kernel
theorem dX9_init_63 : decode cX9_init 63 = .ok (.putfield 33, 3) := by decide +kernel
theorem dX9_init_66 : decode cX9_init 66 = .ok (.aload_n 0, 1) := by decide +kernel
theorem dX9_init_67 : decode cX9_init 67 = .ok (.iconst 4, 1) := by decide +kernel
theorem dX9_init_68 : decode cX9_init 68 = .ok (.newarray .int, 2) := by decide +kernel
theorem dX9_init_70 : decode cX9_init 70 = .ok (.putfield 36, 3) := by decide +kernel
theorem dX9_init_73 : decode cX9_init 73 = .ok (.aload_n 0, 1) := by decide +kernel
theorem dX9_init_74 : decode cX9_init 74 = .ok (.iconst 4, 1) := by decide +kernel
theorem dX9_init_75 : decode cX9_init 75 = .ok (.newarray .boolean, 2) := by decide +kernel
theorem dX9_init_77 : decode cX9_init 77 = .ok (.putfield 39, 3) := by decide +kernel
theorem dX9_init_80 : decode cX9_init 80 = .ok (.aload_n 0, 1) := by decide +kernel
theorem dX9_init_81 : decode cX9_init 81 = .ok (.iconst 4, 1) := by decide +kernel
theorem dX9_init_82 : decode cX9_init 82 = .ok (.newarray .int, 2) := by decide +kernel
theorem dX9_init_84 : decode cX9_init 84 = .ok (.putfield 42, 3) := by decide +kernel
theorem dX9_init_87 : decode cX9_init 87 = .ok (.aload_n 0, 1) := by decide +kernel
theorem dX9_init_88 : decode cX9_init 88 = .ok (.iconst 4, 1) := by decide +kernel
theorem dX9_init_89 : decode cX9_init 89 = .ok (.newarray .int, 2) := by decide +kernel
theorem dX9_init_91 : decode cX9_init 91 = .ok (.putfield 45, 3) := by decide +kernel
theorem dX9_init_94 : decode cX9_init 94 = .ok (.aload_n 0, 1) := by decide +kernel
theorem dX9_init_95 : decode cX9_init 95 = .ok (.iconst 4, 1) := by decide +kernel
theorem dX9_init_96 : decode cX9_init 96 = .ok (.newarray .int, 2) := by decide +kernel
theorem dX9_init_98 : decode cX9_init 98 = .ok (.putfield 48, 3) := by decide +kernel
theorem dX9_init_101 : decode cX9_init 101 = .ok (.aload_n 0, 1) := by decide +kernel
theorem dX9_init_102 : decode cX9_init 102 = .ok (.iconst 4, 1) := by decide +kernel
theorem dX9_init_103 : decode cX9_init 103 = .ok (.newarray .int, 2) := by decide +kernel
theorem dX9_init_105 : decode cX9_init 105 = .ok (.putfield 51, 3) := by decide +kernel
theorem dX9_init_108 : decode cX9_init 108 = .ok (.aload_n 0, 1) := by decide +kernel
theorem dX9_init_109 : decode cX9_init 109 = .ok (.iconst 4, 1) := by decide +kernel
theorem dX9_init_110 : decode cX9_init 110 = .ok (.newarray .int, 2) := by decide +kernel
theorem dX9_init_112 : decode cX9_init 112 = .ok (.putfield 54, 3) := by decide +kernel
theorem dX9_init_115 : decode cX9_init 115 = .ok (.aload_n 0, 1) := by decide +kernel
theorem dX9_init_116 : decode cX9_init 116 = .ok (.iconst 4, 1) := by decide +kernel
theorem dX9_init_117 : decode cX9_init 117 = .ok (.newarray .int, 2) := by decide +kernel
theorem dX9_init_119 : decode cX9_init 119 = .ok (.putfield 57, 3) := by decide +kernel
theorem dX9_init_122 : decode cX9_init 122 = .ok (.aload_n 0, 1) := by decide +kernel
theorem dX9_init_123 : decode cX9_init 123 = .ok (.iconst 4, 1) := by decide +kernel
theorem dX9_init_124 : decode cX9_init 124 = .ok (.newarray .long, 2) := by decide +kernel
theorem dX9_init_126 : decode cX9_init 126 = .ok (.putfield 60, 3) := by decide +kernel
theorem dX9_init_129 : decode cX9_init 129 = .ok (.aload_n 0, 1) := by decide +kernel
theorem dX9_init_130 : decode cX9_init 130 = .ok (.sipush 256, 3) := by decide +kernel
theorem dX9_init_133 : decode cX9_init 133 = .ok (.newarray .int, 2) := by decide +kernel
theorem dX9_init_135 : decode cX9_init 135 = .ok (.putfield 64, 3) := by decide +kernel
theorem dX9_init_138 : decode cX9_init 138 = .ok (.aload_n 0, 1) := by decide +kernel
theorem dX9_init_139 : decode cX9_init 139 = .ok (.sipush 256, 3) := by decide +kernel
theorem dX9_init_142 : decode cX9_init 142 = .ok (.newarray .int, 2) := by decide +kernel
theorem dX9_init_144 : decode cX9_init 144 = .ok (.putfield 67, 3) := by decide +kernel
theorem dX9_init_147 : decode cX9_init 147 = .ok (.aload_n 0, 1) := by decide +kernel
theorem dX9_init_148 : decode cX9_init 148 = .ok (.sipush 256, 3) := by decide +kernel
theorem dX9_init_151 : decode cX9_init 151 = .ok (.newarray .int, 2) := by decide +kernel
theorem dX9_init_153 : decode cX9_init 153 = .ok (.putfield 70, 3) := by decide +kernel
theorem dX9_init_156 : decode cX9_init 156 = .ok (.aload_n 0, 1) := by decide +kernel
theorem dX9_init_157 : decode cX9_init 157 = .ok (.sipush 256, 3) := by decide +kernel
theorem dX9_init_160 : decode cX9_init 160 = .ok (.newarray .int, 2) := by decide +kernel
theorem dX9_init_162 : decode cX9_init 162 = .ok (.putfield 73, 3) := by decide +kernel
theorem dX9_init_165 : decode cX9_init 165 = .ok (.aload_n 0, 1) := by decide +kernel
theorem dX9_init_166 : decode cX9_init 166 = .ok (.sipush 256, 3) := by decide +kernel
theorem dX9_init_169 : decode cX9_init 169 = .ok (.newarray .int, 2) := by decide +kernel
theorem dX9_init_171 : decode cX9_init 171 = .ok (.putfield 76, 3) := by decide +kernel
theorem dX9_init_174 : decode cX9_init 174 = .ok (.aload_n 0, 1) := by decide +kernel
theorem dX9_init_175 : decode cX9_init 175 = .ok (.bipush 32, 2) := by decide +kernel
theorem dX9_init_177 : decode cX9_init 177 = .ok (.newarray .boolean, 2) := by decide +kernel
theorem dX9_init_179 : decode cX9_init 179 = .ok (.putfield 79, 3) := by decide +kernel
theorem dX9_init_182 : decode cX9_init 182 = .ok (.aload_n 0, 1) := by decide +kernel
theorem dX9_init_183 : decode cX9_init 183 = .ok (.bipush 112, 2) := by decide +kernel
theorem dX9_init_185 : decode cX9_init 185 = .ok (.newarray .boolean, 2) := by decide +kernel
theorem dX9_init_187 : decode cX9_init 187 = .ok (.putfield 82, 3) := by decide +kernel
theorem dX9_init_190 : decode cX9_init 190 = .ok (.aload_n 0, 1) := by decide +kernel
theorem dX9_init_191 : decode cX9_init 191 = .ok (.iconst 5, 1) := by decide +kernel
theorem dX9_init_192 : decode cX9_init 192 = .ok (.newarray .int, 2) := by decide +kernel
theorem dX9_init_194 : decode cX9_init 194 = .ok (.putfield 85, 3) := by decide +kernel
theorem dX9_init_197 : decode cX9_init 197 = .ok (.aload_n 0, 1) := by decide +kernel
theorem dX9_init_198 : decode cX9_init 198 = .ok (.iconst 5, 1) := by decide +kernel
theorem dX9_init_199 : decode cX9_init 199 = .ok (.newarray .int, 2) := by decide +kernel
theorem dX9_init_201 : decode cX9_init 201 = .ok (.putfield 88, 3) := by decide +kernel
theorem dX9_init_204 : decode cX9_init 204 = .ok (.aload_n 0, 1) := by decide +kernel
theorem dX9_init_205 : decode cX9_init 205 = .ok (.sipush 500, 3) := by decide +kernel
theorem dX9_init_208 : decode cX9_init 208 = .ok (.newarray .int, 2) := by decide +kernel
theorem dX9_init_210 : decode cX9_init 210 = .ok (.putfield 91, 3) := by decide +kernel
theorem dX9_init_213 : decode cX9_init 213 = .ok (.aload_n 0, 1) := by decide +kernel
theorem dX9_init_214 : decode cX9_init 214 = .ok (.sipush 500, 3) := by decide +kernel
theorem dX9_init_217 : decode cX9_init 217 = .ok (.newarray .int, 2) := by decide +kernel
theorem dX9_init_219 : decode cX9_init 219 = .ok (.putfield 94, 3) := by decide +kernel
theorem dX9_init_222 : decode cX9_init 222 = .ok (.aload_n 0, 1) := by decide +kernel
theorem dX9_init_223 : decode cX9_init 223 = .ok (.sipush 500, 3) := by decide +kernel
theorem dX9_init_226 : decode cX9_init 226 = .ok (.newarray .int, 2) := by decide +kernel
theorem dX9_init_228 : decode cX9_init 228 = .ok (.putfield 97, 3) := by decide +kernel
theorem dX9_init_231 : decode cX9_init 231 = .ok (.aload_n 0, 1) := by decide +kernel
theorem dX9_init_232 : decode cX9_init 232 = .ok (.iconst 5, 1) := by decide +kernel
theorem dX9_init_233 : decode cX9_init 233 = .ok (.newarray .int, 2) := by decide +kernel
theorem dX9_init_235 : decode cX9_init 235 = .ok (.putfield 100, 3) := by decide +kernel
theorem dX9_init_238 : decode cX9_init 238 = .ok (.aload_n 0, 1) := by decide +kernel
theorem dX9_init_239 : decode cX9_init 239 = .ok (.iconst 5, 1) := by decide +kernel
theorem dX9_init_240 : decode cX9_init 240 = .ok (.newarray .int, 2) := by decide +kernel
theorem dX9_init_242 : decode cX9_init 242 = .ok (.putfield 103, 3) := by decide +kernel
theorem dX9_init_245 : decode cX9_init 245 = .ok (.aload_n 0, 1) := by decide +kernel
theorem dX9_init_246 : decode cX9_init 246 = .ok (.bipush 6, 2) := by decide +kernel
theorem dX9_init_248 : decode cX9_init 248 = .ok (.newarray .int, 2) := by decide +kernel
theorem dX9_init_250 : decode cX9_init 250 = .ok (.putfield 106, 3) := by decide +kernel
theorem dX9_init_253 : decode cX9_init 253 = .ok (.aload_n 0, 1) := by decide +kernel
theorem dX9_init_254 : decode cX9_init 254 = .ok (.bipush 6, 2) := by decide +kernel
theorem dX9_init_256 : decode cX9_init 256 = .ok (.newarray .int, 2) := by decide +kernel
theorem dX9_init_258 : decode cX9_init 258 = .ok (.putfield 109, 3) := by decide +kernel
theorem dX9_init_261 : decode cX9_init 261 = .ok (.aload_n 0, 1) := by decide +kernel
theorem dX9_init_262 : decode cX9_init 262 = .ok (.bipush 6, 2) := by decide +kernel
theorem dX9_init_264 : decode cX9_init 264 = .ok (.newarray .int, 2) := by decide +kernel
theorem dX9_init_266 : decode cX9_init 266 = .ok (.putfield 112, 3) := by decide +kernel
theorem dX9_init_269 : decode cX9_init 269 = .ok (.aload_n 0, 1) := by decide +kernel
theorem dX9_init_270 : decode cX9_init 270 = .ok (.bipush 6, 2) := by decide +kernel
theorem dX9_init_272 : decode cX9_init 272 = .ok (.newarray .int, 2) := by decide +kernel
theorem dX9_init_274 : decode cX9_init 274 = .ok (.putfield 115, 3) := by decide +kernel
theorem dX9_init_277 : decode cX9_init 277 = .ok (.aload_n 0, 1) := by decide +kernel
theorem dX9_init_278 : decode cX9_init 278 = .ok (.bipush 6, 2) := by decide +kernel
theorem dX9_init_280 : decode cX9_init 280 = .ok (.newarray .int, 2) := by decide +kernel
theorem dX9_init_282 : decode cX9_init 282 = .ok (.putfield 118, 3) := by decide +kernel
theorem dX9_init_285 : decode cX9_init 285 = .ok (.aload_n 0, 1) := by decide +kernel
theorem dX9_init_286 : decode cX9_init 286 = .ok (.bipush 6, 2) := by decide +kernel
theorem dX9_init_288 : decode cX9_init 288 = .ok (.newarray .int, 2) := by decide +kernel
theorem dX9_init_290 : decode cX9_init 290 = .ok (.putfield 121, 3) := by decide +kernel
theorem dX9_init_293 : decode cX9_init 293 = .ok (.aload_n 0, 1) := by decide +kernel
theorem dX9_init_294 : decode cX9_init 294 = .ok (.bipush 101, 2) := by decide +kernel
theorem dX9_init_296 : decode cX9_init 296 = .ok (.newarray .int, 2) := by decide +kernel
theorem dX9_init_298 : decode cX9_init 298 = .ok (.putfield 124, 3) := by decide +kernel
theorem dX9_init_301 : decode cX9_init 301 = .ok (.aload_n 0, 1) := by decide +kernel
theorem dX9_init_302 : decode cX9_init 302 = .ok (.bipush 100, 2) := by decide +kernel
theorem dX9_init_304 : decode cX9_init 304 = .ok (.newarray .int, 2) := by decide +kernel
theorem dX9_init_306 : decode cX9_init 306 = .ok (.putfield 127, 3) := by decide +kernel
theorem dX9_init_309 : decode cX9_init 309 = .ok (.iconst 0, 1) := by decide +kernel
theorem dX9_init_310 : decode cX9_init 310 = .ok (.istore_n 1, 1) := by decide +kernel
theorem dX9_init_311 : decode cX9_init 311 = .ok (.iload_n 1, 1) := by decide +kernel
theorem dX9_init_312 : decode cX9_init 312 = .ok (.sipush 256, 3) := by decide +kernel
theorem dX9_init_315 : decode cX9_init 315 = .ok (.if_icmp .ge 18, 3) := by decide +kernel
theorem dX9_init_318 : decode cX9_init 318 = .ok (.aload_n 0, 1) := by decide +kernel
theorem dX9_init_319 : decode cX9_init 319 = .ok (.getfield 7, 3) := by decide +kernel
theorem dX9_init_322 : decode cX9_init 322 = .ok (.iload_n 1, 1) := by decide +kernel
theorem dX9_init_323 : decode cX9_init 323 = .ok (.sipush 255, 3) := by decide +kernel
theorem dX9_init_326 : decode cX9_init 326 = .ok (.iastore, 1) := by decide +kernel
theorem dX9_init_327 : decode cX9_init 327 = .ok (.iinc 1 1, 3) := by decide +kernel
theorem dX9_init_330 : decode cX9_init 330 = .ok (.goto (-19), 3) := by decide +kernel
theorem dX9_init_333 : decode cX9_init 333 = .ok (.return_, 1) := by decide +kernel
theorem dX9_isIn_0 : decode cX9_isIn 0 = .ok (.iload_n 0, 1) := by decide +kernel
theorem dX9_isIn_1 : decode cX9_isIn 1 = .ok (.iload_n 1, 1) := by decide +kernel
theorem dX9_isIn_2 : decode cX9_isIn 2 = .ok (.if_icmp .lt 12, 3) := by decide +kernel
theorem dX9_isIn_5 : decode cX9_isIn 5 = .ok (.iload_n 0, 1) := by decide +kernel
theorem dX9_isIn_6 : decode cX9_isIn 6 = .ok (.iload_n 2, 1) := by decide +kernel
theorem dX9_isIn_7 : decode cX9_isIn 7 = .ok (.if_icmp .gt 7, 3) := by decide +kernel
theorem dX9_isIn_10 : decode cX9_isIn 10 = .ok (.iconst 1, 1) := by decide +kernel
theorem dX9_isIn_11 : decode cX9_isIn 11 = .ok (.goto 4, 3) := by decide +kernel
theorem dX9_isIn_14 : decode cX9_isIn 14 = .ok (.iconst 0, 1) := by decide +kernel
theorem dX9_isIn_15 : decode cX9_isIn 15 = .ok (.ireturn, 1) := by decide +kernel
theorem dX9_four_0 : decode cX9_four 0 = .ok (.bipush 24, 2) := by decide +kernel
theorem dX9_four_2 : decode cX9_four 2 = .ok (.istore_n 2, 1) := by decide +kernel
theorem dX9_four_3 : decode cX9_four 3 = .ok (.iload_n 2, 1) := by decide +kernel
theorem dX9_four_4 : decode cX9_four 4 = .ok (.ifCond .lt 35, 3) := by decide +kernel
theorem dX9_four_7 : decode cX9_four 7 = .ok (.aload_n 0, 1) := by decide +kernel
theorem dX9_four_8 : decode cX9_four 8 = .ok (.getfield 13, 3) := by decide +kernel
theorem dX9_four_11 : decode cX9_four 11 = .ok (.aload_n 0, 1) := by decide +kernel
theorem dX9_four_12 : decode cX9_four 12 = .ok (.getfield 130, 3) := by decide +kernel
theorem dX9_four_15 : decode cX9_four 15 = .ok (.iload_n 1, 1) := by decide +kernel
theorem dX9_four_16 : decode cX9_four 16 = .ok (.iload_n 2, 1) := by decide +kernel
theorem dX9_four_17 : decode cX9_four 17 = .ok (.ishr, 1) := by decide +kernel
theorem dX9_four_18 : decode cX9_four 18 = .ok (.sipush 255, 3) := by decide +kernel
theorem dX9_four_21 : decode cX9_four 21 = .ok (.iand, 1) := by decide +kernel
theorem dX9_four_22 : decode cX9_four 22 = .ok (.iastore, 1) := by decide +kernel
theorem dX9_four_23 : decode cX9_four 23 = .ok (.aload_n 0, 1) := by decide +kernel
theorem dX9_four_24 : decode cX9_four 24 = .ok (.dup, 1) := by decide +kernel
theorem dX9_four_25 : decode cX9_four 25 = .ok (.getfield 130, 3) := by decide +kernel
theorem dX9_four_28 : decode cX9_four 28 = .ok (.iconst 1, 1) := by decide +kernel
theorem dX9_four_29 : decode cX9_four 29 = .ok (.iadd, 1) := by decide +kernel
theorem dX9_four_30 : decode cX9_four 30 = .ok (.putfield 130, 3) := by decide +kernel
theorem dX9_four_33 : decode cX9_four 33 = .ok (.iinc 2 (-8), 3) := by decide +kernel
theorem dX9_four_36 : decode cX9_four 36 = .ok (.goto (-33), 3) := by decide +kernel
theorem dX9_four_39 : decode cX9_four 39 = .ok (.return_, 1) := by decide +kernel
theorem dX9_feed_0 : decode cX9_feed 0 = .ok (.aload_n 0, 1) := by decide +kernel
theorem dX9_feed_1 : decode cX9_feed 1 = .ok (.getfield 130, 3) := by decide +kernel
theorem dX9_feed_4 : decode cX9_feed 4 = .ok (.bipush 20, 2) := by decide +kernel
theorem dX9_feed_6 : decode cX9_feed 6 = .ok (.iadd, 1) := by decide +kernel
theorem dX9_feed_7 : decode cX9_feed 7 = .ok (.sipush 400, 3) := by decide +kernel
theorem dX9_feed_10 : decode cX9_feed 10 = .ok (.if_icmp .le 5, 3) := by decide +kernel
theorem dX9_feed_13 : decode cX9_feed 13 = .ok (.iconst (-1), 1) := by decide +kernel
theorem dX9_feed_14 : decode cX9_feed 14 = .ok (.ireturn, 1) := by decide +kernel
theorem dX9_feed_15 : decode cX9_feed 15 = .ok (.aload_n 0, 1) := by decide +kernel
theorem dX9_feed_16 : decode cX9_feed 16 = .ok (.iload_n 1, 1) := by decide +kernel
theorem dX9_feed_17 : decode cX9_feed 17 = .ok (.invokevirtual 133, 3) := by decide +kernel
theorem dX9_feed_20 : decode cX9_feed 20 = .ok (.aload_n 0, 1) := by decide +kernel
theorem dX9_feed_21 : decode cX9_feed 21 = .ok (.iload_n 2, 1) := by decide +kernel
theorem dX9_feed_22 : decode cX9_feed 22 = .ok (.invokevirtual 133, 3) := by decide +kernel
theorem dX9_feed_25 : decode cX9_feed 25 = .ok (.aload_n 0, 1) := by decide +kernel
theorem dX9_feed_26 : decode cX9_feed 26 = .ok (.iload_n 3, 1) := by decide +kernel
theorem dX9_feed_27 : decode cX9_feed 27 = .ok (.invokevirtual 133, 3) := by decide +kernel
theorem dX9_feed_30 : decode cX9_feed 30 = .ok (.aload_n 0, 1) := by decide +kernel
theorem dX9_feed_31 : decode cX9_feed 31 = .ok (.iload 4, 2) := by decide +kernel
theorem dX9_feed_33 : decode cX9_feed 33 = .ok (.invokevirtual 133, 3) := by decide +kernel
theorem dX9_feed_36 : decode cX9_feed 36 = .ok (.aload_n 0, 1) := by decide +kernel
theorem dX9_feed_37 : decode cX9_feed 37 = .ok (.iload 5, 2) := by decide +kernel
theorem dX9_feed_39 : decode cX9_feed 39 = .ok (.invokevirtual 133, 3) := by decide +kernel
theorem dX9_feed_42 : decode cX9_feed 42 = .ok (.aload_n 0, 1) := by decide +kernel
theorem dX9_feed_43 : decode cX9_feed 43 = .ok (.getfield 130, 3) := by decide +kernel
theorem dX9_feed_46 : decode cX9_feed 46 = .ok (.ireturn, 1) := by decide +kernel
theorem dX9_end_0 : decode cX9_end 0 = .ok (.iload_n 1, 1) := by decide +kernel
theorem dX9_end_1 : decode cX9_end 1 = .ok (.iconst 0, 1) := by decide +kernel
theorem dX9_end_2 : decode cX9_end 2 = .ok (.aload_n 0, 1) := by decide +kernel
theorem dX9_end_3 : decode cX9_end 3 = .ok (.getfield 130, 3) := by decide +kernel
theorem dX9_end_6 : decode cX9_end 6 = .ok (.invokestatic 137, 3) := by decide +kernel
theorem dX9_end_9 : decode cX9_end 9 = .ok (.ifCond .ne 5, 3) := by decide +kernel
theorem dX9_end_12 : decode cX9_end 12 = .ok (.iconst (-1), 1) := by decide +kernel
theorem dX9_end_13 : decode cX9_end 13 = .ok (.ireturn, 1) := by decide +kernel
theorem dX9_end_14 : decode cX9_end 14 = .ok (.aload_n 0, 1) := by decide +kernel
theorem dX9_end_15 : decode cX9_end 15 = .ok (.iload_n 1, 1) := by decide +kernel
theorem dX9_end_16 : decode cX9_end 16 = .ok (.putfield 130, 3) := by decide +kernel
theorem dX9_end_19 : decode cX9_end 19 = .ok (.iload_n 1, 1) := by decide +kernel
theorem dX9_end_20 : decode cX9_end 20 = .ok (.ireturn, 1) := by decide +kernel
theorem dX9_tape_0 : decode cX9_tape 0 = .ok (.iload_n 1, 1) := by decide +kernel
theorem dX9_tape_1 : decode cX9_tape 1 = .ok (.iconst 0, 1) := by decide +kernel
theorem dX9_tape_2 : decode cX9_tape 2 = .ok (.aload_n 0, 1) := by decide +kernel
theorem dX9_tape_3 : decode cX9_tape 3 = .ok (.getfield 130, 3) := by decide +kernel
theorem dX9_tape_6 : decode cX9_tape 6 = .ok (.iconst 1, 1) := by decide +kernel
theorem dX9_tape_7 : decode cX9_tape 7 = .ok (.isub, 1) := by decide +kernel
theorem dX9_tape_8 : decode cX9_tape 8 = .ok (.invokestatic 137, 3) := by decide +kernel
theorem dX9_tape_11 : decode cX9_tape 11 = .ok (.ifCond .eq 12, 3) := by decide +kernel
theorem dX9_tape_14 : decode cX9_tape 14 = .ok (.aload_n 0, 1) := by decide +kernel
theorem dX9_tape_15 : decode cX9_tape 15 = .ok (.getfield 13, 3) := by decide +kernel
theorem dX9_tape_18 : decode cX9_tape 18 = .ok (.iload_n 1, 1) := by decide +kernel
theorem dX9_tape_19 : decode cX9_tape 19 = .ok (.iaload, 1) := by decide +kernel
theorem dX9_tape_20 : decode cX9_tape 20 = .ok (.goto 4, 3) := by decide +kernel
theorem dX9_tape_23 : decode cX9_tape 23 = .ok (.iconst (-1), 1) := by decide +kernel
theorem dX9_tape_24 : decode cX9_tape 24 = .ok (.ireturn, 1) := by decide +kernel
theorem dX9_image_0 : decode cX9_image 0 = .ok (.iload_n 1, 1) := by decide +kernel
theorem dX9_image_1 : decode cX9_image 1 = .ok (.iconst 0, 1) := by decide +kernel
theorem dX9_image_2 : decode cX9_image 2 = .ok (.sipush 255, 3) := by decide +kernel
theorem dX9_image_5 : decode cX9_image 5 = .ok (.invokestatic 137, 3) := by decide +kernel
theorem dX9_image_8 : decode cX9_image 8 = .ok (.ifCond .eq 12, 3) := by decide +kernel
theorem dX9_image_11 : decode cX9_image 11 = .ok (.aload_n 0, 1) := by decide +kernel
theorem dX9_image_12 : decode cX9_image 12 = .ok (.getfield 7, 3) := by decide +kernel
theorem dX9_image_15 : decode cX9_image 15 = .ok (.iload_n 1, 1) := by decide +kernel
theorem dX9_image_16 : decode cX9_image 16 = .ok (.iaload, 1) := by decide +kernel
theorem dX9_image_17 : decode cX9_image 17 = .ok (.goto 4, 3) := by decide +kernel
theorem dX9_image_20 : decode cX9_image 20 = .ok (.iconst (-1), 1) := by decide +kernel
theorem dX9_image_21 : decode cX9_image 21 = .ok (.ireturn, 1) := by decide +kernel
theorem dX9_fill_0 : decode cX9_fill 0 = .ok (.iload_n 1, 1) := by decide +kernel
theorem dX9_fill_1 : decode cX9_fill 1 = .ok (.iconst 0, 1) := by decide +kernel
theorem dX9_fill_2 : decode cX9_fill 2 = .ok (.sipush 255, 3) := by decide +kernel
theorem dX9_fill_5 : decode cX9_fill 5 = .ok (.invokestatic 137, 3) := by decide +kernel
theorem dX9_fill_8 : decode cX9_fill 8 = .ok (.ifCond .ne 5, 3) := by decide +kernel
theorem dX9_fill_11 : decode cX9_fill 11 = .ok (.iconst 0, 1) := by decide +kernel
theorem dX9_fill_12 : decode cX9_fill 12 = .ok (.ireturn, 1) := by decide +kernel
theorem dX9_fill_13 : decode cX9_fill 13 = .ok (.iconst 0, 1) := by decide +kernel
theorem dX9_fill_14 : decode cX9_fill 14 = .ok (.istore_n 2, 1) := by decide +kernel
theorem dX9_fill_15 : decode cX9_fill 15 = .ok (.iload_n 2, 1) := by decide +kernel
theorem dX9_fill_16 : decode cX9_fill 16 = .ok (.sipush 256, 3) := by decide +kernel
theorem dX9_fill_19 : decode cX9_fill 19 = .ok (.if_icmp .ge 16, 3) := by decide +kernel
theorem dX9_fill_22 : decode cX9_fill 22 = .ok (.aload_n 0, 1) := by decide +kernel
theorem dX9_fill_23 : decode cX9_fill 23 = .ok (.getfield 7, 3) := by decide +kernel
theorem dX9_fill_26 : decode cX9_fill 26 = .ok (.iload_n 2, 1) := by decide +kernel
theorem dX9_fill_27 : decode cX9_fill 27 = .ok (.iload_n 1, 1) := by decide +kernel
theorem dX9_fill_28 : decode cX9_fill 28 = .ok (.iastore, 1) := by decide +kernel
theorem dX9_fill_29 : decode cX9_fill 29 = .ok (.iinc 2 1, 3) := by decide +kernel
theorem dX9_fill_32 : decode cX9_fill 32 = .ok (.goto (-17), 3) := by decide +kernel
theorem dX9_fill_35 : decode cX9_fill 35 = .ok (.iconst 1, 1) := by decide +kernel
theorem dX9_fill_36 : decode cX9_fill 36 = .ok (.ireturn, 1) := by decide +kernel
theorem dX9_digitOf_0 : decode cX9_digitOf 0 = .ok (.iload_n 0, 1) := by decide +kernel
theorem dX9_digitOf_1 : decode cX9_digitOf 1 = .ok (.bipush 48, 2) := by decide +kernel
theorem dX9_digitOf_3 : decode cX9_digitOf 3 = .ok (.bipush 57, 2) := by decide +kernel
theorem dX9_digitOf_5 : decode cX9_digitOf 5 = .ok (.invokestatic 137, 3) := by decide +kernel
theorem dX9_digitOf_8 : decode cX9_digitOf 8 = .ok (.ifCond .eq 10, 3) := by decide +kernel
theorem dX9_digitOf_11 : decode cX9_digitOf 11 = .ok (.iload_n 0, 1) := by decide +kernel
theorem dX9_digitOf_12 : decode cX9_digitOf 12 = .ok (.bipush 48, 2) := by decide +kernel
theorem dX9_digitOf_14 : decode cX9_digitOf 14 = .ok (.isub, 1) := by decide +kernel
theorem dX9_digitOf_15 : decode cX9_digitOf 15 = .ok (.goto 25, 3) := by decide +kernel
theorem dX9_digitOf_18 : decode cX9_digitOf 18 = .ok (.iload_n 0, 1) := by decide +kernel
theorem dX9_digitOf_19 : decode cX9_digitOf 19 = .ok (.bipush 65, 2) := by decide +kernel
theorem dX9_digitOf_21 : decode cX9_digitOf 21 = .ok (.bipush 70, 2) := by decide +kernel
theorem dX9_digitOf_23 : decode cX9_digitOf 23 = .ok (.invokestatic 137, 3) := by decide +kernel
theorem dX9_digitOf_26 : decode cX9_digitOf 26 = .ok (.ifCond .eq 13, 3) := by decide +kernel
theorem dX9_digitOf_29 : decode cX9_digitOf 29 = .ok (.iload_n 0, 1) := by decide +kernel
theorem dX9_digitOf_30 : decode cX9_digitOf 30 = .ok (.bipush 65, 2) := by decide +kernel
theorem dX9_digitOf_32 : decode cX9_digitOf 32 = .ok (.isub, 1) := by decide +kernel
theorem dX9_digitOf_33 : decode cX9_digitOf 33 = .ok (.bipush 10, 2) := by decide +kernel
theorem dX9_digitOf_35 : decode cX9_digitOf 35 = .ok (.iadd, 1) := by decide +kernel
theorem dX9_digitOf_36 : decode cX9_digitOf 36 = .ok (.goto 4, 3) := by decide +kernel
theorem dX9_digitOf_39 : decode cX9_digitOf 39 = .ok (.iconst (-1), 1) := by decide +kernel
theorem dX9_digitOf_40 : decode cX9_digitOf 40 = .ok (.ireturn, 1) := by decide +kernel
theorem dX9_bytes_0 : decode cX9_bytes 0 = .ok (.iload_n 2, 1) := by decide +kernel
theorem dX9_bytes_1 : decode cX9_bytes 1 = .ok (.iload_n 1, 1) := by decide +kernel
theorem dX9_bytes_2 : decode cX9_bytes 2 = .ok (.isub, 1) := by decide +kernel
theorem dX9_bytes_3 : decode cX9_bytes 3 = .ok (.iconst 2, 1) := by decide +kernel
theorem dX9_bytes_4 : decode cX9_bytes 4 = .ok (.irem, 1) := by decide +kernel
theorem dX9_bytes_5 : decode cX9_bytes 5 = .ok (.ifCond .eq 5, 3) := by decide +kernel
theorem dX9_bytes_8 : decode cX9_bytes 8 = .ok (.iconst (-1), 1) := by decide +kernel
theorem dX9_bytes_9 : decode cX9_bytes 9 = .ok (.ireturn, 1) := by decide +kernel
theorem dX9_bytes_10 : decode cX9_bytes 10 = .ok (.iconst 0, 1) := by decide +kernel
theorem dX9_bytes_11 : decode cX9_bytes 11 = .ok (.istore_n 3, 1) := by decide +kernel
theorem dX9_bytes_12 : decode cX9_bytes 12 = .ok (.iload_n 1, 1) := by decide +kernel
theorem dX9_bytes_13 : decode cX9_bytes 13 = .ok (.istore 4, 2) := by decide +kernel
theorem dX9_bytes_15 : decode cX9_bytes 15 = .ok (.iload 4, 2) := by decide +kernel
theorem dX9_bytes_17 : decode cX9_bytes 17 = .ok (.iload_n 2, 1) := by decide +kernel
theorem dX9_bytes_18 : decode cX9_bytes 18 = .ok (.if_icmp .ge 64, 3) := by decide +kernel
theorem dX9_bytes_21 : decode cX9_bytes 21 = .ok (.aload_n 0, 1) := by decide +kernel
theorem dX9_bytes_22 : decode cX9_bytes 22 = .ok (.getfield 13, 3) := by decide +kernel
theorem dX9_bytes_25 : decode cX9_bytes 25 = .ok (.iload 4, 2) := by decide +kernel
theorem dX9_bytes_27 : decode cX9_bytes 27 = .ok (.iaload, 1) := by decide +kernel
theorem dX9_bytes_28 : decode cX9_bytes 28 = .ok (.invokestatic 141, 3) := by decide +kernel
theorem dX9_bytes_31 : decode cX9_bytes 31 = .ok (.istore 5, 2) := by decide +kernel
theorem dX9_bytes_33 : decode cX9_bytes 33 = .ok (.aload_n 0, 1) := by decide +kernel
theorem dX9_bytes_34 : decode cX9_bytes 34 = .ok (.getfield 13, 3) := by decide +kernel
theorem dX9_bytes_37 : decode cX9_bytes 37 = .ok (.iload 4, 2) := by decide +kernel
theorem dX9_bytes_39 : decode cX9_bytes 39 = .ok (.iconst 1, 1) := by decide +kernel
theorem dX9_bytes_40 : decode cX9_bytes 40 = .ok (.iadd, 1) := by decide +kernel
theorem dX9_bytes_41 : decode cX9_bytes 41 = .ok (.iaload, 1) := by decide +kernel
theorem dX9_bytes_42 : decode cX9_bytes 42 = .ok (.invokestatic 141, 3) := by decide +kernel
theorem dX9_bytes_45 : decode cX9_bytes 45 = .ok (.istore 6, 2) := by decide +kernel
theorem dX9_bytes_47 : decode cX9_bytes 47 = .ok (.iload 5, 2) := by decide +kernel
theorem dX9_bytes_49 : decode cX9_bytes 49 = .ok (.ifCond .lt 8, 3) := by decide +kernel
theorem dX9_bytes_52 : decode cX9_bytes 52 = .ok (.iload 6, 2) := by decide +kernel
theorem dX9_bytes_54 : decode cX9_bytes 54 = .ok (.ifCond .ge 5, 3) := by decide +kernel
theorem dX9_bytes_57 : decode cX9_bytes 57 = .ok (.iconst (-1), 1) := by decide +kernel
theorem dX9_bytes_58 : decode cX9_bytes 58 = .ok (.ireturn, 1) := by decide +kernel
theorem dX9_bytes_59 : decode cX9_bytes 59 = .ok (.aload_n 0, 1) := by decide +kernel
theorem dX9_bytes_60 : decode cX9_bytes 60 = .ok (.getfield 30, 3) := by decide +kernel
theorem dX9_bytes_63 : decode cX9_bytes 63 = .ok (.iload_n 3, 1) := by decide +kernel
theorem dX9_bytes_64 : decode cX9_bytes 64 = .ok (.bipush 16, 2) := by decide +kernel
theorem dX9_bytes_66 : decode cX9_bytes 66 = .ok (.iload 5, 2) := by decide +kernel
theorem dX9_bytes_68 : decode cX9_bytes 68 = .ok (.imul, 1) := by decide +kernel
theorem dX9_bytes_69 : decode cX9_bytes 69 = .ok (.iload 6, 2) := by decide +kernel
theorem dX9_bytes_71 : decode cX9_bytes 71 = .ok (.iadd, 1) := by decide +kernel
theorem dX9_bytes_72 : decode cX9_bytes 72 = .ok (.iastore, 1) := by decide +kernel
theorem dX9_bytes_73 : decode cX9_bytes 73 = .ok (.iinc 3 1, 3) := by decide +kernel
theorem dX9_bytes_76 : decode cX9_bytes 76 = .ok (.iinc 4 2, 3) := by decide +kernel
theorem dX9_bytes_79 : decode cX9_bytes 79 = .ok (.goto (-64), 3) := by decide +kernel
theorem dX9_bytes_82 : decode cX9_bytes 82 = .ok (.iload_n 3, 1) := by decide +kernel
theorem dX9_bytes_83 : decode cX9_bytes 83 = .ok (.ireturn, 1) := by decide +kernel
theorem dX9_put_0 : decode cX9_put 0 = .ok (.aload_n 0, 1) := by decide +kernel
theorem dX9_put_1 : decode cX9_put 1 = .ok (.getfield 23, 3) := by decide +kernel
theorem dX9_put_4 : decode cX9_put 4 = .ok (.iload_n 1, 1) := by decide +kernel
theorem dX9_put_5 : decode cX9_put 5 = .ok (.iload_n 2, 1) := by decide +kernel
theorem dX9_put_6 : decode cX9_put 6 = .ok (.iastore, 1) := by decide +kernel
theorem dX9_put_7 : decode cX9_put 7 = .ok (.aload_n 0, 1) := by decide +kernel
theorem dX9_put_8 : decode cX9_put 8 = .ok (.getfield 26, 3) := by decide +kernel
theorem dX9_put_11 : decode cX9_put 11 = .ok (.iload_n 1, 1) := by decide +kernel
theorem dX9_put_12 : decode cX9_put 12 = .ok (.iconst 1, 1) := by decide +kernel
theorem dX9_put_13 : decode cX9_put 13 = .ok (.bastore, 1) := by decide +kernel
theorem dX9_put_14 : decode cX9_put 14 = .ok (.aload_n 0, 1) := by decide +kernel
theorem dX9_put_15 : decode cX9_put 15 = .ok (.dup, 1) := by decide +kernel
theorem dX9_put_16 : decode cX9_put 16 = .ok (.getfield 145, 3) := by decide +kernel
theorem dX9_put_19 : decode cX9_put 19 = .ok (.iconst 1, 1) := by decide +kernel
theorem dX9_put_20 : decode cX9_put 20 = .ok (.iadd, 1) := by decide +kernel
theorem dX9_put_21 : decode cX9_put 21 = .ok (.putfield 145, 3) := by decide +kernel
theorem dX9_put_24 : decode cX9_put 24 = .ok (.return_, 1) := by decide +kernel
theorem dX9_sumOf_0 : decode cX9_sumOf 0 = .ok (.iconst 0, 1) := by decide +kernel
theorem dX9_sumOf_1 : decode cX9_sumOf 1 = .ok (.istore_n 2, 1) := by decide +kernel
theorem dX9_sumOf_2 : decode cX9_sumOf 2 = .ok (.iconst 0, 1) := by decide +kernel
theorem dX9_sumOf_3 : decode cX9_sumOf 3 = .ok (.istore_n 3, 1) := by decide +kernel
theorem dX9_sumOf_4 : decode cX9_sumOf 4 = .ok (.iload_n 3, 1) := by decide +kernel
theorem dX9_sumOf_5 : decode cX9_sumOf 5 = .ok (.iload_n 1, 1) := by decide +kernel
theorem dX9_sumOf_6 : decode cX9_sumOf 6 = .ok (.if_icmp .ge 18, 3) := by decide +kernel
theorem dX9_sumOf_9 : decode cX9_sumOf 9 = .ok (.iload_n 2, 1) := by decide +kernel
theorem dX9_sumOf_10 : decode cX9_sumOf 10 = .ok (.aload_n 0, 1) := by decide +kernel
theorem dX9_sumOf_11 : decode cX9_sumOf 11 = .ok (.getfield 30, 3) := by decide +kernel
theorem dX9_sumOf_14 : decode cX9_sumOf 14 = .ok (.iload_n 3, 1) := by decide +kernel
theorem dX9_sumOf_15 : decode cX9_sumOf 15 = .ok (.iaload, 1) := by decide +kernel
theorem dX9_sumOf_16 : decode cX9_sumOf 16 = .ok (.iadd, 1) := by decide +kernel
theorem dX9_sumOf_17 : decode cX9_sumOf 17 = .ok (.istore_n 2, 1) := by decide +kernel
theorem dX9_sumOf_18 : decode cX9_sumOf 18 = .ok (.iinc 3 1, 3) := by decide +kernel
theorem dX9_sumOf_21 : decode cX9_sumOf 21 = .ok (.goto (-17), 3) := by decide +kernel
theorem dX9_sumOf_24 : decode cX9_sumOf 24 = .ok (.iload_n 2, 1) := by decide +kernel
theorem dX9_sumOf_25 : decode cX9_sumOf 25 = .ok (.sipush 256, 3) := by decide +kernel
theorem dX9_sumOf_28 : decode cX9_sumOf 28 = .ok (.irem, 1) := by decide +kernel
theorem dX9_sumOf_29 : decode cX9_sumOf 29 = .ok (.ireturn, 1) := by decide +kernel
theorem dX9_lineOne_0 : decode cX9_lineOne 0 = .ok (.aload_n 0, 1) := by decide +kernel
theorem dX9_lineOne_1 : decode cX9_lineOne 1 = .ok (.getfield 13, 3) := by decide +kernel
theorem dX9_lineOne_4 : decode cX9_lineOne 4 = .ok (.iload_n 1, 1) := by decide +kernel
theorem dX9_lineOne_5 : decode cX9_lineOne 5 = .ok (.iaload, 1) := by decide +kernel
theorem dX9_lineOne_6 : decode cX9_lineOne 6 = .ok (.bipush 58, 2) := by decide +kernel
theorem dX9_lineOne_8 : decode cX9_lineOne 8 = .ok (.if_icmp .ne 14, 3) := by decide +kernel
theorem dX9_lineOne_11 : decode cX9_lineOne 11 = .ok (.aload_n 0, 1) := by decide +kernel
theorem dX9_lineOne_12 : decode cX9_lineOne 12 = .ok (.iload_n 1, 1) := by decide +kernel
theorem dX9_lineOne_13 : decode cX9_lineOne 13 = .ok (.iconst 1, 1) := by decide +kernel
theorem dX9_lineOne_14 : decode cX9_lineOne 14 = .ok (.iadd, 1) := by decide +kernel
theorem dX9_lineOne_15 : decode cX9_lineOne 15 = .ok (.iload_n 2, 1) := by decide +kernel
theorem dX9_lineOne_16 : decode cX9_lineOne 16 = .ok (.invokevirtual 148, 3) := by decide +kernel
theorem dX9_lineOne_19 : decode cX9_lineOne 19 = .ok (.goto 4, 3) := by decide +kernel
theorem dX9_lineOne_22 : decode cX9_lineOne 22 = .ok (.iconst (-1), 1) := by decide +kernel
theorem dX9_lineOne_23 : decode cX9_lineOne 23 = .ok (.istore_n 3, 1) := by decide +kernel
theorem dX9_lineOne_24 : decode cX9_lineOne 24 = .ok (.iload_n 3, 1) := by decide +kernel
theorem dX9_lineOne_25 : decode cX9_lineOne 25 = .ok (.iconst 5, 1) := by decide +kernel
theorem dX9_lineOne_26 : decode cX9_lineOne 26 = .ok (.if_icmp .lt 15, 3) := by decide +kernel
theorem dX9_lineOne_29 : decode cX9_lineOne 29 = .ok (.iload_n 3, 1) := by decide +kernel
theorem dX9_lineOne_30 : decode cX9_lineOne 30 = .ok (.aload_n 0, 1) := by decide +kernel
theorem dX9_lineOne_31 : decode cX9_lineOne 31 = .ok (.getfield 30, 3) := by decide +kernel
theorem dX9_lineOne_34 : decode cX9_lineOne 34 = .ok (.iconst 0, 1) := by decide +kernel
theorem dX9_lineOne_35 : decode cX9_lineOne 35 = .ok (.iaload, 1) := by decide +kernel
theorem dX9_lineOne_36 : decode cX9_lineOne 36 = .ok (.iconst 5, 1) := by decide +kernel
theorem dX9_lineOne_37 : decode cX9_lineOne 37 = .ok (.iadd, 1) := by decide +kernel
theorem dX9_lineOne_38 : decode cX9_lineOne 38 = .ok (.if_icmp .eq 5, 3) := by decide +kernel
theorem dX9_lineOne_41 : decode cX9_lineOne 41 = .ok (.iconst 1, 1) := by decide +kernel
theorem dX9_lineOne_42 : decode cX9_lineOne 42 = .ok (.ireturn, 1) := by decide +kernel
theorem dX9_lineOne_43 : decode cX9_lineOne 43 = .ok (.aload_n 0, 1) := by decide +kernel
theorem dX9_lineOne_44 : decode cX9_lineOne 44 = .ok (.getfield 30, 3) := by decide +kernel
theorem dX9_lineOne_47 : decode cX9_lineOne 47 = .ok (.iconst 3, 1) := by decide +kernel
theorem dX9_lineOne_48 : decode cX9_lineOne 48 = .ok (.iaload, 1) := by decide +kernel
theorem dX9_lineOne_49 : decode cX9_lineOne 49 = .ok (.istore 4, 2) := by decide +kernel
theorem dX9_lineOne_51 : decode cX9_lineOne 51 = .ok (.iload 4, 2) := by decide +kernel
theorem dX9_lineOne_53 : decode cX9_lineOne 53 = .ok (.iconst 1, 1) := by decide +kernel
theorem dX9_lineOne_54 : decode cX9_lineOne 54 = .ok (.if_icmp .gt 18, 3) := by decide +kernel
theorem dX9_lineOne_57 : decode cX9_lineOne 57 = .ok (.iload 4, 2) := by decide +kernel
theorem dX9_lineOne_59 : decode cX9_lineOne 59 = .ok (.iconst 1, 1) := by decide +kernel
theorem dX9_lineOne_60 : decode cX9_lineOne 60 = .ok (.if_icmp .ne 14, 3) := by decide +kernel
theorem dX9_lineOne_63 : decode cX9_lineOne 63 = .ok (.aload_n 0, 1) := by decide +kernel
theorem dX9_lineOne_64 : decode cX9_lineOne 64 = .ok (.getfield 30, 3) := by decide +kernel
theorem dX9_lineOne_67 : decode cX9_lineOne 67 = .ok (.iconst 0, 1) := by decide +kernel
theorem dX9_lineOne_68 : decode cX9_lineOne 68 = .ok (.iaload, 1) := by decide +kernel
theorem dX9_lineOne_69 : decode cX9_lineOne 69 = .ok (.ifCond .le 5, 3) := by decide +kernel
theorem dX9_lineOne_72 : decode cX9_lineOne 72 = .ok (.iconst 1, 1) := by decide +kernel
theorem dX9_lineOne_73 : decode cX9_lineOne 73 = .ok (.ireturn, 1) := by decide +kernel
theorem dX9_lineOne_74 : decode cX9_lineOne 74 = .ok (.aload_n 0, 1) := by decide +kernel
theorem dX9_lineOne_75 : decode cX9_lineOne 75 = .ok (.iload_n 3, 1) := by decide +kernel
theorem dX9_lineOne_76 : decode cX9_lineOne 76 = .ok (.invokevirtual 152, 3) := by decide +kernel
theorem dX9_lineOne_79 : decode cX9_lineOne 79 = .ok (.ifCond .eq 5, 3) := by decide +kernel
theorem dX9_lineOne_82 : decode cX9_lineOne 82 = .ok (.iconst 2, 1) := by decide +kernel
theorem dX9_lineOne_83 : decode cX9_lineOne 83 = .ok (.ireturn, 1) := by decide +kernel
theorem dX9_lineOne_84 : decode cX9_lineOne 84 = .ok (.aload_n 0, 1) := by decide +kernel
theorem dX9_lineOne_85 : decode cX9_lineOne 85 = .ok (.iload 4, 2) := by decide +kernel
theorem dX9_lineOne_87 : decode cX9_lineOne 87 = .ok (.iconst 1, 1) := by decide +kernel
theorem dX9_lineOne_88 : decode cX9_lineOne 88 = .ok (.if_icmp .ne 7, 3) := by decide +kernel
theorem dX9_lineOne_91 : decode cX9_lineOne 91 = .ok (.iconst 1, 1) := by decide +kernel
theorem dX9_lineOne_92 : decode cX9_lineOne 92 = .ok (.goto 4, 3) := by decide +kernel
theorem dX9_lineOne_95 : decode cX9_lineOne 95 = .ok (.iconst 0, 1) := by decide +kernel
theorem dX9_lineOne_96 : decode cX9_lineOne 96 = .ok (.putfield 155, 3) := by decide +kernel
theorem dX9_lineOne_99 : decode cX9_lineOne 99 = .ok (.iload 4, 2) := by decide +kernel
theorem dX9_lineOne_101 : decode cX9_lineOne 101 = .ok (.iconst 1, 1) := by decide +kernel
theorem dX9_lineOne_102 : decode cX9_lineOne 102 = .ok (.if_icmp .ne 7, 3) := by decide +kernel
theorem dX9_lineOne_105 : decode cX9_lineOne 105 = .ok (.iconst 0, 1) := by decide +kernel
theorem dX9_lineOne_106 : decode cX9_lineOne 106 = .ok (.goto 31, 3) := by decide +kernel
theorem dX9_lineOne_109 : decode cX9_lineOne 109 = .ok (.aload_n 0, 1) := by decide +kernel
theorem dX9_lineOne_110 : decode cX9_lineOne 110 = .ok (.sipush 256, 3) := by decide +kernel
theorem dX9_lineOne_113 : decode cX9_lineOne 113 = .ok (.aload_n 0, 1) := by decide +kernel
theorem dX9_lineOne_114 : decode cX9_lineOne 114 = .ok (.getfield 30, 3) := by decide +kernel
theorem dX9_lineOne_117 : decode cX9_lineOne 117 = .ok (.iconst 1, 1) := by decide +kernel
theorem dX9_lineOne_118 : decode cX9_lineOne 118 = .ok (.iaload, 1) := by decide +kernel
theorem dX9_lineOne_119 : decode cX9_lineOne 119 = .ok (.imul, 1) := by decide +kernel
theorem dX9_lineOne_120 : decode cX9_lineOne 120 = .ok (.aload_n 0, 1) := by decide +kernel
theorem dX9_lineOne_121 : decode cX9_lineOne 121 = .ok (.getfield 30, 3) := by decide +kernel
theorem dX9_lineOne_124 : decode cX9_lineOne 124 = .ok (.iconst 2, 1) := by decide +kernel
theorem dX9_lineOne_125 : decode cX9_lineOne 125 = .ok (.iaload, 1) := by decide +kernel
theorem dX9_lineOne_126 : decode cX9_lineOne 126 = .ok (.iadd, 1) := by decide +kernel
theorem dX9_lineOne_127 : decode cX9_lineOne 127 = .ok (.iconst 4, 1) := by decide +kernel
theorem dX9_lineOne_128 : decode cX9_lineOne 128 = .ok (.aload_n 0, 1) := by decide +kernel
theorem dX9_lineOne_129 : decode cX9_lineOne 129 = .ok (.getfield 30, 3) := by decide +kernel
theorem dX9_lineOne_132 : decode cX9_lineOne 132 = .ok (.iconst 0, 1) := by decide +kernel
theorem dX9_lineOne_133 : decode cX9_lineOne 133 = .ok (.iaload, 1) := by decide +kernel
theorem dX9_lineOne_134 : decode cX9_lineOne 134 = .ok (.invokevirtual 159, 3) := by decide +kernel
theorem dX9_lineOne_137 : decode cX9_lineOne 137 = .ok (.ireturn, 1) := by decide +kernel
theorem dX9_lineTwo_0 : decode cX9_lineTwo 0 = .ok (.iload_n 2, 1) := by decide +kernel
theorem dX9_lineTwo_1 : decode cX9_lineTwo 1 = .ok (.iload_n 1, 1) := by decide +kernel
theorem dX9_lineTwo_2 : decode cX9_lineTwo 2 = .ok (.isub, 1) := by decide +kernel
theorem dX9_lineTwo_3 : decode cX9_lineTwo 3 = .ok (.iconst 1, 1) := by decide +kernel
theorem dX9_lineTwo_4 : decode cX9_lineTwo 4 = .ok (.if_icmp .le 25, 3) := by decide +kernel
theorem dX9_lineTwo_7 : decode cX9_lineTwo 7 = .ok (.aload_n 0, 1) := by decide +kernel
theorem dX9_lineTwo_8 : decode cX9_lineTwo 8 = .ok (.getfield 13, 3) := by decide +kernel
theorem dX9_lineTwo_11 : decode cX9_lineTwo 11 = .ok (.iload_n 1, 1) := by decide +kernel
theorem dX9_lineTwo_12 : decode cX9_lineTwo 12 = .ok (.iaload, 1) := by decide +kernel
theorem dX9_lineTwo_13 : decode cX9_lineTwo 13 = .ok (.bipush 83, 2) := by decide +kernel
theorem dX9_lineTwo_15 : decode cX9_lineTwo 15 = .ok (.if_icmp .ne 14, 3) := by decide +kernel
theorem dX9_lineTwo_18 : decode cX9_lineTwo 18 = .ok (.aload_n 0, 1) := by decide +kernel
theorem dX9_lineTwo_19 : decode cX9_lineTwo 19 = .ok (.getfield 13, 3) := by decide +kernel
theorem dX9_lineTwo_22 : decode cX9_lineTwo 22 = .ok (.iload_n 1, 1) := by decide +kernel
theorem dX9_lineTwo_23 : decode cX9_lineTwo 23 = .ok (.iconst 1, 1) := by decide +kernel
theorem dX9_lineTwo_24 : decode cX9_lineTwo 24 = .ok (.iadd, 1) := by decide +kernel
theorem dX9_lineTwo_25 : decode cX9_lineTwo 25 = .ok (.iaload, 1) := by decide +kernel
theorem dX9_lineTwo_26 : decode cX9_lineTwo 26 = .ok (.goto 4, 3) := by decide +kernel
theorem dX9_lineTwo_29 : decode cX9_lineTwo 29 = .ok (.iconst (-1), 1) := by decide +kernel
theorem dX9_lineTwo_30 : decode cX9_lineTwo 30 = .ok (.istore_n 3, 1) := by decide +kernel
theorem dX9_lineTwo_31 : decode cX9_lineTwo 31 = .ok (.iload_n 3, 1) := by decide +kernel
theorem dX9_lineTwo_32 : decode cX9_lineTwo 32 = .ok (.bipush 48, 2) := by decide +kernel
theorem dX9_lineTwo_34 : decode cX9_lineTwo 34 = .ok (.if_icmp .eq 15, 3) := by decide +kernel
theorem dX9_lineTwo_37 : decode cX9_lineTwo 37 = .ok (.iload_n 3, 1) := by decide +kernel
theorem dX9_lineTwo_38 : decode cX9_lineTwo 38 = .ok (.bipush 49, 2) := by decide +kernel
theorem dX9_lineTwo_40 : decode cX9_lineTwo 40 = .ok (.if_icmp .eq 9, 3) := by decide +kernel
theorem dX9_lineTwo_43 : decode cX9_lineTwo 43 = .ok (.iload_n 3, 1) := by decide +kernel
theorem dX9_lineTwo_44 : decode cX9_lineTwo 44 = .ok (.bipush 57, 2) := by decide +kernel
theorem dX9_lineTwo_46 : decode cX9_lineTwo 46 = .ok (.if_icmp .ne 14, 3) := by decide +kernel
theorem dX9_lineTwo_49 : decode cX9_lineTwo 49 = .ok (.aload_n 0, 1) := by decide +kernel
theorem dX9_lineTwo_50 : decode cX9_lineTwo 50 = .ok (.iload_n 1, 1) := by decide +kernel
theorem dX9_lineTwo_51 : decode cX9_lineTwo 51 = .ok (.iconst 2, 1) := by decide +kernel
theorem dX9_lineTwo_52 : decode cX9_lineTwo 52 = .ok (.iadd, 1) := by decide +kernel
theorem dX9_lineTwo_53 : decode cX9_lineTwo 53 = .ok (.iload_n 2, 1) := by decide +kernel
theorem dX9_lineTwo_54 : decode cX9_lineTwo 54 = .ok (.invokevirtual 148, 3) := by decide +kernel
theorem dX9_lineTwo_57 : decode cX9_lineTwo 57 = .ok (.goto 4, 3) := by decide +kernel
theorem dX9_lineTwo_60 : decode cX9_lineTwo 60 = .ok (.iconst (-1), 1) := by decide +kernel
theorem dX9_lineTwo_61 : decode cX9_lineTwo 61 = .ok (.istore 4, 2) := by decide +kernel
theorem dX9_lineTwo_63 : decode cX9_lineTwo 63 = .ok (.iload 4, 2) := by decide +kernel
theorem dX9_lineTwo_65 : decode cX9_lineTwo 65 = .ok (.iconst 4, 1) := by decide +kernel
theorem dX9_lineTwo_66 : decode cX9_lineTwo 66 = .ok (.if_icmp .lt 32, 3) := by decide +kernel
theorem dX9_lineTwo_69 : decode cX9_lineTwo 69 = .ok (.iload 4, 2) := by decide +kernel
theorem dX9_lineTwo_71 : decode cX9_lineTwo 71 = .ok (.aload_n 0, 1) := by decide +kernel
theorem dX9_lineTwo_72 : decode cX9_lineTwo 72 = .ok (.getfield 30, 3) := by decide +kernel
theorem dX9_lineTwo_75 : decode cX9_lineTwo 75 = .ok (.iconst 0, 1) := by decide +kernel
theorem dX9_lineTwo_76 : decode cX9_lineTwo 76 = .ok (.iaload, 1) := by decide +kernel
theorem dX9_lineTwo_77 : decode cX9_lineTwo 77 = .ok (.iconst 1, 1) := by decide +kernel
theorem dX9_lineTwo_78 : decode cX9_lineTwo 78 = .ok (.iadd, 1) := by decide +kernel
theorem dX9_lineTwo_79 : decode cX9_lineTwo 79 = .ok (.if_icmp .ne 19, 3) := by decide +kernel
theorem dX9_lineTwo_82 : decode cX9_lineTwo 82 = .ok (.iload_n 3, 1) := by decide +kernel
theorem dX9_lineTwo_83 : decode cX9_lineTwo 83 = .ok (.bipush 57, 2) := by decide +kernel
theorem dX9_lineTwo_85 : decode cX9_lineTwo 85 = .ok (.if_icmp .ne 15, 3) := by decide +kernel
theorem dX9_lineTwo_88 : decode cX9_lineTwo 88 = .ok (.aload_n 0, 1) := by decide +kernel
theorem dX9_lineTwo_89 : decode cX9_lineTwo 89 = .ok (.getfield 30, 3) := by decide +kernel
theorem dX9_lineTwo_92 : decode cX9_lineTwo 92 = .ok (.iconst 0, 1) := by decide +kernel
theorem dX9_lineTwo_93 : decode cX9_lineTwo 93 = .ok (.iaload, 1) := by decide +kernel
theorem dX9_lineTwo_94 : decode cX9_lineTwo 94 = .ok (.iconst 3, 1) := by decide +kernel
theorem dX9_lineTwo_95 : decode cX9_lineTwo 95 = .ok (.if_icmp .eq 5, 3) := by decide +kernel
theorem dX9_lineTwo_98 : decode cX9_lineTwo 98 = .ok (.iconst 1, 1) := by decide +kernel
theorem dX9_lineTwo_99 : decode cX9_lineTwo 99 = .ok (.ireturn, 1) := by decide +kernel
theorem dX9_lineTwo_100 : decode cX9_lineTwo 100 = .ok (.aload_n 0, 1) := by decide +kernel
theorem dX9_lineTwo_101 : decode cX9_lineTwo 101 = .ok (.iload 4, 2) := by decide +kernel
theorem dX9_lineTwo_103 : decode cX9_lineTwo 103 = .ok (.invokevirtual 152, 3) := by decide +kernel
theorem dX9_lineTwo_106 : decode cX9_lineTwo 106 = .ok (.sipush 255, 3) := by decide +kernel
theorem dX9_lineTwo_109 : decode cX9_lineTwo 109 = .ok (.if_icmp .eq 5, 3) := by decide +kernel
theorem dX9_lineTwo_112 : decode cX9_lineTwo 112 = .ok (.iconst 2, 1) := by decide +kernel
theorem dX9_lineTwo_113 : decode cX9_lineTwo 113 = .ok (.ireturn, 1) := by decide +kernel
theorem dX9_lineTwo_114 : decode cX9_lineTwo 114 = .ok (.aload_n 0, 1) := by decide +kernel
theorem dX9_lineTwo_115 : decode cX9_lineTwo 115 = .ok (.iload_n 3, 1) := by decide +kernel
theorem dX9_lineTwo_116 : decode cX9_lineTwo 116 = .ok (.bipush 57, 2) := by decide +kernel
theorem dX9_lineTwo_118 : decode cX9_lineTwo 118 = .ok (.if_icmp .ne 7, 3) := by decide +kernel
theorem dX9_lineTwo_121 : decode cX9_lineTwo 121 = .ok (.iconst 1, 1) := by decide +kernel
theorem dX9_lineTwo_122 : decode cX9_lineTwo 122 = .ok (.goto 4, 3) := by decide +kernel
theorem dX9_lineTwo_125 : decode cX9_lineTwo 125 = .ok (.iconst 0, 1) := by decide +kernel
theorem dX9_lineTwo_126 : decode cX9_lineTwo 126 = .ok (.putfield 155, 3) := by decide +kernel
theorem dX9_lineTwo_129 : decode cX9_lineTwo 129 = .ok (.iload_n 3, 1) := by decide +kernel
theorem dX9_lineTwo_130 : decode cX9_lineTwo 130 = .ok (.bipush 49, 2) := by decide +kernel
theorem dX9_lineTwo_132 : decode cX9_lineTwo 132 = .ok (.if_icmp .ne 36, 3) := by decide +kernel
theorem dX9_lineTwo_135 : decode cX9_lineTwo 135 = .ok (.aload_n 0, 1) := by decide +kernel
theorem dX9_lineTwo_136 : decode cX9_lineTwo 136 = .ok (.sipush 256, 3) := by decide +kernel
theorem dX9_lineTwo_139 : decode cX9_lineTwo 139 = .ok (.aload_n 0, 1) := by decide +kernel
theorem dX9_lineTwo_140 : decode cX9_lineTwo 140 = .ok (.getfield 30, 3) := by decide +kernel
theorem dX9_lineTwo_143 : decode cX9_lineTwo 143 = .ok (.iconst 1, 1) := by decide +kernel
theorem dX9_lineTwo_144 : decode cX9_lineTwo 144 = .ok (.iaload, 1) := by decide +kernel
theorem dX9_lineTwo_145 : decode cX9_lineTwo 145 = .ok (.imul, 1) := by decide +kernel
theorem dX9_lineTwo_146 : decode cX9_lineTwo 146 = .ok (.aload_n 0, 1) := by decide +kernel
theorem dX9_lineTwo_147 : decode cX9_lineTwo 147 = .ok (.getfield 30, 3) := by decide +kernel
theorem dX9_lineTwo_150 : decode cX9_lineTwo 150 = .ok (.iconst 2, 1) := by decide +kernel
theorem dX9_lineTwo_151 : decode cX9_lineTwo 151 = .ok (.iaload, 1) := by decide +kernel
theorem dX9_lineTwo_152 : decode cX9_lineTwo 152 = .ok (.iadd, 1) := by decide +kernel
theorem dX9_lineTwo_153 : decode cX9_lineTwo 153 = .ok (.iconst 3, 1) := by decide +kernel
theorem dX9_lineTwo_154 : decode cX9_lineTwo 154 = .ok (.aload_n 0, 1) := by decide +kernel
theorem dX9_lineTwo_155 : decode cX9_lineTwo 155 = .ok (.getfield 30, 3) := by decide +kernel
theorem dX9_lineTwo_158 : decode cX9_lineTwo 158 = .ok (.iconst 0, 1) := by decide +kernel
theorem dX9_lineTwo_159 : decode cX9_lineTwo 159 = .ok (.iaload, 1) := by decide +kernel
theorem dX9_lineTwo_160 : decode cX9_lineTwo 160 = .ok (.iconst 3, 1) := by decide +kernel
theorem dX9_lineTwo_161 : decode cX9_lineTwo 161 = .ok (.isub, 1) := by decide +kernel
theorem dX9_lineTwo_162 : decode cX9_lineTwo 162 = .ok (.invokevirtual 159, 3) := by decide +kernel
theorem dX9_lineTwo_165 : decode cX9_lineTwo 165 = .ok (.goto 4, 3) := by decide +kernel
theorem dX9_lineTwo_168 : decode cX9_lineTwo 168 = .ok (.iconst 0, 1) := by decide +kernel
theorem dX9_lineTwo_169 : decode cX9_lineTwo 169 = .ok (.ireturn, 1) := by decide +kernel
theorem dX9_data_0 : decode cX9_data 0 = .ok (.iload_n 3, 1) := by decide +kernel
theorem dX9_data_1 : decode cX9_data 1 = .ok (.ifCond .le 14, 3) := by decide +kernel
theorem dX9_data_4 : decode cX9_data 4 = .ok (.iload_n 1, 1) := by decide +kernel
theorem dX9_data_5 : decode cX9_data 5 = .ok (.iload_n 3, 1) := by decide +kernel
theorem dX9_data_6 : decode cX9_data 6 = .ok (.iadd, 1) := by decide +kernel
theorem dX9_data_7 : decode cX9_data 7 = .ok (.sipush 256, 3) := by decide +kernel
theorem dX9_data_10 : decode cX9_data 10 = .ok (.if_icmp .le 5, 3) := by decide +kernel
theorem dX9_data_13 : decode cX9_data 13 = .ok (.iconst 3, 1) := by decide +kernel
theorem dX9_data_14 : decode cX9_data 14 = .ok (.ireturn, 1) := by decide +kernel
theorem dX9_data_15 : decode cX9_data 15 = .ok (.iconst 0, 1) := by decide +kernel
theorem dX9_data_16 : decode cX9_data 16 = .ok (.istore 4, 2) := by decide +kernel
theorem dX9_data_18 : decode cX9_data 18 = .ok (.iload 4, 2) := by decide +kernel
theorem dX9_data_20 : decode cX9_data 20 = .ok (.iload_n 3, 1) := by decide +kernel
theorem dX9_data_21 : decode cX9_data 21 = .ok (.if_icmp .ge 26, 3) := by decide +kernel
theorem dX9_data_24 : decode cX9_data 24 = .ok (.aload_n 0, 1) := by decide +kernel
theorem dX9_data_25 : decode cX9_data 25 = .ok (.iload_n 1, 1) := by decide +kernel
theorem dX9_data_26 : decode cX9_data 26 = .ok (.iload 4, 2) := by decide +kernel
theorem dX9_data_28 : decode cX9_data 28 = .ok (.iadd, 1) := by decide +kernel
theorem dX9_data_29 : decode cX9_data 29 = .ok (.aload_n 0, 1) := by decide +kernel
theorem dX9_data_30 : decode cX9_data 30 = .ok (.getfield 30, 3) := by decide +kernel
theorem dX9_data_33 : decode cX9_data 33 = .ok (.iload_n 2, 1) := by decide +kernel
theorem dX9_data_34 : decode cX9_data 34 = .ok (.iload 4, 2) := by decide +kernel
theorem dX9_data_36 : decode cX9_data 36 = .ok (.iadd, 1) := by decide +kernel
theorem dX9_data_37 : decode cX9_data 37 = .ok (.iaload, 1) := by decide +kernel
theorem dX9_data_38 : decode cX9_data 38 = .ok (.invokevirtual 162, 3) := by decide +kernel
theorem dX9_data_41 : decode cX9_data 41 = .ok (.iinc 4 1, 3) := by decide +kernel
theorem dX9_data_44 : decode cX9_data 44 = .ok (.goto (-26), 3) := by decide +kernel
theorem dX9_data_47 : decode cX9_data 47 = .ok (.iconst 0, 1) := by decide +kernel
theorem dX9_data_48 : decode cX9_data 48 = .ok (.ireturn, 1) := by decide +kernel
theorem dX9_readLines_0 : decode cX9_readLines 0 = .ok (.iconst 0, 1) := by decide +kernel
theorem dX9_readLines_1 : decode cX9_readLines 1 = .ok (.istore_n 2, 1) := by decide +kernel
theorem dX9_readLines_2 : decode cX9_readLines 2 = .ok (.aload_n 0, 1) := by decide +kernel
theorem dX9_readLines_3 : decode cX9_readLines 3 = .ok (.iconst 0, 1) := by decide +kernel
theorem dX9_readLines_4 : decode cX9_readLines 4 = .ok (.putfield 155, 3) := by decide +kernel
theorem dX9_readLines_7 : decode cX9_readLines 7 = .ok (.iload_n 2, 1) := by decide +kernel
theorem dX9_readLines_8 : decode cX9_readLines 8 = .ok (.aload_n 0, 1) := by decide +kernel
theorem dX9_readLines_9 : decode cX9_readLines 9 = .ok (.getfield 130, 3) := by decide +kernel
theorem dX9_readLines_12 : decode cX9_readLines 12 = .ok (.if_icmp .ge 122, 3) := by decide +kernel
theorem dX9_readLines_15 : decode cX9_readLines 15 = .ok (.aload_n 0, 1) := by decide +kernel
theorem dX9_readLines_16 : decode cX9_readLines 16 = .ok (.getfield 155, 3) := by decide +kernel
theorem dX9_readLines_19 : decode cX9_readLines 19 = .ok (.ifCond .ne 115, 3) := by decide +kernel
theorem dX9_readLines_22 : decode cX9_readLines 22 = .ok (.iload_n 2, 1) := by decide +kernel
theorem dX9_readLines_23 : decode cX9_readLines 23 = .ok (.istore_n 3, 1) := by decide +kernel
theorem dX9_readLines_24 : decode cX9_readLines 24 = .ok (.iload_n 3, 1) := by decide +kernel
theorem dX9_readLines_25 : decode cX9_readLines 25 = .ok (.aload_n 0, 1) := by decide +kernel
theorem dX9_readLines_26 : decode cX9_readLines 26 = .ok (.getfield 130, 3) := by decide +kernel
theorem dX9_readLines_29 : decode cX9_readLines 29 = .ok (.if_icmp .ge 20, 3) := by decide +kernel
theorem dX9_readLines_32 : decode cX9_readLines 32 = .ok (.aload_n 0, 1) := by decide +kernel
theorem dX9_readLines_33 : decode cX9_readLines 33 = .ok (.getfield 13, 3) := by decide +kernel
theorem dX9_readLines_36 : decode cX9_readLines 36 = .ok (.iload_n 3, 1) := by decide +kernel
theorem dX9_readLines_37 : decode cX9_readLines 37 = .ok (.iaload, 1) := by decide +kernel
theorem dX9_readLines_38 : decode cX9_readLines 38 = .ok (.bipush 10, 2) := by decide +kernel
theorem dX9_readLines_40 : decode cX9_readLines 40 = .ok (.if_icmp .eq 9, 3) := by decide +kernel
theorem dX9_readLines_43 : decode cX9_readLines 43 = .ok (.iinc 3 1, 3) := by decide +kernel
theorem dX9_readLines_46 : decode cX9_readLines 46 = .ok (.goto (-22), 3) := by decide +kernel
theorem dX9_readLines_49 : decode cX9_readLines 49 = .ok (.iload_n 3, 1) := by decide +kernel
theorem dX9_readLines_50 : decode cX9_readLines 50 = .ok (.aload_n 0, 1) := by decide +kernel
theorem dX9_readLines_51 : decode cX9_readLines 51 = .ok (.getfield 130, 3) := by decide +kernel
theorem dX9_readLines_54 : decode cX9_readLines 54 = .ok (.if_icmp .ge 27, 3) := by decide +kernel
theorem dX9_readLines_57 : decode cX9_readLines 57 = .ok (.iload_n 3, 1) := by decide +kernel
theorem dX9_readLines_58 : decode cX9_readLines 58 = .ok (.iload_n 2, 1) := by decide +kernel
theorem dX9_readLines_59 : decode cX9_readLines 59 = .ok (.if_icmp .le 22, 3) := by decide +kernel
theorem dX9_readLines_62 : decode cX9_readLines 62 = .ok (.aload_n 0, 1) := by decide +kernel
theorem dX9_readLines_63 : decode cX9_readLines 63 = .ok (.getfield 13, 3) := by decide +kernel
theorem dX9_readLines_66 : decode cX9_readLines 66 = .ok (.iload_n 3, 1) := by decide +kernel
theorem dX9_readLines_67 : decode cX9_readLines 67 = .ok (.iconst 1, 1) := by decide +kernel
theorem dX9_readLines_68 : decode cX9_readLines 68 = .ok (.isub, 1) := by decide +kernel
theorem dX9_readLines_69 : decode cX9_readLines 69 = .ok (.iaload, 1) := by decide +kernel
theorem dX9_readLines_70 : decode cX9_readLines 70 = .ok (.bipush 13, 2) := by decide +kernel
theorem dX9_readLines_72 : decode cX9_readLines 72 = .ok (.if_icmp .ne 9, 3) := by decide +kernel
theorem dX9_readLines_75 : decode cX9_readLines 75 = .ok (.iload_n 3, 1) := by decide +kernel
theorem dX9_readLines_76 : decode cX9_readLines 76 = .ok (.iconst 1, 1) := by decide +kernel
theorem dX9_readLines_77 : decode cX9_readLines 77 = .ok (.isub, 1) := by decide +kernel
theorem dX9_readLines_78 : decode cX9_readLines 78 = .ok (.goto 4, 3) := by decide +kernel
theorem dX9_readLines_81 : decode cX9_readLines 81 = .ok (.iload_n 3, 1) := by decide +kernel
theorem dX9_readLines_82 : decode cX9_readLines 82 = .ok (.istore 4, 2) := by decide +kernel
theorem dX9_readLines_84 : decode cX9_readLines 84 = .ok (.iload 4, 2) := by decide +kernel
theorem dX9_readLines_86 : decode cX9_readLines 86 = .ok (.iload_n 2, 1) := by decide +kernel
theorem dX9_readLines_87 : decode cX9_readLines 87 = .ok (.if_icmp .le 40, 3) := by decide +kernel
theorem dX9_readLines_90 : decode cX9_readLines 90 = .ok (.aload_n 0, 1) := by decide +kernel
theorem dX9_readLines_91 : decode cX9_readLines 91 = .ok (.iload_n 2, 1) := by decide +kernel
theorem dX9_readLines_92 : decode cX9_readLines 92 = .ok (.putfield 20, 3) := by decide +kernel
theorem dX9_readLines_95 : decode cX9_readLines 95 = .ok (.iload_n 1, 1) := by decide +kernel
theorem dX9_readLines_96 : decode cX9_readLines 96 = .ok (.iconst 1, 1) := by decide +kernel
theorem dX9_readLines_97 : decode cX9_readLines 97 = .ok (.if_icmp .ne 13, 3) := by decide +kernel
theorem dX9_readLines_100 : decode cX9_readLines 100 = .ok (.aload_n 0, 1) := by decide +kernel
theorem dX9_readLines_101 : decode cX9_readLines 101 = .ok (.iload_n 2, 1) := by decide +kernel
theorem dX9_readLines_102 : decode cX9_readLines 102 = .ok (.iload 4, 2) := by decide +kernel
theorem dX9_readLines_104 : decode cX9_readLines 104 = .ok (.invokevirtual 166, 3) := by decide +kernel
theorem dX9_readLines_107 : decode cX9_readLines 107 = .ok (.goto 10, 3) := by decide +kernel
theorem dX9_readLines_110 : decode cX9_readLines 110 = .ok (.aload_n 0, 1) := by decide +kernel
theorem dX9_readLines_111 : decode cX9_readLines 111 = .ok (.iload_n 2, 1) := by decide +kernel
theorem dX9_readLines_112 : decode cX9_readLines 112 = .ok (.iload 4, 2) := by decide +kernel
theorem dX9_readLines_114 : decode cX9_readLines 114 = .ok (.invokevirtual 169, 3) := by decide +kernel
theorem dX9_readLines_117 : decode cX9_readLines 117 = .ok (.istore 5, 2) := by decide +kernel
theorem dX9_readLines_119 : decode cX9_readLines 119 = .ok (.iload 5, 2) := by decide +kernel
theorem dX9_readLines_121 : decode cX9_readLines 121 = .ok (.ifCond .eq 6, 3) := by decide +kernel
theorem dX9_readLines_124 : decode cX9_readLines 124 = .ok (.iload 5, 2) := by decide +kernel
theorem dX9_readLines_126 : decode cX9_readLines 126 = .ok (.ireturn, 1) := by decide +kernel
theorem dX9_readLines_127 : decode cX9_readLines 127 = .ok (.iload_n 3, 1) := by decide +kernel
theorem dX9_readLines_128 : decode cX9_readLines 128 = .ok (.iconst 1, 1) := by decide +kernel
theorem dX9_readLines_129 : decode cX9_readLines 129 = .ok (.iadd, 1) := by decide +kernel
theorem dX9_readLines_130 : decode cX9_readLines 130 = .ok (.istore_n 2, 1) := by decide +kernel
theorem dX9_readLines_131 : decode cX9_readLines 131 = .ok (.goto (-124), 3) := by decide +kernel
theorem dX9_readLines_134 : decode cX9_readLines 134 = .ok (.aload_n 0, 1) := by decide +kernel
theorem dX9_readLines_135 : decode cX9_readLines 135 = .ok (.aload_n 0, 1) := by decide +kernel
theorem dX9_readLines_136 : decode cX9_readLines 136 = .ok (.getfield 130, 3) := by decide +kernel
theorem dX9_readLines_139 : decode cX9_readLines 139 = .ok (.putfield 20, 3) := by decide +kernel
theorem dX9_readLines_142 : decode cX9_readLines 142 = .ok (.aload_n 0, 1) := by decide +kernel
theorem dX9_readLines_143 : decode cX9_readLines 143 = .ok (.getfield 155, 3) := by decide +kernel
theorem dX9_readLines_146 : decode cX9_readLines 146 = .ok (.ifCond .eq 7, 3) := by decide +kernel
theorem dX9_readLines_149 : decode cX9_readLines 149 = .ok (.iconst 0, 1) := by decide +kernel
theorem dX9_readLines_150 : decode cX9_readLines 150 = .ok (.goto 4, 3) := by decide +kernel
theorem dX9_readLines_153 : decode cX9_readLines 153 = .ok (.iconst 4, 1) := by decide +kernel
theorem dX9_readLines_154 : decode cX9_readLines 154 = .ok (.ireturn, 1) := by decide +kernel
theorem dX9_readPlain_0 : decode cX9_readPlain 0 = .ok (.aload_n 0, 1) := by decide +kernel
theorem dX9_readPlain_1 : decode cX9_readPlain 1 = .ok (.sipush 256, 3) := by decide +kernel
theorem dX9_readPlain_4 : decode cX9_readPlain 4 = .ok (.putfield 20, 3) := by decide +kernel
theorem dX9_readPlain_7 : decode cX9_readPlain 7 = .ok (.aload_n 0, 1) := by decide +kernel
theorem dX9_readPlain_8 : decode cX9_readPlain 8 = .ok (.getfield 130, 3) := by decide +kernel
theorem dX9_readPlain_11 : decode cX9_readPlain 11 = .ok (.sipush 256, 3) := by decide +kernel
theorem dX9_readPlain_14 : decode cX9_readPlain 14 = .ok (.if_icmp .le 5, 3) := by decide +kernel
theorem dX9_readPlain_17 : decode cX9_readPlain 17 = .ok (.iconst 5, 1) := by decide +kernel
theorem dX9_readPlain_18 : decode cX9_readPlain 18 = .ok (.ireturn, 1) := by decide +kernel
theorem dX9_readPlain_19 : decode cX9_readPlain 19 = .ok (.iconst 0, 1) := by decide +kernel
theorem dX9_readPlain_20 : decode cX9_readPlain 20 = .ok (.istore_n 1, 1) := by decide +kernel
theorem dX9_readPlain_21 : decode cX9_readPlain 21 = .ok (.iload_n 1, 1) := by decide +kernel
theorem dX9_readPlain_22 : decode cX9_readPlain 22 = .ok (.aload_n 0, 1) := by decide +kernel
theorem dX9_readPlain_23 : decode cX9_readPlain 23 = .ok (.getfield 130, 3) := by decide +kernel
theorem dX9_readPlain_26 : decode cX9_readPlain 26 = .ok (.if_icmp .ge 20, 3) := by decide +kernel
theorem dX9_readPlain_29 : decode cX9_readPlain 29 = .ok (.aload_n 0, 1) := by decide +kernel
theorem dX9_readPlain_30 : decode cX9_readPlain 30 = .ok (.iload_n 1, 1) := by decide +kernel
theorem dX9_readPlain_31 : decode cX9_readPlain 31 = .ok (.aload_n 0, 1) := by decide +kernel
theorem dX9_readPlain_32 : decode cX9_readPlain 32 = .ok (.getfield 13, 3) := by decide +kernel
theorem dX9_readPlain_35 : decode cX9_readPlain 35 = .ok (.iload_n 1, 1) := by decide +kernel
theorem dX9_readPlain_36 : decode cX9_readPlain 36 = .ok (.iaload, 1) := by decide +kernel
theorem dX9_readPlain_37 : decode cX9_readPlain 37 = .ok (.invokevirtual 162, 3) := by decide +kernel
theorem dX9_readPlain_40 : decode cX9_readPlain 40 = .ok (.iinc 1 1, 3) := by decide +kernel
theorem dX9_readPlain_43 : decode cX9_readPlain 43 = .ok (.goto (-22), 3) := by decide +kernel
theorem dX9_readPlain_46 : decode cX9_readPlain 46 = .ok (.iconst 0, 1) := by decide +kernel
theorem dX9_readPlain_47 : decode cX9_readPlain 47 = .ok (.ireturn, 1) := by decide +kernel
theorem dX9_file_0 : decode cX9_file 0 = .ok (.iload_n 1, 1) := by decide +kernel
theorem dX9_file_1 : decode cX9_file 1 = .ok (.iconst 0, 1) := by decide +kernel
theorem dX9_file_2 : decode cX9_file 2 = .ok (.iconst 2, 1) := by decide +kernel
theorem dX9_file_3 : decode cX9_file 3 = .ok (.invokestatic 137, 3) := by decide +kernel
theorem dX9_file_6 : decode cX9_file 6 = .ok (.ifCond .ne 5, 3) := by decide +kernel
theorem dX9_file_9 : decode cX9_file 9 = .ok (.iconst (-1), 1) := by decide +kernel
theorem dX9_file_10 : decode cX9_file 10 = .ok (.ireturn, 1) := by decide +kernel
theorem dX9_file_11 : decode cX9_file 11 = .ok (.iconst 0, 1) := by decide +kernel
theorem dX9_file_12 : decode cX9_file 12 = .ok (.istore_n 2, 1) := by decide +kernel
theorem dX9_file_13 : decode cX9_file 13 = .ok (.iload_n 2, 1) := by decide +kernel
theorem dX9_file_14 : decode cX9_file 14 = .ok (.sipush 256, 3) := by decide +kernel
theorem dX9_file_17 : decode cX9_file 17 = .ok (.if_icmp .ge 16, 3) := by decide +kernel
theorem dX9_file_20 : decode cX9_file 20 = .ok (.aload_n 0, 1) := by decide +kernel
theorem dX9_file_21 : decode cX9_file 21 = .ok (.getfield 26, 3) := by decide +kernel
theorem dX9_file_24 : decode cX9_file 24 = .ok (.iload_n 2, 1) := by decide +kernel
theorem dX9_file_25 : decode cX9_file 25 = .ok (.iconst 0, 1) := by decide +kernel
theorem dX9_file_26 : decode cX9_file 26 = .ok (.bastore, 1) := by decide +kernel
theorem dX9_file_27 : decode cX9_file 27 = .ok (.iinc 2 1, 3) := by decide +kernel
theorem dX9_file_30 : decode cX9_file 30 = .ok (.goto (-17), 3) := by decide +kernel
theorem dX9_file_33 : decode cX9_file 33 = .ok (.aload_n 0, 1) := by decide +kernel
theorem dX9_file_34 : decode cX9_file 34 = .ok (.iconst 0, 1) := by decide +kernel
theorem dX9_file_35 : decode cX9_file 35 = .ok (.putfield 145, 3) := by decide +kernel
theorem dX9_file_38 : decode cX9_file 38 = .ok (.aload_n 0, 1) := by decide +kernel
theorem dX9_file_39 : decode cX9_file 39 = .ok (.iload_n 1, 1) := by decide +kernel
theorem dX9_file_40 : decode cX9_file 40 = .ok (.ifCond .ne 10, 3) := by decide +kernel
theorem dX9_file_43 : decode cX9_file 43 = .ok (.aload_n 0, 1) := by decide +kernel
theorem dX9_file_44 : decode cX9_file 44 = .ok (.invokevirtual 172, 3) := by decide +kernel
theorem dX9_file_47 : decode cX9_file 47 = .ok (.goto 8, 3) := by decide +kernel
theorem dX9_file_50 : decode cX9_file 50 = .ok (.aload_n 0, 1) := by decide +kernel
theorem dX9_file_51 : decode cX9_file 51 = .ok (.iload_n 1, 1) := by decide +kernel
theorem dX9_file_52 : decode cX9_file 52 = .ok (.invokevirtual 176, 3) := by decide +kernel
theorem dX9_file_55 : decode cX9_file 55 = .ok (.putfield 16, 3) := by decide +kernel
theorem dX9_file_58 : decode cX9_file 58 = .ok (.aload_n 0, 1) := by decide +kernel
theorem dX9_file_59 : decode cX9_file 59 = .ok (.iconst 0, 1) := by decide +kernel
theorem dX9_file_60 : decode cX9_file 60 = .ok (.putfield 130, 3) := by decide +kernel
theorem dX9_file_63 : decode cX9_file 63 = .ok (.aload_n 0, 1) := by decide +kernel
theorem dX9_file_64 : decode cX9_file 64 = .ok (.getfield 16, 3) := by decide +kernel
theorem dX9_file_67 : decode cX9_file 67 = .ok (.ifCond .eq 5, 3) := by decide +kernel
theorem dX9_file_70 : decode cX9_file 70 = .ok (.iconst (-1), 1) := by decide +kernel
theorem dX9_file_71 : decode cX9_file 71 = .ok (.ireturn, 1) := by decide +kernel
theorem dX9_file_72 : decode cX9_file 72 = .ok (.aload_n 0, 1) := by decide +kernel
theorem dX9_file_73 : decode cX9_file 73 = .ok (.iconst (-1), 1) := by decide +kernel
theorem dX9_file_74 : decode cX9_file 74 = .ok (.putfield 20, 3) := by decide +kernel
theorem dX9_file_77 : decode cX9_file 77 = .ok (.iconst 0, 1) := by decide +kernel
theorem dX9_file_78 : decode cX9_file 78 = .ok (.istore_n 2, 1) := by decide +kernel
theorem dX9_file_79 : decode cX9_file 79 = .ok (.iload_n 2, 1) := by decide +kernel
theorem dX9_file_80 : decode cX9_file 80 = .ok (.sipush 256, 3) := by decide +kernel
theorem dX9_file_83 : decode cX9_file 83 = .ok (.if_icmp .ge 39, 3) := by decide +kernel
theorem dX9_file_86 : decode cX9_file 86 = .ok (.aload_n 0, 1) := by decide +kernel
theorem dX9_file_87 : decode cX9_file 87 = .ok (.getfield 7, 3) := by decide +kernel
theorem dX9_file_90 : decode cX9_file 90 = .ok (.iload_n 2, 1) := by decide +kernel
theorem dX9_file_91 : decode cX9_file 91 = .ok (.aload_n 0, 1) := by decide +kernel
theorem dX9_file_92 : decode cX9_file 92 = .ok (.getfield 26, 3) := by decide +kernel
theorem dX9_file_95 : decode cX9_file 95 = .ok (.iload_n 2, 1) := by decide +kernel
theorem dX9_file_96 : decode cX9_file 96 = .ok (.baload, 1) := by decide +kernel
theorem dX9_file_97 : decode cX9_file 97 = .ok (.ifCond .eq 12, 3) := by decide +kernel
theorem dX9_file_100 : decode cX9_file 100 = .ok (.aload_n 0, 1) := by decide +kernel
theorem dX9_file_101 : decode cX9_file 101 = .ok (.getfield 23, 3) := by decide +kernel
theorem dX9_file_104 : decode cX9_file 104 = .ok (.iload_n 2, 1) := by decide +kernel
theorem dX9_file_105 : decode cX9_file 105 = .ok (.iaload, 1) := by decide +kernel
theorem dX9_file_106 : decode cX9_file 106 = .ok (.goto 9, 3) := by decide +kernel
theorem dX9_file_109 : decode cX9_file 109 = .ok (.aload_n 0, 1) := by decide +kernel
theorem dX9_file_110 : decode cX9_file 110 = .ok (.getfield 7, 3) := by decide +kernel
theorem dX9_file_113 : decode cX9_file 113 = .ok (.iload_n 2, 1) := by decide +kernel
theorem dX9_file_114 : decode cX9_file 114 = .ok (.iaload, 1) := by decide +kernel
theorem dX9_file_115 : decode cX9_file 115 = .ok (.iastore, 1) := by decide +kernel
theorem dX9_file_116 : decode cX9_file 116 = .ok (.iinc 2 1, 3) := by decide +kernel
theorem dX9_file_119 : decode cX9_file 119 = .ok (.goto (-40), 3) := by decide +kernel
theorem dX9_file_122 : decode cX9_file 122 = .ok (.aload_n 0, 1) := by decide +kernel
theorem dX9_file_123 : decode cX9_file 123 = .ok (.dup, 1) := by decide +kernel
theorem dX9_file_124 : decode cX9_file 124 = .ok (.getfield 179, 3) := by decide +kernel
theorem dX9_file_127 : decode cX9_file 127 = .ok (.aload_n 0, 1) := by decide +kernel
theorem dX9_file_128 : decode cX9_file 128 = .ok (.getfield 145, 3) := by decide +kernel
theorem dX9_file_131 : decode cX9_file 131 = .ok (.i2l, 1) := by decide +kernel
theorem dX9_file_132 : decode cX9_file 132 = .ok (.ladd, 1) := by decide +kernel
theorem dX9_file_133 : decode cX9_file 133 = .ok (.putfield 179, 3) := by decide +kernel
theorem dX9_file_136 : decode cX9_file 136 = .ok (.aload_n 0, 1) := by decide +kernel
theorem dX9_file_137 : decode cX9_file 137 = .ok (.getfield 145, 3) := by decide +kernel
theorem dX9_file_140 : decode cX9_file 140 = .ok (.ireturn, 1) := by decide +kernel
theorem dX9_fault_0 : decode cX9_fault 0 = .ok (.iload_n 1, 1) := by decide +kernel
theorem dX9_fault_1 : decode cX9_fault 1 = .ok (.ifCond .ne 10, 3) := by decide +kernel
theorem dX9_fault_4 : decode cX9_fault 4 = .ok (.aload_n 0, 1) := by decide +kernel
theorem dX9_fault_5 : decode cX9_fault 5 = .ok (.getfield 16, 3) := by decide +kernel
theorem dX9_fault_8 : decode cX9_fault 8 = .ok (.goto 16, 3) := by decide +kernel
theorem dX9_fault_11 : decode cX9_fault 11 = .ok (.iload_n 1, 1) := by decide +kernel
theorem dX9_fault_12 : decode cX9_fault 12 = .ok (.iconst 1, 1) := by decide +kernel
theorem dX9_fault_13 : decode cX9_fault 13 = .ok (.if_icmp .ne 10, 3) := by decide +kernel
theorem dX9_fault_16 : decode cX9_fault 16 = .ok (.aload_n 0, 1) := by decide +kernel
theorem dX9_fault_17 : decode cX9_fault 17 = .ok (.getfield 20, 3) := by decide +kernel
theorem dX9_fault_20 : decode cX9_fault 20 = .ok (.goto 4, 3) := by decide +kernel
theorem dX9_fault_23 : decode cX9_fault 23 = .ok (.iconst (-1), 1) := by decide +kernel
theorem dX9_fault_24 : decode cX9_fault 24 = .ok (.ireturn, 1) := by decide +kernel
theorem dX9_writeSign_0 : decode cX9_writeSign 0 = .ok (.aload_n 0, 1) := by decide +kernel
theorem dX9_writeSign_1 : decode cX9_writeSign 1 = .ok (.getfield 13, 3) := by decide +kernel
theorem dX9_writeSign_4 : decode cX9_writeSign 4 = .ok (.aload_n 0, 1) := by decide +kernel
theorem dX9_writeSign_5 : decode cX9_writeSign 5 = .ok (.getfield 130, 3) := by decide +kernel
theorem dX9_writeSign_8 : decode cX9_writeSign 8 = .ok (.iload_n 1, 1) := by decide +kernel
theorem dX9_writeSign_9 : decode cX9_writeSign 9 = .ok (.iastore, 1) := by decide +kernel
theorem dX9_writeSign_10 : decode cX9_writeSign 10 = .ok (.aload_n 0, 1) := by decide +kernel
theorem dX9_writeSign_11 : decode cX9_writeSign 11 = .ok (.dup, 1) := by decide +kernel
theorem dX9_writeSign_12 : decode cX9_writeSign 12 = .ok (.getfield 130, 3) := by decide +kernel
theorem dX9_writeSign_15 : decode cX9_writeSign 15 = .ok (.iconst 1, 1) := by decide +kernel
theorem dX9_writeSign_16 : decode cX9_writeSign 16 = .ok (.iadd, 1) := by decide +kernel
theorem dX9_writeSign_17 : decode cX9_writeSign 17 = .ok (.putfield 130, 3) := by decide +kernel
theorem dX9_writeSign_20 : decode cX9_writeSign 20 = .ok (.return_, 1) := by decide +kernel
theorem dX9_writeByte_0 : decode cX9_writeByte 0 = .ok (.iconst 4, 1) := by decide +kernel
theorem dX9_writeByte_1 : decode cX9_writeByte 1 = .ok (.istore_n 2, 1) := by decide +kernel
theorem dX9_writeByte_2 : decode cX9_writeByte 2 = .ok (.iload_n 2, 1) := by decide +kernel
theorem dX9_writeByte_3 : decode cX9_writeByte 3 = .ok (.ifCond .lt 40, 3) := by decide +kernel
theorem dX9_writeByte_6 : decode cX9_writeByte 6 = .ok (.iload_n 1, 1) := by decide +kernel
theorem dX9_writeByte_7 : decode cX9_writeByte 7 = .ok (.iload_n 2, 1) := by decide +kernel
theorem dX9_writeByte_8 : decode cX9_writeByte 8 = .ok (.ishr, 1) := by decide +kernel
theorem dX9_writeByte_9 : decode cX9_writeByte 9 = .ok (.bipush 15, 2) := by decide +kernel
theorem dX9_writeByte_11 : decode cX9_writeByte 11 = .ok (.iand, 1) := by decide +kernel
theorem dX9_writeByte_12 : decode cX9_writeByte 12 = .ok (.istore_n 3, 1) := by decide +kernel
theorem dX9_writeByte_13 : decode cX9_writeByte 13 = .ok (.aload_n 0, 1) := by decide +kernel
theorem dX9_writeByte_14 : decode cX9_writeByte 14 = .ok (.iload_n 3, 1) := by decide +kernel
theorem dX9_writeByte_15 : decode cX9_writeByte 15 = .ok (.bipush 10, 2) := by decide +kernel
theorem dX9_writeByte_17 : decode cX9_writeByte 17 = .ok (.if_icmp .ge 10, 3) := by decide +kernel
theorem dX9_writeByte_20 : decode cX9_writeByte 20 = .ok (.bipush 48, 2) := by decide +kernel
theorem dX9_writeByte_22 : decode cX9_writeByte 22 = .ok (.iload_n 3, 1) := by decide +kernel
theorem dX9_writeByte_23 : decode cX9_writeByte 23 = .ok (.iadd, 1) := by decide +kernel
theorem dX9_writeByte_24 : decode cX9_writeByte 24 = .ok (.goto 10, 3) := by decide +kernel
theorem dX9_writeByte_27 : decode cX9_writeByte 27 = .ok (.bipush 65, 2) := by decide +kernel
theorem dX9_writeByte_29 : decode cX9_writeByte 29 = .ok (.iload_n 3, 1) := by decide +kernel
theorem dX9_writeByte_30 : decode cX9_writeByte 30 = .ok (.iadd, 1) := by decide +kernel
theorem dX9_writeByte_31 : decode cX9_writeByte 31 = .ok (.bipush 10, 2) := by decide +kernel
theorem dX9_writeByte_33 : decode cX9_writeByte 33 = .ok (.isub, 1) := by decide +kernel
theorem dX9_writeByte_34 : decode cX9_writeByte 34 = .ok (.invokevirtual 183, 3) := by decide +kernel
theorem dX9_writeByte_37 : decode cX9_writeByte 37 = .ok (.iinc 2 (-4), 3) := by decide +kernel
theorem dX9_writeByte_40 : decode cX9_writeByte 40 = .ok (.goto (-38), 3) := by decide +kernel
theorem dX9_writeByte_43 : decode cX9_writeByte 43 = .ok (.aload_n 0, 1) := by decide +kernel
theorem dX9_writeByte_44 : decode cX9_writeByte 44 = .ok (.dup, 1) := by decide +kernel
theorem dX9_writeByte_45 : decode cX9_writeByte 45 = .ok (.getfield 186, 3) := by decide +kernel
theorem dX9_writeByte_48 : decode cX9_writeByte 48 = .ok (.iload_n 1, 1) := by decide +kernel
theorem dX9_writeByte_49 : decode cX9_writeByte 49 = .ok (.iadd, 1) := by decide +kernel
theorem dX9_writeByte_50 : decode cX9_writeByte 50 = .ok (.putfield 186, 3) := by decide +kernel
theorem dX9_writeByte_53 : decode cX9_writeByte 53 = .ok (.return_, 1) := by decide +kernel
theorem dX9_writeLine_0 : decode cX9_writeLine 0 = .ok (.aload_n 0, 1) := by decide +kernel
theorem dX9_writeLine_1 : decode cX9_writeLine 1 = .ok (.iconst 0, 1) := by decide +kernel
theorem dX9_writeLine_2 : decode cX9_writeLine 2 = .ok (.putfield 186, 3) := by decide +kernel
theorem dX9_writeLine_5 : decode cX9_writeLine 5 = .ok (.aload_n 0, 1) := by decide +kernel
theorem dX9_writeLine_6 : decode cX9_writeLine 6 = .ok (.iload_n 1, 1) := by decide +kernel
theorem dX9_writeLine_7 : decode cX9_writeLine 7 = .ok (.iconst 1, 1) := by decide +kernel
theorem dX9_writeLine_8 : decode cX9_writeLine 8 = .ok (.if_icmp .ne 8, 3) := by decide +kernel
theorem dX9_writeLine_11 : decode cX9_writeLine 11 = .ok (.bipush 58, 2) := by decide +kernel
theorem dX9_writeLine_13 : decode cX9_writeLine 13 = .ok (.goto 5, 3) := by decide +kernel
theorem dX9_writeLine_16 : decode cX9_writeLine 16 = .ok (.bipush 83, 2) := by decide +kernel
theorem dX9_writeLine_18 : decode cX9_writeLine 18 = .ok (.invokevirtual 183, 3) := by decide +kernel
theorem dX9_writeLine_21 : decode cX9_writeLine 21 = .ok (.iload_n 1, 1) := by decide +kernel
theorem dX9_writeLine_22 : decode cX9_writeLine 22 = .ok (.iconst 2, 1) := by decide +kernel
theorem dX9_writeLine_23 : decode cX9_writeLine 23 = .ok (.if_icmp .ne 11, 3) := by decide +kernel
theorem dX9_writeLine_26 : decode cX9_writeLine 26 = .ok (.aload_n 0, 1) := by decide +kernel
theorem dX9_writeLine_27 : decode cX9_writeLine 27 = .ok (.bipush 48, 2) := by decide +kernel
theorem dX9_writeLine_29 : decode cX9_writeLine 29 = .ok (.iload_n 2, 1) := by decide +kernel
theorem dX9_writeLine_30 : decode cX9_writeLine 30 = .ok (.iadd, 1) := by decide +kernel
theorem dX9_writeLine_31 : decode cX9_writeLine 31 = .ok (.invokevirtual 183, 3) := by decide +kernel
theorem dX9_writeLine_34 : decode cX9_writeLine 34 = .ok (.aload_n 0, 1) := by decide +kernel
theorem dX9_writeLine_35 : decode cX9_writeLine 35 = .ok (.iload_n 1, 1) := by decide +kernel
theorem dX9_writeLine_36 : decode cX9_writeLine 36 = .ok (.iconst 1, 1) := by decide +kernel
theorem dX9_writeLine_37 : decode cX9_writeLine 37 = .ok (.if_icmp .ne 8, 3) := by decide +kernel
theorem dX9_writeLine_40 : decode cX9_writeLine 40 = .ok (.iload 4, 2) := by decide +kernel
theorem dX9_writeLine_42 : decode cX9_writeLine 42 = .ok (.goto 7, 3) := by decide +kernel
theorem dX9_writeLine_45 : decode cX9_writeLine 45 = .ok (.iload 4, 2) := by decide +kernel
theorem dX9_writeLine_47 : decode cX9_writeLine 47 = .ok (.iconst 3, 1) := by decide +kernel
theorem dX9_writeLine_48 : decode cX9_writeLine 48 = .ok (.iadd, 1) := by decide +kernel
theorem dX9_writeLine_49 : decode cX9_writeLine 49 = .ok (.invokevirtual 189, 3) := by decide +kernel
theorem dX9_writeLine_52 : decode cX9_writeLine 52 = .ok (.aload_n 0, 1) := by decide +kernel
theorem dX9_writeLine_53 : decode cX9_writeLine 53 = .ok (.iload_n 3, 1) := by decide +kernel
theorem dX9_writeLine_54 : decode cX9_writeLine 54 = .ok (.sipush 256, 3) := by decide +kernel
theorem dX9_writeLine_57 : decode cX9_writeLine 57 = .ok (.idiv, 1) := by decide +kernel
theorem dX9_writeLine_58 : decode cX9_writeLine 58 = .ok (.invokevirtual 189, 3) := by decide +kernel
theorem dX9_writeLine_61 : decode cX9_writeLine 61 = .ok (.aload_n 0, 1) := by decide +kernel
theorem dX9_writeLine_62 : decode cX9_writeLine 62 = .ok (.iload_n 3, 1) := by decide +kernel
theorem dX9_writeLine_63 : decode cX9_writeLine 63 = .ok (.sipush 256, 3) := by decide +kernel
theorem dX9_writeLine_66 : decode cX9_writeLine 66 = .ok (.irem, 1) := by decide +kernel
theorem dX9_writeLine_67 : decode cX9_writeLine 67 = .ok (.invokevirtual 189, 3) := by decide +kernel
theorem dX9_writeLine_70 : decode cX9_writeLine 70 = .ok (.iload_n 1, 1) := by decide +kernel
theorem dX9_writeLine_71 : decode cX9_writeLine 71 = .ok (.iconst 1, 1) := by decide +kernel
theorem dX9_writeLine_72 : decode cX9_writeLine 72 = .ok (.if_icmp .ne 8, 3) := by decide +kernel
theorem dX9_writeLine_75 : decode cX9_writeLine 75 = .ok (.aload_n 0, 1) := by decide +kernel
theorem dX9_writeLine_76 : decode cX9_writeLine 76 = .ok (.iload_n 2, 1) := by decide +kernel
theorem dX9_writeLine_77 : decode cX9_writeLine 77 = .ok (.invokevirtual 189, 3) := by decide +kernel
theorem dX9_writeLine_80 : decode cX9_writeLine 80 = .ok (.iconst 0, 1) := by decide +kernel
theorem dX9_writeLine_81 : decode cX9_writeLine 81 = .ok (.istore 5, 2) := by decide +kernel
theorem dX9_writeLine_83 : decode cX9_writeLine 83 = .ok (.iload 5, 2) := by decide +kernel
theorem dX9_writeLine_85 : decode cX9_writeLine 85 = .ok (.iload 4, 2) := by decide +kernel
theorem dX9_writeLine_87 : decode cX9_writeLine 87 = .ok (.if_icmp .ge 22, 3) := by decide +kernel
theorem dX9_writeLine_90 : decode cX9_writeLine 90 = .ok (.aload_n 0, 1) := by decide +kernel
theorem dX9_writeLine_91 : decode cX9_writeLine 91 = .ok (.aload_n 0, 1) := by decide +kernel
theorem dX9_writeLine_92 : decode cX9_writeLine 92 = .ok (.getfield 7, 3) := by decide +kernel
theorem dX9_writeLine_95 : decode cX9_writeLine 95 = .ok (.iload_n 3, 1) := by decide +kernel
theorem dX9_writeLine_96 : decode cX9_writeLine 96 = .ok (.iload 5, 2) := by decide +kernel
theorem dX9_writeLine_98 : decode cX9_writeLine 98 = .ok (.iadd, 1) := by decide +kernel
theorem dX9_writeLine_99 : decode cX9_writeLine 99 = .ok (.iaload, 1) := by decide +kernel
theorem dX9_writeLine_100 : decode cX9_writeLine 100 = .ok (.invokevirtual 189, 3) := by decide +kernel
theorem dX9_writeLine_103 : decode cX9_writeLine 103 = .ok (.iinc 5 1, 3) := by decide +kernel
theorem dX9_writeLine_106 : decode cX9_writeLine 106 = .ok (.goto (-23), 3) := by decide +kernel
theorem dX9_writeLine_109 : decode cX9_writeLine 109 = .ok (.aload_n 0, 1) := by decide +kernel
theorem dX9_writeLine_110 : decode cX9_writeLine 110 = .ok (.iload_n 1, 1) := by decide +kernel
theorem dX9_writeLine_111 : decode cX9_writeLine 111 = .ok (.iconst 1, 1) := by decide +kernel
theorem dX9_writeLine_112 : decode cX9_writeLine 112 = .ok (.if_icmp .ne 18, 3) := by decide +kernel
theorem dX9_writeLine_115 : decode cX9_writeLine 115 = .ok (.sipush 256, 3) := by decide +kernel
theorem dX9_writeLine_118 : decode cX9_writeLine 118 = .ok (.aload_n 0, 1) := by decide +kernel
theorem dX9_writeLine_119 : decode cX9_writeLine 119 = .ok (.getfield 186, 3) := by decide +kernel
theorem dX9_writeLine_122 : decode cX9_writeLine 122 = .ok (.sipush 256, 3) := by decide +kernel
theorem dX9_writeLine_125 : decode cX9_writeLine 125 = .ok (.irem, 1) := by decide +kernel
theorem dX9_writeLine_126 : decode cX9_writeLine 126 = .ok (.isub, 1) := by decide +kernel
theorem dX9_writeLine_127 : decode cX9_writeLine 127 = .ok (.goto 15, 3) := by decide +kernel
theorem dX9_writeLine_130 : decode cX9_writeLine 130 = .ok (.sipush 255, 3) := by decide +kernel
theorem dX9_writeLine_133 : decode cX9_writeLine 133 = .ok (.aload_n 0, 1) := by decide +kernel
theorem dX9_writeLine_134 : decode cX9_writeLine 134 = .ok (.getfield 186, 3) := by decide +kernel
theorem dX9_writeLine_137 : decode cX9_writeLine 137 = .ok (.sipush 256, 3) := by decide +kernel
theorem dX9_writeLine_140 : decode cX9_writeLine 140 = .ok (.irem, 1) := by decide +kernel
theorem dX9_writeLine_141 : decode cX9_writeLine 141 = .ok (.isub, 1) := by decide +kernel
theorem dX9_writeLine_142 : decode cX9_writeLine 142 = .ok (.sipush 256, 3) := by decide +kernel
theorem dX9_writeLine_145 : decode cX9_writeLine 145 = .ok (.irem, 1) := by decide +kernel
theorem dX9_writeLine_146 : decode cX9_writeLine 146 = .ok (.invokevirtual 189, 3) := by decide +kernel
theorem dX9_writeLine_149 : decode cX9_writeLine 149 = .ok (.aload_n 0, 1) := by decide +kernel
theorem dX9_writeLine_150 : decode cX9_writeLine 150 = .ok (.bipush 10, 2) := by decide +kernel
theorem dX9_writeLine_152 : decode cX9_writeLine 152 = .ok (.invokevirtual 183, 3) := by decide +kernel
theorem dX9_writeLine_155 : decode cX9_writeLine 155 = .ok (.return_, 1) := by decide +kernel
theorem dX9_write_0 : decode cX9_write 0 = .ok (.iload_n 1, 1) := by decide +kernel
theorem dX9_write_1 : decode cX9_write 1 = .ok (.iconst 1, 1) := by decide +kernel
theorem dX9_write_2 : decode cX9_write 2 = .ok (.iconst 2, 1) := by decide +kernel
theorem dX9_write_3 : decode cX9_write 3 = .ok (.invokestatic 137, 3) := by decide +kernel
theorem dX9_write_6 : decode cX9_write 6 = .ok (.ifCond .eq 25, 3) := by decide +kernel
theorem dX9_write_9 : decode cX9_write 9 = .ok (.iload_n 2, 1) := by decide +kernel
theorem dX9_write_10 : decode cX9_write 10 = .ok (.iconst 0, 1) := by decide +kernel
theorem dX9_write_11 : decode cX9_write 11 = .ok (.sipush 255, 3) := by decide +kernel
theorem dX9_write_14 : decode cX9_write 14 = .ok (.invokestatic 137, 3) := by decide +kernel
theorem dX9_write_17 : decode cX9_write 17 = .ok (.ifCond .eq 14, 3) := by decide +kernel
theorem dX9_write_20 : decode cX9_write 20 = .ok (.iload_n 3, 1) := by decide +kernel
theorem dX9_write_21 : decode cX9_write 21 = .ok (.iload_n 2, 1) := by decide +kernel
theorem dX9_write_22 : decode cX9_write 22 = .ok (.sipush 255, 3) := by decide +kernel
theorem dX9_write_25 : decode cX9_write 25 = .ok (.invokestatic 137, 3) := by decide +kernel
theorem dX9_write_28 : decode cX9_write 28 = .ok (.ifCond .ne 5, 3) := by decide +kernel
theorem dX9_write_31 : decode cX9_write 31 = .ok (.iconst (-1), 1) := by decide +kernel
theorem dX9_write_32 : decode cX9_write 32 = .ok (.ireturn, 1) := by decide +kernel
theorem dX9_write_33 : decode cX9_write 33 = .ok (.iload_n 3, 1) := by decide +kernel
theorem dX9_write_34 : decode cX9_write 34 = .ok (.iload_n 2, 1) := by decide +kernel
theorem dX9_write_35 : decode cX9_write 35 = .ok (.isub, 1) := by decide +kernel
theorem dX9_write_36 : decode cX9_write 36 = .ok (.iconst 1, 1) := by decide +kernel
theorem dX9_write_37 : decode cX9_write 37 = .ok (.iadd, 1) := by decide +kernel
theorem dX9_write_38 : decode cX9_write 38 = .ok (.istore 4, 2) := by decide +kernel
theorem dX9_write_40 : decode cX9_write 40 = .ok (.iload 4, 2) := by decide +kernel
theorem dX9_write_42 : decode cX9_write 42 = .ok (.bipush 15, 2) := by decide +kernel
theorem dX9_write_44 : decode cX9_write 44 = .ok (.iadd, 1) := by decide +kernel
theorem dX9_write_45 : decode cX9_write 45 = .ok (.bipush 16, 2) := by decide +kernel
theorem dX9_write_47 : decode cX9_write 47 = .ok (.idiv, 1) := by decide +kernel
theorem dX9_write_48 : decode cX9_write 48 = .ok (.istore 5, 2) := by decide +kernel
theorem dX9_write_50 : decode cX9_write 50 = .ok (.iconst 2, 1) := by decide +kernel
theorem dX9_write_51 : decode cX9_write 51 = .ok (.iload 4, 2) := by decide +kernel
theorem dX9_write_53 : decode cX9_write 53 = .ok (.imul, 1) := by decide +kernel
theorem dX9_write_54 : decode cX9_write 54 = .ok (.iload 5, 2) := by decide +kernel
theorem dX9_write_56 : decode cX9_write 56 = .ok (.iload_n 1, 1) := by decide +kernel
theorem dX9_write_57 : decode cX9_write 57 = .ok (.iconst 1, 1) := by decide +kernel
theorem dX9_write_58 : decode cX9_write 58 = .ok (.if_icmp .ne 8, 3) := by decide +kernel
theorem dX9_write_61 : decode cX9_write 61 = .ok (.bipush 12, 2) := by decide +kernel
theorem dX9_write_63 : decode cX9_write 63 = .ok (.goto 5, 3) := by decide +kernel
theorem dX9_write_66 : decode cX9_write 66 = .ok (.bipush 11, 2) := by decide +kernel
theorem dX9_write_68 : decode cX9_write 68 = .ok (.imul, 1) := by decide +kernel
theorem dX9_write_69 : decode cX9_write 69 = .ok (.iadd, 1) := by decide +kernel
theorem dX9_write_70 : decode cX9_write 70 = .ok (.iload_n 1, 1) := by decide +kernel
theorem dX9_write_71 : decode cX9_write 71 = .ok (.iconst 1, 1) := by decide +kernel
theorem dX9_write_72 : decode cX9_write 72 = .ok (.if_icmp .ne 8, 3) := by decide +kernel
theorem dX9_write_75 : decode cX9_write 75 = .ok (.bipush 12, 2) := by decide +kernel
theorem dX9_write_77 : decode cX9_write 77 = .ok (.goto 5, 3) := by decide +kernel
theorem dX9_write_80 : decode cX9_write 80 = .ok (.bipush 11, 2) := by decide +kernel
theorem dX9_write_82 : decode cX9_write 82 = .ok (.iadd, 1) := by decide +kernel
theorem dX9_write_83 : decode cX9_write 83 = .ok (.istore 6, 2) := by decide +kernel
theorem dX9_write_85 : decode cX9_write 85 = .ok (.iload 6, 2) := by decide +kernel
theorem dX9_write_87 : decode cX9_write 87 = .ok (.sipush 400, 3) := by decide +kernel
theorem dX9_write_90 : decode cX9_write 90 = .ok (.if_icmp .le 5, 3) := by decide +kernel
theorem dX9_write_93 : decode cX9_write 93 = .ok (.iconst (-1), 1) := by decide +kernel
theorem dX9_write_94 : decode cX9_write 94 = .ok (.ireturn, 1) := by decide +kernel
theorem dX9_write_95 : decode cX9_write 95 = .ok (.aload_n 0, 1) := by decide +kernel
theorem dX9_write_96 : decode cX9_write 96 = .ok (.iconst 0, 1) := by decide +kernel
theorem dX9_write_97 : decode cX9_write 97 = .ok (.putfield 130, 3) := by decide +kernel
theorem dX9_write_100 : decode cX9_write 100 = .ok (.iload_n 2, 1) := by decide +kernel
theorem dX9_write_101 : decode cX9_write 101 = .ok (.istore 7, 2) := by decide +kernel
theorem dX9_write_103 : decode cX9_write 103 = .ok (.iload 7, 2) := by decide +kernel
theorem dX9_write_105 : decode cX9_write 105 = .ok (.iload_n 3, 1) := by decide +kernel
theorem dX9_write_106 : decode cX9_write 106 = .ok (.if_icmp .gt 46, 3) := by decide +kernel
theorem dX9_write_109 : decode cX9_write 109 = .ok (.aload_n 0, 1) := by decide +kernel
theorem dX9_write_110 : decode cX9_write 110 = .ok (.iload_n 1, 1) := by decide +kernel
theorem dX9_write_111 : decode cX9_write 111 = .ok (.iload_n 1, 1) := by decide +kernel
theorem dX9_write_112 : decode cX9_write 112 = .ok (.iconst 1, 1) := by decide +kernel
theorem dX9_write_113 : decode cX9_write 113 = .ok (.if_icmp .ne 7, 3) := by decide +kernel
theorem dX9_write_116 : decode cX9_write 116 = .ok (.iconst 0, 1) := by decide +kernel
theorem dX9_write_117 : decode cX9_write 117 = .ok (.goto 4, 3) := by decide +kernel
theorem dX9_write_120 : decode cX9_write 120 = .ok (.iconst 1, 1) := by decide +kernel
theorem dX9_write_121 : decode cX9_write 121 = .ok (.iload 7, 2) := by decide +kernel
theorem dX9_write_123 : decode cX9_write 123 = .ok (.iload_n 3, 1) := by decide +kernel
theorem dX9_write_124 : decode cX9_write 124 = .ok (.iload 7, 2) := by decide +kernel
theorem dX9_write_126 : decode cX9_write 126 = .ok (.isub, 1) := by decide +kernel
theorem dX9_write_127 : decode cX9_write 127 = .ok (.bipush 16, 2) := by decide +kernel
theorem dX9_write_129 : decode cX9_write 129 = .ok (.if_icmp .ge 12, 3) := by decide +kernel
theorem dX9_write_132 : decode cX9_write 132 = .ok (.iload_n 3, 1) := by decide +kernel
theorem dX9_write_133 : decode cX9_write 133 = .ok (.iload 7, 2) := by decide +kernel
theorem dX9_write_135 : decode cX9_write 135 = .ok (.isub, 1) := by decide +kernel
theorem dX9_write_136 : decode cX9_write 136 = .ok (.iconst 1, 1) := by decide +kernel
theorem dX9_write_137 : decode cX9_write 137 = .ok (.iadd, 1) := by decide +kernel
theorem dX9_write_138 : decode cX9_write 138 = .ok (.goto 5, 3) := by decide +kernel
theorem dX9_write_141 : decode cX9_write 141 = .ok (.bipush 16, 2) := by decide +kernel
theorem dX9_write_143 : decode cX9_write 143 = .ok (.invokevirtual 192, 3) := by decide +kernel
theorem dX9_write_146 : decode cX9_write 146 = .ok (.iinc 7 16, 3) := by decide +kernel
theorem dX9_write_149 : decode cX9_write 149 = .ok (.goto (-46), 3) := by decide +kernel
theorem dX9_write_152 : decode cX9_write 152 = .ok (.aload_n 0, 1) := by decide +kernel
theorem dX9_write_153 : decode cX9_write 153 = .ok (.iload_n 1, 1) := by decide +kernel
theorem dX9_write_154 : decode cX9_write 154 = .ok (.iload_n 1, 1) := by decide +kernel
theorem dX9_write_155 : decode cX9_write 155 = .ok (.iconst 1, 1) := by decide +kernel
theorem dX9_write_156 : decode cX9_write 156 = .ok (.if_icmp .ne 7, 3) := by decide +kernel
theorem dX9_write_159 : decode cX9_write 159 = .ok (.iconst 1, 1) := by decide +kernel
theorem dX9_write_160 : decode cX9_write 160 = .ok (.goto 5, 3) := by decide +kernel
theorem dX9_write_163 : decode cX9_write 163 = .ok (.bipush 9, 2) := by decide +kernel
theorem dX9_write_165 : decode cX9_write 165 = .ok (.iconst 0, 1) := by decide +kernel
theorem dX9_write_166 : decode cX9_write 166 = .ok (.iconst 0, 1) := by decide +kernel
theorem dX9_write_167 : decode cX9_write 167 = .ok (.invokevirtual 192, 3) := by decide +kernel
theorem dX9_write_170 : decode cX9_write 170 = .ok (.aload_n 0, 1) := by decide +kernel
theorem dX9_write_171 : decode cX9_write 171 = .ok (.getfield 130, 3) := by decide +kernel
theorem dX9_write_174 : decode cX9_write 174 = .ok (.ireturn, 1) := by decide +kernel
theorem dX9_isChip_0 : decode cX9_isChip 0 = .ok (.iload_n 1, 1) := by decide +kernel
theorem dX9_isChip_1 : decode cX9_isChip 1 = .ok (.iconst 0, 1) := by decide +kernel
theorem dX9_isChip_2 : decode cX9_isChip 2 = .ok (.aload_n 0, 1) := by decide +kernel
theorem dX9_isChip_3 : decode cX9_isChip 3 = .ok (.getfield 196, 3) := by decide +kernel
theorem dX9_isChip_6 : decode cX9_isChip 6 = .ok (.iconst 1, 1) := by decide +kernel
theorem dX9_isChip_7 : decode cX9_isChip 7 = .ok (.isub, 1) := by decide +kernel
theorem dX9_isChip_8 : decode cX9_isChip 8 = .ok (.invokestatic 137, 3) := by decide +kernel
theorem dX9_isChip_11 : decode cX9_isChip 11 = .ok (.ireturn, 1) := by decide +kernel
theorem dX9_chip_0 : decode cX9_chip 0 = .ok (.iload_n 1, 1) := by decide +kernel
theorem dX9_chip_1 : decode cX9_chip 1 = .ok (.bipush 8, 2) := by decide +kernel
theorem dX9_chip_3 : decode cX9_chip 3 = .ok (.bipush 64, 2) := by decide +kernel
theorem dX9_chip_5 : decode cX9_chip 5 = .ok (.invokestatic 137, 3) := by decide +kernel
theorem dX9_chip_8 : decode cX9_chip 8 = .ok (.ifCond .eq 44, 3) := by decide +kernel
theorem dX9_chip_11 : decode cX9_chip 11 = .ok (.iload_n 1, 1) := by decide +kernel
theorem dX9_chip_12 : decode cX9_chip 12 = .ok (.bipush 8, 2) := by decide +kernel
theorem dX9_chip_14 : decode cX9_chip 14 = .ok (.irem, 1) := by decide +kernel
theorem dX9_chip_15 : decode cX9_chip 15 = .ok (.ifCond .ne 37, 3) := by decide +kernel
theorem dX9_chip_18 : decode cX9_chip 18 = .ok (.iload_n 2, 1) := by decide +kernel
theorem dX9_chip_19 : decode cX9_chip 19 = .ok (.iconst 0, 1) := by decide +kernel
theorem dX9_chip_20 : decode cX9_chip 20 = .ok (.sipush 255, 3) := by decide +kernel
theorem dX9_chip_23 : decode cX9_chip 23 = .ok (.invokestatic 137, 3) := by decide +kernel
theorem dX9_chip_26 : decode cX9_chip 26 = .ok (.ifCond .eq 26, 3) := by decide +kernel
theorem dX9_chip_29 : decode cX9_chip 29 = .ok (.iload 4, 2) := by decide +kernel
theorem dX9_chip_31 : decode cX9_chip 31 = .ok (.iconst 1, 1) := by decide +kernel
theorem dX9_chip_32 : decode cX9_chip 32 = .ok (.bipush 30, 2) := by decide +kernel
theorem dX9_chip_34 : decode cX9_chip 34 = .ok (.invokestatic 137, 3) := by decide +kernel
theorem dX9_chip_37 : decode cX9_chip 37 = .ok (.ifCond .eq 15, 3) := by decide +kernel
theorem dX9_chip_40 : decode cX9_chip 40 = .ok (.iload 5, 2) := by decide +kernel
theorem dX9_chip_42 : decode cX9_chip 42 = .ok (.iload 4, 2) := by decide +kernel
theorem dX9_chip_44 : decode cX9_chip 44 = .ok (.bipush 30, 2) := by decide +kernel
theorem dX9_chip_46 : decode cX9_chip 46 = .ok (.invokestatic 137, 3) := by decide +kernel
theorem dX9_chip_49 : decode cX9_chip 49 = .ok (.ifCond .ne 7, 3) := by decide +kernel
theorem dX9_chip_52 : decode cX9_chip 52 = .ok (.iconst 1, 1) := by decide +kernel
theorem dX9_chip_53 : decode cX9_chip 53 = .ok (.goto 4, 3) := by decide +kernel
theorem dX9_chip_56 : decode cX9_chip 56 = .ok (.iconst 0, 1) := by decide +kernel
theorem dX9_chip_57 : decode cX9_chip 57 = .ok (.istore 9, 2) := by decide +kernel
theorem dX9_chip_59 : decode cX9_chip 59 = .ok (.iload 9, 2) := by decide +kernel
theorem dX9_chip_61 : decode cX9_chip 61 = .ok (.ifCond .ne 44, 3) := by decide +kernel
theorem dX9_chip_64 : decode cX9_chip 64 = .ok (.iload 6, 2) := by decide +kernel
theorem dX9_chip_66 : decode cX9_chip 66 = .ok (.iconst 1, 1) := by decide +kernel
theorem dX9_chip_67 : decode cX9_chip 67 = .ok (.sipush 200, 3) := by decide +kernel
theorem dX9_chip_70 : decode cX9_chip 70 = .ok (.invokestatic 137, 3) := by decide +kernel
theorem dX9_chip_73 : decode cX9_chip 73 = .ok (.ifCond .eq 32, 3) := by decide +kernel
theorem dX9_chip_76 : decode cX9_chip 76 = .ok (.iload 7, 2) := by decide +kernel
theorem dX9_chip_78 : decode cX9_chip 78 = .ok (.iconst 0, 1) := by decide +kernel
theorem dX9_chip_79 : decode cX9_chip 79 = .ok (.iconst 5, 1) := by decide +kernel
theorem dX9_chip_80 : decode cX9_chip 80 = .ok (.invokestatic 137, 3) := by decide +kernel
theorem dX9_chip_83 : decode cX9_chip 83 = .ok (.ifCond .eq 22, 3) := by decide +kernel
theorem dX9_chip_86 : decode cX9_chip 86 = .ok (.iload 8, 2) := by decide +kernel
theorem dX9_chip_88 : decode cX9_chip 88 = .ok (.iconst 0, 1) := by decide +kernel
theorem dX9_chip_89 : decode cX9_chip 89 = .ok (.bipush 50, 2) := by decide +kernel
theorem dX9_chip_91 : decode cX9_chip 91 = .ok (.invokestatic 137, 3) := by decide +kernel
theorem dX9_chip_94 : decode cX9_chip 94 = .ok (.ifCond .eq 11, 3) := by decide +kernel
theorem dX9_chip_97 : decode cX9_chip 97 = .ok (.aload_n 0, 1) := by decide +kernel
theorem dX9_chip_98 : decode cX9_chip 98 = .ok (.getfield 196, 3) := by decide +kernel
theorem dX9_chip_101 : decode cX9_chip 101 = .ok (.iconst 4, 1) := by decide +kernel
theorem dX9_chip_102 : decode cX9_chip 102 = .ok (.if_icmp .ne 5, 3) := by decide +kernel
theorem dX9_chip_105 : decode cX9_chip 105 = .ok (.iconst (-1), 1) := by decide +kernel
theorem dX9_chip_106 : decode cX9_chip 106 = .ok (.ireturn, 1) := by decide +kernel
theorem dX9_chip_107 : decode cX9_chip 107 = .ok (.aload_n 0, 1) := by decide +kernel
theorem dX9_chip_108 : decode cX9_chip 108 = .ok (.getfield 33, 3) := by decide +kernel
theorem dX9_chip_111 : decode cX9_chip 111 = .ok (.aload_n 0, 1) := by decide +kernel
theorem dX9_chip_112 : decode cX9_chip 112 = .ok (.getfield 196, 3) := by decide +kernel
theorem dX9_chip_115 : decode cX9_chip 115 = .ok (.iload_n 1, 1) := by decide +kernel
theorem dX9_chip_116 : decode cX9_chip 116 = .ok (.iastore, 1) := by decide +kernel
theorem dX9_chip_117 : decode cX9_chip 117 = .ok (.aload_n 0, 1) := by decide +kernel
theorem dX9_chip_118 : decode cX9_chip 118 = .ok (.getfield 36, 3) := by decide +kernel
theorem dX9_chip_121 : decode cX9_chip 121 = .ok (.aload_n 0, 1) := by decide +kernel
theorem dX9_chip_122 : decode cX9_chip 122 = .ok (.getfield 196, 3) := by decide +kernel
theorem dX9_chip_125 : decode cX9_chip 125 = .ok (.iload_n 2, 1) := by decide +kernel
theorem dX9_chip_126 : decode cX9_chip 126 = .ok (.iastore, 1) := by decide +kernel
theorem dX9_chip_127 : decode cX9_chip 127 = .ok (.aload_n 0, 1) := by decide +kernel
theorem dX9_chip_128 : decode cX9_chip 128 = .ok (.getfield 39, 3) := by decide +kernel
theorem dX9_chip_131 : decode cX9_chip 131 = .ok (.aload_n 0, 1) := by decide +kernel
theorem dX9_chip_132 : decode cX9_chip 132 = .ok (.getfield 196, 3) := by decide +kernel
theorem dX9_chip_135 : decode cX9_chip 135 = .ok (.iload_n 3, 1) := by decide +kernel
theorem dX9_chip_136 : decode cX9_chip 136 = .ok (.bastore, 1) := by decide +kernel
theorem dX9_chip_137 : decode cX9_chip 137 = .ok (.aload_n 0, 1) := by decide +kernel
theorem dX9_chip_138 : decode cX9_chip 138 = .ok (.getfield 42, 3) := by decide +kernel
theorem dX9_chip_141 : decode cX9_chip 141 = .ok (.aload_n 0, 1) := by decide +kernel
theorem dX9_chip_142 : decode cX9_chip 142 = .ok (.getfield 196, 3) := by decide +kernel
theorem dX9_chip_145 : decode cX9_chip 145 = .ok (.iload 4, 2) := by decide +kernel
theorem dX9_chip_147 : decode cX9_chip 147 = .ok (.iastore, 1) := by decide +kernel
theorem dX9_chip_148 : decode cX9_chip 148 = .ok (.aload_n 0, 1) := by decide +kernel
theorem dX9_chip_149 : decode cX9_chip 149 = .ok (.getfield 45, 3) := by decide +kernel
theorem dX9_chip_152 : decode cX9_chip 152 = .ok (.aload_n 0, 1) := by decide +kernel
theorem dX9_chip_153 : decode cX9_chip 153 = .ok (.getfield 196, 3) := by decide +kernel
theorem dX9_chip_156 : decode cX9_chip 156 = .ok (.iload 5, 2) := by decide +kernel
theorem dX9_chip_158 : decode cX9_chip 158 = .ok (.iastore, 1) := by decide +kernel
theorem dX9_chip_159 : decode cX9_chip 159 = .ok (.aload_n 0, 1) := by decide +kernel
theorem dX9_chip_160 : decode cX9_chip 160 = .ok (.getfield 48, 3) := by decide +kernel
theorem dX9_chip_163 : decode cX9_chip 163 = .ok (.aload_n 0, 1) := by decide +kernel
theorem dX9_chip_164 : decode cX9_chip 164 = .ok (.getfield 196, 3) := by decide +kernel
theorem dX9_chip_167 : decode cX9_chip 167 = .ok (.iload 6, 2) := by decide +kernel
theorem dX9_chip_169 : decode cX9_chip 169 = .ok (.iastore, 1) := by decide +kernel
theorem dX9_chip_170 : decode cX9_chip 170 = .ok (.aload_n 0, 1) := by decide +kernel
theorem dX9_chip_171 : decode cX9_chip 171 = .ok (.getfield 51, 3) := by decide +kernel
theorem dX9_chip_174 : decode cX9_chip 174 = .ok (.aload_n 0, 1) := by decide +kernel
theorem dX9_chip_175 : decode cX9_chip 175 = .ok (.getfield 196, 3) := by decide +kernel
theorem dX9_chip_178 : decode cX9_chip 178 = .ok (.iload 7, 2) := by decide +kernel
theorem dX9_chip_180 : decode cX9_chip 180 = .ok (.iastore, 1) := by decide +kernel
theorem dX9_chip_181 : decode cX9_chip 181 = .ok (.aload_n 0, 1) := by decide +kernel
theorem dX9_chip_182 : decode cX9_chip 182 = .ok (.getfield 54, 3) := by decide +kernel
theorem dX9_chip_185 : decode cX9_chip 185 = .ok (.aload_n 0, 1) := by decide +kernel
theorem dX9_chip_186 : decode cX9_chip 186 = .ok (.getfield 196, 3) := by decide +kernel
theorem dX9_chip_189 : decode cX9_chip 189 = .ok (.iload 8, 2) := by decide +kernel
theorem dX9_chip_191 : decode cX9_chip 191 = .ok (.iastore, 1) := by decide +kernel
theorem dX9_chip_192 : decode cX9_chip 192 = .ok (.bipush 64, 2) := by decide +kernel
theorem dX9_chip_194 : decode cX9_chip 194 = .ok (.aload_n 0, 1) := by decide +kernel
theorem dX9_chip_195 : decode cX9_chip 195 = .ok (.getfield 196, 3) := by decide +kernel
theorem dX9_chip_198 : decode cX9_chip 198 = .ok (.imul, 1) := by decide +kernel
theorem dX9_chip_199 : decode cX9_chip 199 = .ok (.istore 10, 2) := by decide +kernel
theorem dX9_chip_201 : decode cX9_chip 201 = .ok (.iload 10, 2) := by decide +kernel
theorem dX9_chip_203 : decode cX9_chip 203 = .ok (.bipush 64, 2) := by decide +kernel
theorem dX9_chip_205 : decode cX9_chip 205 = .ok (.aload_n 0, 1) := by decide +kernel
theorem dX9_chip_206 : decode cX9_chip 206 = .ok (.getfield 196, 3) := by decide +kernel
theorem dX9_chip_209 : decode cX9_chip 209 = .ok (.imul, 1) := by decide +kernel
theorem dX9_chip_210 : decode cX9_chip 210 = .ok (.bipush 64, 2) := by decide +kernel
theorem dX9_chip_212 : decode cX9_chip 212 = .ok (.iadd, 1) := by decide +kernel
theorem dX9_chip_213 : decode cX9_chip 213 = .ok (.if_icmp .ge 45, 3) := by decide +kernel
theorem dX9_chip_216 : decode cX9_chip 216 = .ok (.aload_n 0, 1) := by decide +kernel
theorem dX9_chip_217 : decode cX9_chip 217 = .ok (.getfield 64, 3) := by decide +kernel
theorem dX9_chip_220 : decode cX9_chip 220 = .ok (.iload 10, 2) := by decide +kernel
theorem dX9_chip_222 : decode cX9_chip 222 = .ok (.sipush 255, 3) := by decide +kernel
theorem dX9_chip_225 : decode cX9_chip 225 = .ok (.iastore, 1) := by decide +kernel
theorem dX9_chip_226 : decode cX9_chip 226 = .ok (.aload_n 0, 1) := by decide +kernel
theorem dX9_chip_227 : decode cX9_chip 227 = .ok (.getfield 67, 3) := by decide +kernel
theorem dX9_chip_230 : decode cX9_chip 230 = .ok (.iload 10, 2) := by decide +kernel
theorem dX9_chip_232 : decode cX9_chip 232 = .ok (.sipush 255, 3) := by decide +kernel
theorem dX9_chip_235 : decode cX9_chip 235 = .ok (.iastore, 1) := by decide +kernel
theorem dX9_chip_236 : decode cX9_chip 236 = .ok (.aload_n 0, 1) := by decide +kernel
theorem dX9_chip_237 : decode cX9_chip 237 = .ok (.getfield 70, 3) := by decide +kernel
theorem dX9_chip_240 : decode cX9_chip 240 = .ok (.iload 10, 2) := by decide +kernel
theorem dX9_chip_242 : decode cX9_chip 242 = .ok (.iconst 3, 1) := by decide +kernel
theorem dX9_chip_243 : decode cX9_chip 243 = .ok (.iastore, 1) := by decide +kernel
theorem dX9_chip_244 : decode cX9_chip 244 = .ok (.aload_n 0, 1) := by decide +kernel
theorem dX9_chip_245 : decode cX9_chip 245 = .ok (.getfield 76, 3) := by decide +kernel
theorem dX9_chip_248 : decode cX9_chip 248 = .ok (.iload 10, 2) := by decide +kernel
theorem dX9_chip_250 : decode cX9_chip 250 = .ok (.iconst (-1), 1) := by decide +kernel
theorem dX9_chip_251 : decode cX9_chip 251 = .ok (.iastore, 1) := by decide +kernel
theorem dX9_chip_252 : decode cX9_chip 252 = .ok (.iinc 10 1, 3) := by decide +kernel
theorem dX9_chip_255 : decode cX9_chip 255 = .ok (.goto (-54), 3) := by decide +kernel
theorem dX9_chip_258 : decode cX9_chip 258 = .ok (.aload_n 0, 1) := by decide +kernel
theorem dX9_chip_259 : decode cX9_chip 259 = .ok (.dup, 1) := by decide +kernel
theorem dX9_chip_260 : decode cX9_chip 260 = .ok (.getfield 196, 3) := by decide +kernel
theorem dX9_chip_263 : decode cX9_chip 263 = .ok (.iconst 1, 1) := by decide +kernel
theorem dX9_chip_264 : decode cX9_chip 264 = .ok (.iadd, 1) := by decide +kernel
theorem dX9_chip_265 : decode cX9_chip 265 = .ok (.putfield 196, 3) := by decide +kernel
theorem dX9_chip_268 : decode cX9_chip 268 = .ok (.aload_n 0, 1) := by decide +kernel
theorem dX9_chip_269 : decode cX9_chip 269 = .ok (.getfield 196, 3) := by decide +kernel
theorem dX9_chip_272 : decode cX9_chip 272 = .ok (.iconst 1, 1) := by decide +kernel
theorem dX9_chip_273 : decode cX9_chip 273 = .ok (.isub, 1) := by decide +kernel
theorem dX9_chip_274 : decode cX9_chip 274 = .ok (.ireturn, 1) := by decide +kernel
theorem dX9_isAddress_0 : decode cX9_isAddress 0 = .ok (.aload_n 0, 1) := by decide +kernel
theorem dX9_isAddress_1 : decode cX9_isAddress 1 = .ok (.iload_n 1, 1) := by decide +kernel
theorem dX9_isAddress_2 : decode cX9_isAddress 2 = .ok (.invokevirtual 199, 3) := by decide +kernel
theorem dX9_isAddress_5 : decode cX9_isAddress 5 = .ok (.ifCond .eq 23, 3) := by decide +kernel
theorem dX9_isAddress_8 : decode cX9_isAddress 8 = .ok (.iload_n 2, 1) := by decide +kernel
theorem dX9_isAddress_9 : decode cX9_isAddress 9 = .ok (.iconst 0, 1) := by decide +kernel
theorem dX9_isAddress_10 : decode cX9_isAddress 10 = .ok (.aload_n 0, 1) := by decide +kernel
theorem dX9_isAddress_11 : decode cX9_isAddress 11 = .ok (.getfield 33, 3) := by decide +kernel
theorem dX9_isAddress_14 : decode cX9_isAddress 14 = .ok (.iload_n 1, 1) := by decide +kernel
theorem dX9_isAddress_15 : decode cX9_isAddress 15 = .ok (.iaload, 1) := by decide +kernel
theorem dX9_isAddress_16 : decode cX9_isAddress 16 = .ok (.iconst 1, 1) := by decide +kernel
theorem dX9_isAddress_17 : decode cX9_isAddress 17 = .ok (.isub, 1) := by decide +kernel
theorem dX9_isAddress_18 : decode cX9_isAddress 18 = .ok (.invokestatic 137, 3) := by decide +kernel
theorem dX9_isAddress_21 : decode cX9_isAddress 21 = .ok (.ifCond .eq 7, 3) := by decide +kernel
theorem dX9_isAddress_24 : decode cX9_isAddress 24 = .ok (.iconst 1, 1) := by decide +kernel
theorem dX9_isAddress_25 : decode cX9_isAddress 25 = .ok (.goto 4, 3) := by decide +kernel
theorem dX9_isAddress_28 : decode cX9_isAddress 28 = .ok (.iconst 0, 1) := by decide +kernel
theorem dX9_isAddress_29 : decode cX9_isAddress 29 = .ok (.ireturn, 1) := by decide +kernel
theorem dX9_need_0 : decode cX9_need 0 = .ok (.aload_n 0, 1) := by decide +kernel
theorem dX9_need_1 : decode cX9_need 1 = .ok (.iload_n 1, 1) := by decide +kernel
theorem dX9_need_2 : decode cX9_need 2 = .ok (.iload_n 2, 1) := by decide +kernel
theorem dX9_need_3 : decode cX9_need 3 = .ok (.invokevirtual 203, 3) := by decide +kernel
theorem dX9_need_6 : decode cX9_need 6 = .ok (.ifCond .eq 13, 3) := by decide +kernel
theorem dX9_need_9 : decode cX9_need 9 = .ok (.iload_n 3, 1) := by decide +kernel
theorem dX9_need_10 : decode cX9_need 10 = .ok (.iconst 1, 1) := by decide +kernel
theorem dX9_need_11 : decode cX9_need 11 = .ok (.bipush 60, 2) := by decide +kernel
theorem dX9_need_13 : decode cX9_need 13 = .ok (.invokestatic 137, 3) := by decide +kernel
theorem dX9_need_16 : decode cX9_need 16 = .ok (.ifCond .ne 5, 3) := by decide +kernel
theorem dX9_need_19 : decode cX9_need 19 = .ok (.iconst 0, 1) := by decide +kernel
theorem dX9_need_20 : decode cX9_need 20 = .ok (.ireturn, 1) := by decide +kernel
theorem dX9_need_21 : decode cX9_need 21 = .ok (.aload_n 0, 1) := by decide +kernel
theorem dX9_need_22 : decode cX9_need 22 = .ok (.getfield 70, 3) := by decide +kernel
theorem dX9_need_25 : decode cX9_need 25 = .ok (.bipush 64, 2) := by decide +kernel
theorem dX9_need_27 : decode cX9_need 27 = .ok (.iload_n 1, 1) := by decide +kernel
theorem dX9_need_28 : decode cX9_need 28 = .ok (.imul, 1) := by decide +kernel
theorem dX9_need_29 : decode cX9_need 29 = .ok (.iload_n 2, 1) := by decide +kernel
theorem dX9_need_30 : decode cX9_need 30 = .ok (.iadd, 1) := by decide +kernel
theorem dX9_need_31 : decode cX9_need 31 = .ok (.iload_n 3, 1) := by decide +kernel
theorem dX9_need_32 : decode cX9_need 32 = .ok (.iastore, 1) := by decide +kernel
theorem dX9_need_33 : decode cX9_need 33 = .ok (.iconst 1, 1) := by decide +kernel
theorem dX9_need_34 : decode cX9_need 34 = .ok (.ireturn, 1) := by decide +kernel
theorem dX9_bad_0 : decode cX9_bad 0 = .ok (.aload_n 0, 1) := by decide +kernel
theorem dX9_bad_1 : decode cX9_bad 1 = .ok (.iload_n 1, 1) := by decide +kernel
theorem dX9_bad_2 : decode cX9_bad 2 = .ok (.invokevirtual 199, 3) := by decide +kernel
theorem dX9_bad_5 : decode cX9_bad 5 = .ok (.ifCond .eq 22, 3) := by decide +kernel
theorem dX9_bad_8 : decode cX9_bad 8 = .ok (.iload_n 2, 1) := by decide +kernel
theorem dX9_bad_9 : decode cX9_bad 9 = .ok (.iconst 0, 1) := by decide +kernel
theorem dX9_bad_10 : decode cX9_bad 10 = .ok (.aload_n 0, 1) := by decide +kernel
theorem dX9_bad_11 : decode cX9_bad 11 = .ok (.getfield 33, 3) := by decide +kernel
theorem dX9_bad_14 : decode cX9_bad 14 = .ok (.iload_n 1, 1) := by decide +kernel
theorem dX9_bad_15 : decode cX9_bad 15 = .ok (.iaload, 1) := by decide +kernel
theorem dX9_bad_16 : decode cX9_bad 16 = .ok (.bipush 8, 2) := by decide +kernel
theorem dX9_bad_18 : decode cX9_bad 18 = .ok (.idiv, 1) := by decide +kernel
theorem dX9_bad_19 : decode cX9_bad 19 = .ok (.iconst 1, 1) := by decide +kernel
theorem dX9_bad_20 : decode cX9_bad 20 = .ok (.isub, 1) := by decide +kernel
theorem dX9_bad_21 : decode cX9_bad 21 = .ok (.invokestatic 137, 3) := by decide +kernel
theorem dX9_bad_24 : decode cX9_bad 24 = .ok (.ifCond .ne 5, 3) := by decide +kernel
theorem dX9_bad_27 : decode cX9_bad 27 = .ok (.iconst 0, 1) := by decide +kernel
theorem dX9_bad_28 : decode cX9_bad 28 = .ok (.ireturn, 1) := by decide +kernel
theorem dX9_bad_29 : decode cX9_bad 29 = .ok (.aload_n 0, 1) := by decide +kernel
theorem dX9_bad_30 : decode cX9_bad 30 = .ok (.getfield 79, 3) := by decide +kernel
theorem dX9_bad_33 : decode cX9_bad 33 = .ok (.bipush 8, 2) := by decide +kernel
theorem dX9_bad_35 : decode cX9_bad 35 = .ok (.iload_n 1, 1) := by decide +kernel
theorem dX9_bad_36 : decode cX9_bad 36 = .ok (.imul, 1) := by decide +kernel
theorem dX9_bad_37 : decode cX9_bad 37 = .ok (.iload_n 2, 1) := by decide +kernel
theorem dX9_bad_38 : decode cX9_bad 38 = .ok (.iadd, 1) := by decide +kernel
theorem dX9_bad_39 : decode cX9_bad 39 = .ok (.iload_n 3, 1) := by decide +kernel
theorem dX9_bad_40 : decode cX9_bad 40 = .ok (.bastore, 1) := by decide +kernel
theorem dX9_bad_41 : decode cX9_bad 41 = .ok (.iconst 1, 1) := by decide +kernel
theorem dX9_bad_42 : decode cX9_bad 42 = .ok (.ireturn, 1) := by decide +kernel
theorem dX9_contact_0 : decode cX9_contact 0 = .ok (.aload_n 0, 1) := by decide +kernel
theorem dX9_contact_1 : decode cX9_contact 1 = .ok (.iload_n 1, 1) := by decide +kernel
theorem dX9_contact_2 : decode cX9_contact 2 = .ok (.invokevirtual 199, 3) := by decide +kernel
theorem dX9_contact_5 : decode cX9_contact 5 = .ok (.ifCond .eq 13, 3) := by decide +kernel
theorem dX9_contact_8 : decode cX9_contact 8 = .ok (.iload_n 2, 1) := by decide +kernel
theorem dX9_contact_9 : decode cX9_contact 9 = .ok (.iconst 0, 1) := by decide +kernel
theorem dX9_contact_10 : decode cX9_contact 10 = .ok (.bipush 27, 2) := by decide +kernel
theorem dX9_contact_12 : decode cX9_contact 12 = .ok (.invokestatic 137, 3) := by decide +kernel
theorem dX9_contact_15 : decode cX9_contact 15 = .ok (.ifCond .ne 5, 3) := by decide +kernel
theorem dX9_contact_18 : decode cX9_contact 18 = .ok (.iconst 0, 1) := by decide +kernel
theorem dX9_contact_19 : decode cX9_contact 19 = .ok (.ireturn, 1) := by decide +kernel
theorem dX9_contact_20 : decode cX9_contact 20 = .ok (.aload_n 0, 1) := by decide +kernel
theorem dX9_contact_21 : decode cX9_contact 21 = .ok (.getfield 82, 3) := by decide +kernel
theorem dX9_contact_24 : decode cX9_contact 24 = .ok (.bipush 28, 2) := by decide +kernel
theorem dX9_contact_26 : decode cX9_contact 26 = .ok (.iload_n 1, 1) := by decide +kernel
theorem dX9_contact_27 : decode cX9_contact 27 = .ok (.imul, 1) := by decide +kernel
theorem dX9_contact_28 : decode cX9_contact 28 = .ok (.iload_n 2, 1) := by decide +kernel
theorem dX9_contact_29 : decode cX9_contact 29 = .ok (.iadd, 1) := by decide +kernel
theorem dX9_contact_30 : decode cX9_contact 30 = .ok (.iload_n 3, 1) := by decide +kernel
theorem dX9_contact_31 : decode cX9_contact 31 = .ok (.ifCond .ne 7, 3) := by decide +kernel
theorem dX9_contact_34 : decode cX9_contact 34 = .ok (.iconst 1, 1) := by decide +kernel
theorem dX9_contact_35 : decode cX9_contact 35 = .ok (.goto 4, 3) := by decide +kernel
theorem dX9_contact_38 : decode cX9_contact 38 = .ok (.iconst 0, 1) := by decide +kernel
theorem dX9_contact_39 : decode cX9_contact 39 = .ok (.bastore, 1) := by decide +kernel
theorem dX9_contact_40 : decode cX9_contact 40 = .ok (.iconst 1, 1) := by decide +kernel
theorem dX9_contact_41 : decode cX9_contact 41 = .ok (.ireturn, 1) := by decide +kernel
theorem dX9_erase_0 : decode cX9_erase 0 = .ok (.aload_n 0, 1) := by decide +kernel
theorem dX9_erase_1 : decode cX9_erase 1 = .ok (.iload_n 1, 1) := by decide +kernel
theorem dX9_erase_2 : decode cX9_erase 2 = .ok (.invokevirtual 199, 3) := by decide +kernel
theorem dX9_erase_5 : decode cX9_erase 5 = .ok (.ifCond .eq 12, 3) := by decide +kernel
theorem dX9_erase_8 : decode cX9_erase 8 = .ok (.aload_n 0, 1) := by decide +kernel
theorem dX9_erase_9 : decode cX9_erase 9 = .ok (.getfield 39, 3) := by decide +kernel
theorem dX9_erase_12 : decode cX9_erase 12 = .ok (.iload_n 1, 1) := by decide +kernel
theorem dX9_erase_13 : decode cX9_erase 13 = .ok (.baload, 1) := by decide +kernel
theorem dX9_erase_14 : decode cX9_erase 14 = .ok (.ifCond .ne 5, 3) := by decide +kernel
theorem dX9_erase_17 : decode cX9_erase 17 = .ok (.iconst (-1), 1) := by decide +kernel
theorem dX9_erase_18 : decode cX9_erase 18 = .ok (.ireturn, 1) := by decide +kernel
theorem dX9_erase_19 : decode cX9_erase 19 = .ok (.aload_n 0, 1) := by decide +kernel
theorem dX9_erase_20 : decode cX9_erase 20 = .ok (.getfield 57, 3) := by decide +kernel
theorem dX9_erase_23 : decode cX9_erase 23 = .ok (.iload_n 1, 1) := by decide +kernel
theorem dX9_erase_24 : decode cX9_erase 24 = .ok (.dup2, 1) := by decide +kernel
theorem dX9_erase_25 : decode cX9_erase 25 = .ok (.iaload, 1) := by decide +kernel
theorem dX9_erase_26 : decode cX9_erase 26 = .ok (.iconst 1, 1) := by decide +kernel
theorem dX9_erase_27 : decode cX9_erase 27 = .ok (.iadd, 1) := by decide +kernel
theorem dX9_erase_28 : decode cX9_erase 28 = .ok (.iastore, 1) := by decide +kernel
theorem dX9_erase_29 : decode cX9_erase 29 = .ok (.bipush 64, 2) := by decide +kernel
theorem dX9_erase_31 : decode cX9_erase 31 = .ok (.iload_n 1, 1) := by decide +kernel
theorem dX9_erase_32 : decode cX9_erase 32 = .ok (.imul, 1) := by decide +kernel
theorem dX9_erase_33 : decode cX9_erase 33 = .ok (.istore_n 2, 1) := by decide +kernel
theorem dX9_erase_34 : decode cX9_erase 34 = .ok (.iload_n 2, 1) := by decide +kernel
theorem dX9_erase_35 : decode cX9_erase 35 = .ok (.bipush 64, 2) := by decide +kernel
theorem dX9_erase_37 : decode cX9_erase 37 = .ok (.iload_n 1, 1) := by decide +kernel
theorem dX9_erase_38 : decode cX9_erase 38 = .ok (.imul, 1) := by decide +kernel
theorem dX9_erase_39 : decode cX9_erase 39 = .ok (.bipush 64, 2) := by decide +kernel
theorem dX9_erase_41 : decode cX9_erase 41 = .ok (.iadd, 1) := by decide +kernel
theorem dX9_erase_42 : decode cX9_erase 42 = .ok (.if_icmp .ge 66, 3) := by decide +kernel
theorem dX9_erase_45 : decode cX9_erase 45 = .ok (.aload_n 0, 1) := by decide +kernel
theorem dX9_erase_46 : decode cX9_erase 46 = .ok (.getfield 64, 3) := by decide +kernel
theorem dX9_erase_49 : decode cX9_erase 49 = .ok (.iload_n 2, 1) := by decide +kernel
theorem dX9_erase_50 : decode cX9_erase 50 = .ok (.sipush 255, 3) := by decide +kernel
theorem dX9_erase_53 : decode cX9_erase 53 = .ok (.iastore, 1) := by decide +kernel
theorem dX9_erase_54 : decode cX9_erase 54 = .ok (.aload_n 0, 1) := by decide +kernel
theorem dX9_erase_55 : decode cX9_erase 55 = .ok (.getfield 67, 3) := by decide +kernel
theorem dX9_erase_58 : decode cX9_erase 58 = .ok (.iload_n 2, 1) := by decide +kernel
theorem dX9_erase_59 : decode cX9_erase 59 = .ok (.sipush 255, 3) := by decide +kernel
theorem dX9_erase_62 : decode cX9_erase 62 = .ok (.iastore, 1) := by decide +kernel
theorem dX9_erase_63 : decode cX9_erase 63 = .ok (.aload_n 0, 1) := by decide +kernel
theorem dX9_erase_64 : decode cX9_erase 64 = .ok (.getfield 73, 3) := by decide +kernel
theorem dX9_erase_67 : decode cX9_erase 67 = .ok (.iload_n 2, 1) := by decide +kernel
theorem dX9_erase_68 : decode cX9_erase 68 = .ok (.iconst 0, 1) := by decide +kernel
theorem dX9_erase_69 : decode cX9_erase 69 = .ok (.iastore, 1) := by decide +kernel
theorem dX9_erase_70 : decode cX9_erase 70 = .ok (.aload_n 0, 1) := by decide +kernel
theorem dX9_erase_71 : decode cX9_erase 71 = .ok (.getfield 76, 3) := by decide +kernel
theorem dX9_erase_74 : decode cX9_erase 74 = .ok (.iload_n 2, 1) := by decide +kernel
theorem dX9_erase_75 : decode cX9_erase 75 = .ok (.iconst (-1), 1) := by decide +kernel
theorem dX9_erase_76 : decode cX9_erase 76 = .ok (.iastore, 1) := by decide +kernel
theorem dX9_erase_77 : decode cX9_erase 77 = .ok (.aload_n 0, 1) := by decide +kernel
theorem dX9_erase_78 : decode cX9_erase 78 = .ok (.getfield 57, 3) := by decide +kernel
theorem dX9_erase_81 : decode cX9_erase 81 = .ok (.iload_n 1, 1) := by decide +kernel
theorem dX9_erase_82 : decode cX9_erase 82 = .ok (.iaload, 1) := by decide +kernel
theorem dX9_erase_83 : decode cX9_erase 83 = .ok (.aload_n 0, 1) := by decide +kernel
theorem dX9_erase_84 : decode cX9_erase 84 = .ok (.getfield 54, 3) := by decide +kernel
theorem dX9_erase_87 : decode cX9_erase 87 = .ok (.iload_n 1, 1) := by decide +kernel
theorem dX9_erase_88 : decode cX9_erase 88 = .ok (.iaload, 1) := by decide +kernel
theorem dX9_erase_89 : decode cX9_erase 89 = .ok (.if_icmp .le 13, 3) := by decide +kernel
theorem dX9_erase_92 : decode cX9_erase 92 = .ok (.aload_n 0, 1) := by decide +kernel
theorem dX9_erase_93 : decode cX9_erase 93 = .ok (.getfield 70, 3) := by decide +kernel
theorem dX9_erase_96 : decode cX9_erase 96 = .ok (.iload_n 2, 1) := by decide +kernel
theorem dX9_erase_97 : decode cX9_erase 97 = .ok (.dup2, 1) := by decide +kernel
theorem dX9_erase_98 : decode cX9_erase 98 = .ok (.iaload, 1) := by decide +kernel
theorem dX9_erase_99 : decode cX9_erase 99 = .ok (.iconst 1, 1) := by decide +kernel
theorem dX9_erase_100 : decode cX9_erase 100 = .ok (.iadd, 1) := by decide +kernel
theorem dX9_erase_101 : decode cX9_erase 101 = .ok (.iastore, 1) := by decide +kernel
theorem dX9_erase_102 : decode cX9_erase 102 = .ok (.iinc 2 1, 3) := by decide +kernel
theorem dX9_erase_105 : decode cX9_erase 105 = .ok (.goto (-71), 3) := by decide +kernel
theorem dX9_erase_108 : decode cX9_erase 108 = .ok (.aload_n 0, 1) := by decide +kernel
theorem dX9_erase_109 : decode cX9_erase 109 = .ok (.getfield 57, 3) := by decide +kernel
theorem dX9_erase_112 : decode cX9_erase 112 = .ok (.iload_n 1, 1) := by decide +kernel
theorem dX9_erase_113 : decode cX9_erase 113 = .ok (.iaload, 1) := by decide +kernel
theorem dX9_erase_114 : decode cX9_erase 114 = .ok (.ireturn, 1) := by decide +kernel
theorem dX9_logicals_0 : decode cX9_logicals 0 = .ok (.iconst 0, 1) := by decide +kernel
theorem dX9_logicals_1 : decode cX9_logicals 1 = .ok (.istore_n 2, 1) := by decide +kernel
theorem dX9_logicals_2 : decode cX9_logicals 2 = .ok (.iconst 0, 1) := by decide +kernel
theorem dX9_logicals_3 : decode cX9_logicals 3 = .ok (.istore_n 3, 1) := by decide +kernel
theorem dX9_logicals_4 : decode cX9_logicals 4 = .ok (.iload_n 3, 1) := by decide +kernel
theorem dX9_logicals_5 : decode cX9_logicals 5 = .ok (.aload_n 0, 1) := by decide +kernel
theorem dX9_logicals_6 : decode cX9_logicals 6 = .ok (.getfield 33, 3) := by decide +kernel
theorem dX9_logicals_9 : decode cX9_logicals 9 = .ok (.iload_n 1, 1) := by decide +kernel
theorem dX9_logicals_10 : decode cX9_logicals 10 = .ok (.iaload, 1) := by decide +kernel
theorem dX9_logicals_11 : decode cX9_logicals 11 = .ok (.bipush 8, 2) := by decide +kernel
theorem dX9_logicals_13 : decode cX9_logicals 13 = .ok (.idiv, 1) := by decide +kernel
theorem dX9_logicals_14 : decode cX9_logicals 14 = .ok (.if_icmp .ge 32, 3) := by decide +kernel
theorem dX9_logicals_17 : decode cX9_logicals 17 = .ok (.iload_n 2, 1) := by decide +kernel
theorem dX9_logicals_18 : decode cX9_logicals 18 = .ok (.aload_n 0, 1) := by decide +kernel
theorem dX9_logicals_19 : decode cX9_logicals 19 = .ok (.getfield 79, 3) := by decide +kernel
theorem dX9_logicals_22 : decode cX9_logicals 22 = .ok (.bipush 8, 2) := by decide +kernel
theorem dX9_logicals_24 : decode cX9_logicals 24 = .ok (.iload_n 1, 1) := by decide +kernel
theorem dX9_logicals_25 : decode cX9_logicals 25 = .ok (.imul, 1) := by decide +kernel
theorem dX9_logicals_26 : decode cX9_logicals 26 = .ok (.iload_n 3, 1) := by decide +kernel
theorem dX9_logicals_27 : decode cX9_logicals 27 = .ok (.iadd, 1) := by decide +kernel
theorem dX9_logicals_28 : decode cX9_logicals 28 = .ok (.baload, 1) := by decide +kernel
theorem dX9_logicals_29 : decode cX9_logicals 29 = .ok (.ifCond .eq 7, 3) := by decide +kernel
theorem dX9_logicals_32 : decode cX9_logicals 32 = .ok (.iconst 0, 1) := by decide +kernel
theorem dX9_logicals_33 : decode cX9_logicals 33 = .ok (.goto 5, 3) := by decide +kernel
theorem dX9_logicals_36 : decode cX9_logicals 36 = .ok (.bipush 8, 2) := by decide +kernel
theorem dX9_logicals_38 : decode cX9_logicals 38 = .ok (.iadd, 1) := by decide +kernel
theorem dX9_logicals_39 : decode cX9_logicals 39 = .ok (.istore_n 2, 1) := by decide +kernel
theorem dX9_logicals_40 : decode cX9_logicals 40 = .ok (.iinc 3 1, 3) := by decide +kernel
theorem dX9_logicals_43 : decode cX9_logicals 43 = .ok (.goto (-39), 3) := by decide +kernel
theorem dX9_logicals_46 : decode cX9_logicals 46 = .ok (.iload_n 2, 1) := by decide +kernel
theorem dX9_logicals_47 : decode cX9_logicals 47 = .ok (.ireturn, 1) := by decide +kernel
theorem dX9_addressOf_0 : decode cX9_addressOf 0 = .ok (.iload_n 2, 1) := by decide +kernel
theorem dX9_addressOf_1 : decode cX9_addressOf 1 = .ok (.bipush 8, 2) := by decide +kernel
theorem dX9_addressOf_3 : decode cX9_addressOf 3 = .ok (.idiv, 1) := by decide +kernel
theorem dX9_addressOf_4 : decode cX9_addressOf 4 = .ok (.istore_n 3, 1) := by decide +kernel
theorem dX9_addressOf_5 : decode cX9_addressOf 5 = .ok (.iconst 0, 1) := by decide +kernel
theorem dX9_addressOf_6 : decode cX9_addressOf 6 = .ok (.istore 4, 2) := by decide +kernel
theorem dX9_addressOf_8 : decode cX9_addressOf 8 = .ok (.aload_n 0, 1) := by decide +kernel
theorem dX9_addressOf_9 : decode cX9_addressOf 9 = .ok (.getfield 79, 3) := by decide +kernel
theorem dX9_addressOf_12 : decode cX9_addressOf 12 = .ok (.bipush 8, 2) := by decide +kernel
theorem dX9_addressOf_14 : decode cX9_addressOf 14 = .ok (.iload_n 1, 1) := by decide +kernel
theorem dX9_addressOf_15 : decode cX9_addressOf 15 = .ok (.imul, 1) := by decide +kernel
theorem dX9_addressOf_16 : decode cX9_addressOf 16 = .ok (.iload 4, 2) := by decide +kernel
theorem dX9_addressOf_18 : decode cX9_addressOf 18 = .ok (.iadd, 1) := by decide +kernel
theorem dX9_addressOf_19 : decode cX9_addressOf 19 = .ok (.baload, 1) := by decide +kernel
theorem dX9_addressOf_20 : decode cX9_addressOf 20 = .ok (.ifCond .ne 7, 3) := by decide +kernel
theorem dX9_addressOf_23 : decode cX9_addressOf 23 = .ok (.iload_n 3, 1) := by decide +kernel
theorem dX9_addressOf_24 : decode cX9_addressOf 24 = .ok (.ifCond .le 32, 3) := by decide +kernel
theorem dX9_addressOf_27 : decode cX9_addressOf 27 = .ok (.iload_n 3, 1) := by decide +kernel
theorem dX9_addressOf_28 : decode cX9_addressOf 28 = .ok (.aload_n 0, 1) := by decide +kernel
theorem dX9_addressOf_29 : decode cX9_addressOf 29 = .ok (.getfield 79, 3) := by decide +kernel
theorem dX9_addressOf_32 : decode cX9_addressOf 32 = .ok (.bipush 8, 2) := by decide +kernel
theorem dX9_addressOf_34 : decode cX9_addressOf 34 = .ok (.iload_n 1, 1) := by decide +kernel
theorem dX9_addressOf_35 : decode cX9_addressOf 35 = .ok (.imul, 1) := by decide +kernel
theorem dX9_addressOf_36 : decode cX9_addressOf 36 = .ok (.iload 4, 2) := by decide +kernel
theorem dX9_addressOf_38 : decode cX9_addressOf 38 = .ok (.iadd, 1) := by decide +kernel
theorem dX9_addressOf_39 : decode cX9_addressOf 39 = .ok (.baload, 1) := by decide +kernel
theorem dX9_addressOf_40 : decode cX9_addressOf 40 = .ok (.ifCond .eq 7, 3) := by decide +kernel
theorem dX9_addressOf_43 : decode cX9_addressOf 43 = .ok (.iconst 0, 1) := by decide +kernel
theorem dX9_addressOf_44 : decode cX9_addressOf 44 = .ok (.goto 4, 3) := by decide +kernel
theorem dX9_addressOf_47 : decode cX9_addressOf 47 = .ok (.iconst 1, 1) := by decide +kernel
theorem dX9_addressOf_48 : decode cX9_addressOf 48 = .ok (.isub, 1) := by decide +kernel
theorem dX9_addressOf_49 : decode cX9_addressOf 49 = .ok (.istore_n 3, 1) := by decide +kernel
theorem dX9_addressOf_50 : decode cX9_addressOf 50 = .ok (.iinc 4 1, 3) := by decide +kernel
theorem dX9_addressOf_53 : decode cX9_addressOf 53 = .ok (.goto (-45), 3) := by decide +kernel
theorem dX9_addressOf_56 : decode cX9_addressOf 56 = .ok (.bipush 8, 2) := by decide +kernel
theorem dX9_addressOf_58 : decode cX9_addressOf 58 = .ok (.iload 4, 2) := by decide +kernel
theorem dX9_addressOf_60 : decode cX9_addressOf 60 = .ok (.imul, 1) := by decide +kernel
theorem dX9_addressOf_61 : decode cX9_addressOf 61 = .ok (.iload_n 2, 1) := by decide +kernel
theorem dX9_addressOf_62 : decode cX9_addressOf 62 = .ok (.bipush 8, 2) := by decide +kernel
theorem dX9_addressOf_64 : decode cX9_addressOf 64 = .ok (.irem, 1) := by decide +kernel
theorem dX9_addressOf_65 : decode cX9_addressOf 65 = .ok (.iadd, 1) := by decide +kernel
theorem dX9_addressOf_66 : decode cX9_addressOf 66 = .ok (.ireturn, 1) := by decide +kernel
theorem dX9_lacking_0 : decode cX9_lacking 0 = .ok (.iconst 0, 1) := by decide +kernel
theorem dX9_lacking_1 : decode cX9_lacking 1 = .ok (.istore_n 2, 1) := by decide +kernel
theorem dX9_lacking_2 : decode cX9_lacking 2 = .ok (.iload_n 2, 1) := by decide +kernel
theorem dX9_lacking_3 : decode cX9_lacking 3 = .ok (.bipush 28, 2) := by decide +kernel
theorem dX9_lacking_5 : decode cX9_lacking 5 = .ok (.if_icmp .ge 25, 3) := by decide +kernel
theorem dX9_lacking_8 : decode cX9_lacking 8 = .ok (.aload_n 0, 1) := by decide +kernel
theorem dX9_lacking_9 : decode cX9_lacking 9 = .ok (.getfield 82, 3) := by decide +kernel
theorem dX9_lacking_12 : decode cX9_lacking 12 = .ok (.bipush 28, 2) := by decide +kernel
theorem dX9_lacking_14 : decode cX9_lacking 14 = .ok (.iload_n 1, 1) := by decide +kernel
theorem dX9_lacking_15 : decode cX9_lacking 15 = .ok (.imul, 1) := by decide +kernel
theorem dX9_lacking_16 : decode cX9_lacking 16 = .ok (.iload_n 2, 1) := by decide +kernel
theorem dX9_lacking_17 : decode cX9_lacking 17 = .ok (.iadd, 1) := by decide +kernel
theorem dX9_lacking_18 : decode cX9_lacking 18 = .ok (.baload, 1) := by decide +kernel
theorem dX9_lacking_19 : decode cX9_lacking 19 = .ok (.ifCond .eq 5, 3) := by decide +kernel
theorem dX9_lacking_22 : decode cX9_lacking 22 = .ok (.iload_n 2, 1) := by decide +kernel
theorem dX9_lacking_23 : decode cX9_lacking 23 = .ok (.ireturn, 1) := by decide +kernel
theorem dX9_lacking_24 : decode cX9_lacking 24 = .ok (.iinc 2 1, 3) := by decide +kernel
theorem dX9_lacking_27 : decode cX9_lacking 27 = .ok (.goto (-25), 3) := by decide +kernel
theorem dX9_lacking_30 : decode cX9_lacking 30 = .ok (.iconst (-1), 1) := by decide +kernel
theorem dX9_lacking_31 : decode cX9_lacking 31 = .ok (.ireturn, 1) := by decide +kernel
theorem dX9_chipOf_0 : decode cX9_chipOf 0 = .ok (.aload_n 0, 1) := by decide +kernel
theorem dX9_chipOf_1 : decode cX9_chipOf 1 = .ok (.iload_n 1, 1) := by decide +kernel
theorem dX9_chipOf_2 : decode cX9_chipOf 2 = .ok (.invokevirtual 199, 3) := by decide +kernel
theorem dX9_chipOf_5 : decode cX9_chipOf 5 = .ok (.ifCond .ne 5, 3) := by decide +kernel
theorem dX9_chipOf_8 : decode cX9_chipOf 8 = .ok (.iconst (-1), 1) := by decide +kernel
theorem dX9_chipOf_9 : decode cX9_chipOf 9 = .ok (.ireturn, 1) := by decide +kernel
theorem dX9_chipOf_10 : decode cX9_chipOf 10 = .ok (.iload_n 2, 1) := by decide +kernel
theorem dX9_chipOf_11 : decode cX9_chipOf 11 = .ok (.sipush 500, 3) := by decide +kernel
theorem dX9_chipOf_14 : decode cX9_chipOf 14 = .ok (.if_icmp .lt 31, 3) := by decide +kernel
theorem dX9_chipOf_17 : decode cX9_chipOf 17 = .ok (.iload_n 2, 1) := by decide +kernel
theorem dX9_chipOf_18 : decode cX9_chipOf 18 = .ok (.sipush 500, 3) := by decide +kernel
theorem dX9_chipOf_21 : decode cX9_chipOf 21 = .ok (.isub, 1) := by decide +kernel
theorem dX9_chipOf_22 : decode cX9_chipOf 22 = .ok (.aload_n 0, 1) := by decide +kernel
theorem dX9_chipOf_23 : decode cX9_chipOf 23 = .ok (.iload_n 1, 1) := by decide +kernel
theorem dX9_chipOf_24 : decode cX9_chipOf 24 = .ok (.invokevirtual 207, 3) := by decide +kernel
theorem dX9_chipOf_27 : decode cX9_chipOf 27 = .ok (.if_icmp .ge 16, 3) := by decide +kernel
theorem dX9_chipOf_30 : decode cX9_chipOf 30 = .ok (.aload_n 0, 1) := by decide +kernel
theorem dX9_chipOf_31 : decode cX9_chipOf 31 = .ok (.iload_n 1, 1) := by decide +kernel
theorem dX9_chipOf_32 : decode cX9_chipOf 32 = .ok (.iload_n 2, 1) := by decide +kernel
theorem dX9_chipOf_33 : decode cX9_chipOf 33 = .ok (.sipush 500, 3) := by decide +kernel
theorem dX9_chipOf_36 : decode cX9_chipOf 36 = .ok (.isub, 1) := by decide +kernel
theorem dX9_chipOf_37 : decode cX9_chipOf 37 = .ok (.invokevirtual 210, 3) := by decide +kernel
theorem dX9_chipOf_40 : decode cX9_chipOf 40 = .ok (.goto 4, 3) := by decide +kernel
theorem dX9_chipOf_43 : decode cX9_chipOf 43 = .ok (.iconst (-1), 1) := by decide +kernel
theorem dX9_chipOf_44 : decode cX9_chipOf 44 = .ok (.ireturn, 1) := by decide +kernel
theorem dX9_chipOf_45 : decode cX9_chipOf 45 = .ok (.iload_n 2, 1) := by decide +kernel
theorem dX9_chipOf_46 : decode cX9_chipOf 46 = .ok (.bipush 100, 2) := by decide +kernel
theorem dX9_chipOf_48 : decode cX9_chipOf 48 = .ok (.if_icmp .lt 87, 3) := by decide +kernel
theorem dX9_chipOf_51 : decode cX9_chipOf 51 = .ok (.iload_n 2, 1) := by decide +kernel
theorem dX9_chipOf_52 : decode cX9_chipOf 52 = .ok (.bipush 100, 2) := by decide +kernel
theorem dX9_chipOf_54 : decode cX9_chipOf 54 = .ok (.irem, 1) := by decide +kernel
theorem dX9_chipOf_55 : decode cX9_chipOf 55 = .ok (.istore_n 3, 1) := by decide +kernel
theorem dX9_chipOf_56 : decode cX9_chipOf 56 = .ok (.iload_n 3, 1) := by decide +kernel
theorem dX9_chipOf_57 : decode cX9_chipOf 57 = .ok (.aload_n 0, 1) := by decide +kernel
theorem dX9_chipOf_58 : decode cX9_chipOf 58 = .ok (.getfield 33, 3) := by decide +kernel
theorem dX9_chipOf_61 : decode cX9_chipOf 61 = .ok (.iload_n 1, 1) := by decide +kernel
theorem dX9_chipOf_62 : decode cX9_chipOf 62 = .ok (.iaload, 1) := by decide +kernel
theorem dX9_chipOf_63 : decode cX9_chipOf 63 = .ok (.if_icmp .lt 5, 3) := by decide +kernel
theorem dX9_chipOf_66 : decode cX9_chipOf 66 = .ok (.iconst (-1), 1) := by decide +kernel
theorem dX9_chipOf_67 : decode cX9_chipOf 67 = .ok (.ireturn, 1) := by decide +kernel
theorem dX9_chipOf_68 : decode cX9_chipOf 68 = .ok (.bipush 64, 2) := by decide +kernel
theorem dX9_chipOf_70 : decode cX9_chipOf 70 = .ok (.iload_n 1, 1) := by decide +kernel
theorem dX9_chipOf_71 : decode cX9_chipOf 71 = .ok (.imul, 1) := by decide +kernel
theorem dX9_chipOf_72 : decode cX9_chipOf 72 = .ok (.iload_n 3, 1) := by decide +kernel
theorem dX9_chipOf_73 : decode cX9_chipOf 73 = .ok (.iadd, 1) := by decide +kernel
theorem dX9_chipOf_74 : decode cX9_chipOf 74 = .ok (.istore 4, 2) := by decide +kernel
theorem dX9_chipOf_76 : decode cX9_chipOf 76 = .ok (.iload_n 2, 1) := by decide +kernel
theorem dX9_chipOf_77 : decode cX9_chipOf 77 = .ok (.sipush 200, 3) := by decide +kernel
theorem dX9_chipOf_80 : decode cX9_chipOf 80 = .ok (.if_icmp .ge 13, 3) := by decide +kernel
theorem dX9_chipOf_83 : decode cX9_chipOf 83 = .ok (.aload_n 0, 1) := by decide +kernel
theorem dX9_chipOf_84 : decode cX9_chipOf 84 = .ok (.getfield 64, 3) := by decide +kernel
theorem dX9_chipOf_87 : decode cX9_chipOf 87 = .ok (.iload 4, 2) := by decide +kernel
theorem dX9_chipOf_89 : decode cX9_chipOf 89 = .ok (.iaload, 1) := by decide +kernel
theorem dX9_chipOf_90 : decode cX9_chipOf 90 = .ok (.goto 44, 3) := by decide +kernel
theorem dX9_chipOf_93 : decode cX9_chipOf 93 = .ok (.iload_n 2, 1) := by decide +kernel
theorem dX9_chipOf_94 : decode cX9_chipOf 94 = .ok (.sipush 300, 3) := by decide +kernel
theorem dX9_chipOf_97 : decode cX9_chipOf 97 = .ok (.if_icmp .ge 13, 3) := by decide +kernel
theorem dX9_chipOf_100 : decode cX9_chipOf 100 = .ok (.aload_n 0, 1) := by decide +kernel
theorem dX9_chipOf_101 : decode cX9_chipOf 101 = .ok (.getfield 67, 3) := by decide +kernel
theorem dX9_chipOf_104 : decode cX9_chipOf 104 = .ok (.iload 4, 2) := by decide +kernel
theorem dX9_chipOf_106 : decode cX9_chipOf 106 = .ok (.iaload, 1) := by decide +kernel
theorem dX9_chipOf_107 : decode cX9_chipOf 107 = .ok (.goto 27, 3) := by decide +kernel
theorem dX9_chipOf_110 : decode cX9_chipOf 110 = .ok (.iload_n 2, 1) := by decide +kernel
theorem dX9_chipOf_111 : decode cX9_chipOf 111 = .ok (.sipush 400, 3) := by decide +kernel
theorem dX9_chipOf_114 : decode cX9_chipOf 114 = .ok (.if_icmp .ge 13, 3) := by decide +kernel
theorem dX9_chipOf_117 : decode cX9_chipOf 117 = .ok (.aload_n 0, 1) := by decide +kernel
theorem dX9_chipOf_118 : decode cX9_chipOf 118 = .ok (.getfield 70, 3) := by decide +kernel
theorem dX9_chipOf_121 : decode cX9_chipOf 121 = .ok (.iload 4, 2) := by decide +kernel
theorem dX9_chipOf_123 : decode cX9_chipOf 123 = .ok (.iaload, 1) := by decide +kernel
theorem dX9_chipOf_124 : decode cX9_chipOf 124 = .ok (.goto 10, 3) := by decide +kernel
theorem dX9_chipOf_127 : decode cX9_chipOf 127 = .ok (.aload_n 0, 1) := by decide +kernel
theorem dX9_chipOf_128 : decode cX9_chipOf 128 = .ok (.getfield 73, 3) := by decide +kernel
theorem dX9_chipOf_131 : decode cX9_chipOf 131 = .ok (.iload 4, 2) := by decide +kernel
theorem dX9_chipOf_133 : decode cX9_chipOf 133 = .ok (.iaload, 1) := by decide +kernel
theorem dX9_chipOf_134 : decode cX9_chipOf 134 = .ok (.ireturn, 1) := by decide +kernel
theorem dX9_chipOf_135 : decode cX9_chipOf 135 = .ok (.iload_n 2, 1) := by decide +kernel
theorem dX9_chipOf_136 : decode cX9_chipOf 136 = .ok (.tableswitch 88 0 4 #[36, 43, 49, 55, 62], 36) := by decide +kernel
theorem dX9_chipOf_172 : decode cX9_chipOf 172 = .ok (.aload_n 0, 1) := by decide +kernel
theorem dX9_chipOf_173 : decode cX9_chipOf 173 = .ok (.getfield 33, 3) := by decide +kernel
theorem dX9_chipOf_176 : decode cX9_chipOf 176 = .ok (.iload_n 1, 1) := by decide +kernel
theorem dX9_chipOf_177 : decode cX9_chipOf 177 = .ok (.iaload, 1) := by decide +kernel
theorem dX9_chipOf_178 : decode cX9_chipOf 178 = .ok (.ireturn, 1) := by decide +kernel
theorem dX9_chipOf_179 : decode cX9_chipOf 179 = .ok (.aload_n 0, 1) := by decide +kernel
theorem dX9_chipOf_180 : decode cX9_chipOf 180 = .ok (.iload_n 1, 1) := by decide +kernel
theorem dX9_chipOf_181 : decode cX9_chipOf 181 = .ok (.invokevirtual 207, 3) := by decide +kernel
theorem dX9_chipOf_184 : decode cX9_chipOf 184 = .ok (.ireturn, 1) := by decide +kernel
theorem dX9_chipOf_185 : decode cX9_chipOf 185 = .ok (.aload_n 0, 1) := by decide +kernel
theorem dX9_chipOf_186 : decode cX9_chipOf 186 = .ok (.iload_n 1, 1) := by decide +kernel
theorem dX9_chipOf_187 : decode cX9_chipOf 187 = .ok (.invokevirtual 213, 3) := by decide +kernel
theorem dX9_chipOf_190 : decode cX9_chipOf 190 = .ok (.ireturn, 1) := by decide +kernel
theorem dX9_chipOf_191 : decode cX9_chipOf 191 = .ok (.aload_n 0, 1) := by decide +kernel
theorem dX9_chipOf_192 : decode cX9_chipOf 192 = .ok (.getfield 57, 3) := by decide +kernel
theorem dX9_chipOf_195 : decode cX9_chipOf 195 = .ok (.iload_n 1, 1) := by decide +kernel
theorem dX9_chipOf_196 : decode cX9_chipOf 196 = .ok (.iaload, 1) := by decide +kernel
theorem dX9_chipOf_197 : decode cX9_chipOf 197 = .ok (.ireturn, 1) := by decide +kernel
theorem dX9_chipOf_198 : decode cX9_chipOf 198 = .ok (.aload_n 0, 1) := by decide +kernel
theorem dX9_chipOf_199 : decode cX9_chipOf 199 = .ok (.getfield 60, 3) := by decide +kernel
theorem dX9_chipOf_202 : decode cX9_chipOf 202 = .ok (.iload_n 1, 1) := by decide +kernel
theorem dX9_chipOf_203 : decode cX9_chipOf 203 = .ok (.laload, 1) := by decide +kernel
theorem dX9_chipOf_204 : decode cX9_chipOf 204 = .ok (.ldc2_w 216, 3) := by decide +kernel
theorem dX9_chipOf_207 : decode cX9_chipOf 207 = .ok (.lcmp, 1) := by decide +kernel
theorem dX9_chipOf_208 : decode cX9_chipOf 208 = .ok (.ifCond .le 8, 3) := by decide +kernel
theorem dX9_chipOf_211 : decode cX9_chipOf 211 = .ok (.ldc 218, 2) := by decide +kernel
theorem dX9_chipOf_213 : decode cX9_chipOf 213 = .ok (.goto 10, 3) := by decide +kernel
theorem dX9_chipOf_216 : decode cX9_chipOf 216 = .ok (.aload_n 0, 1) := by decide +kernel
theorem dX9_chipOf_217 : decode cX9_chipOf 217 = .ok (.getfield 60, 3) := by decide +kernel
theorem dX9_chipOf_220 : decode cX9_chipOf 220 = .ok (.iload_n 1, 1) := by decide +kernel
theorem dX9_chipOf_221 : decode cX9_chipOf 221 = .ok (.laload, 1) := by decide +kernel
theorem dX9_chipOf_222 : decode cX9_chipOf 222 = .ok (.l2i, 1) := by decide +kernel
theorem dX9_chipOf_223 : decode cX9_chipOf 223 = .ok (.ireturn, 1) := by decide +kernel
theorem dX9_chipOf_224 : decode cX9_chipOf 224 = .ok (.iconst (-1), 1) := by decide +kernel
theorem dX9_chipOf_225 : decode cX9_chipOf 225 = .ok (.ireturn, 1) := by decide +kernel
theorem dX9_pulse_0 : decode cX9_pulse 0 = .ok (.aload_n 0, 1) := by decide +kernel
theorem dX9_pulse_1 : decode cX9_pulse 1 = .ok (.getfield 60, 3) := by decide +kernel
theorem dX9_pulse_4 : decode cX9_pulse 4 = .ok (.iload_n 1, 1) := by decide +kernel
theorem dX9_pulse_5 : decode cX9_pulse 5 = .ok (.dup2, 1) := by decide +kernel
theorem dX9_pulse_6 : decode cX9_pulse 6 = .ok (.laload, 1) := by decide +kernel
theorem dX9_pulse_7 : decode cX9_pulse 7 = .ok (.lconst 1, 1) := by decide +kernel
theorem dX9_pulse_8 : decode cX9_pulse 8 = .ok (.ladd, 1) := by decide +kernel
theorem dX9_pulse_9 : decode cX9_pulse 9 = .ok (.lastore, 1) := by decide +kernel
theorem dX9_pulse_10 : decode cX9_pulse 10 = .ok (.iload 4, 2) := by decide +kernel
theorem dX9_pulse_12 : decode cX9_pulse 12 = .ok (.aload_n 0, 1) := by decide +kernel
theorem dX9_pulse_13 : decode cX9_pulse 13 = .ok (.getfield 42, 3) := by decide +kernel
theorem dX9_pulse_16 : decode cX9_pulse 16 = .ok (.iload_n 1, 1) := by decide +kernel
theorem dX9_pulse_17 : decode cX9_pulse 17 = .ok (.iaload, 1) := by decide +kernel
theorem dX9_pulse_18 : decode cX9_pulse 18 = .ok (.if_icmp .ge 4, 3) := by decide +kernel
theorem dX9_pulse_21 : decode cX9_pulse 21 = .ok (.return_, 1) := by decide +kernel
theorem dX9_pulse_22 : decode cX9_pulse 22 = .ok (.bipush 64, 2) := by decide +kernel
theorem dX9_pulse_24 : decode cX9_pulse 24 = .ok (.iload_n 1, 1) := by decide +kernel
theorem dX9_pulse_25 : decode cX9_pulse 25 = .ok (.imul, 1) := by decide +kernel
theorem dX9_pulse_26 : decode cX9_pulse 26 = .ok (.iload_n 2, 1) := by decide +kernel
theorem dX9_pulse_27 : decode cX9_pulse 27 = .ok (.iadd, 1) := by decide +kernel
theorem dX9_pulse_28 : decode cX9_pulse 28 = .ok (.istore 5, 2) := by decide +kernel
theorem dX9_pulse_30 : decode cX9_pulse 30 = .ok (.aload_n 0, 1) := by decide +kernel
theorem dX9_pulse_31 : decode cX9_pulse 31 = .ok (.getfield 73, 3) := by decide +kernel
theorem dX9_pulse_34 : decode cX9_pulse 34 = .ok (.iload 5, 2) := by decide +kernel
theorem dX9_pulse_36 : decode cX9_pulse 36 = .ok (.aload_n 0, 1) := by decide +kernel
theorem dX9_pulse_37 : decode cX9_pulse 37 = .ok (.getfield 76, 3) := by decide +kernel
theorem dX9_pulse_40 : decode cX9_pulse 40 = .ok (.iload 5, 2) := by decide +kernel
theorem dX9_pulse_42 : decode cX9_pulse 42 = .ok (.iaload, 1) := by decide +kernel
theorem dX9_pulse_43 : decode cX9_pulse 43 = .ok (.iload_n 3, 1) := by decide +kernel
theorem dX9_pulse_44 : decode cX9_pulse 44 = .ok (.if_icmp .ne 15, 3) := by decide +kernel
theorem dX9_pulse_47 : decode cX9_pulse 47 = .ok (.aload_n 0, 1) := by decide +kernel
theorem dX9_pulse_48 : decode cX9_pulse 48 = .ok (.getfield 73, 3) := by decide +kernel
theorem dX9_pulse_51 : decode cX9_pulse 51 = .ok (.iload 5, 2) := by decide +kernel
theorem dX9_pulse_53 : decode cX9_pulse 53 = .ok (.iaload, 1) := by decide +kernel
theorem dX9_pulse_54 : decode cX9_pulse 54 = .ok (.iconst 1, 1) := by decide +kernel
theorem dX9_pulse_55 : decode cX9_pulse 55 = .ok (.iadd, 1) := by decide +kernel
theorem dX9_pulse_56 : decode cX9_pulse 56 = .ok (.goto 4, 3) := by decide +kernel
theorem dX9_pulse_59 : decode cX9_pulse 59 = .ok (.iconst 1, 1) := by decide +kernel
theorem dX9_pulse_60 : decode cX9_pulse 60 = .ok (.iastore, 1) := by decide +kernel
theorem dX9_pulse_61 : decode cX9_pulse 61 = .ok (.aload_n 0, 1) := by decide +kernel
theorem dX9_pulse_62 : decode cX9_pulse 62 = .ok (.getfield 76, 3) := by decide +kernel
theorem dX9_pulse_65 : decode cX9_pulse 65 = .ok (.iload 5, 2) := by decide +kernel
theorem dX9_pulse_67 : decode cX9_pulse 67 = .ok (.iload_n 3, 1) := by decide +kernel
theorem dX9_pulse_68 : decode cX9_pulse 68 = .ok (.iastore, 1) := by decide +kernel
theorem dX9_pulse_69 : decode cX9_pulse 69 = .ok (.aload_n 0, 1) := by decide +kernel
theorem dX9_pulse_70 : decode cX9_pulse 70 = .ok (.getfield 73, 3) := by decide +kernel
theorem dX9_pulse_73 : decode cX9_pulse 73 = .ok (.iload 5, 2) := by decide +kernel
theorem dX9_pulse_75 : decode cX9_pulse 75 = .ok (.iaload, 1) := by decide +kernel
theorem dX9_pulse_76 : decode cX9_pulse 76 = .ok (.aload_n 0, 1) := by decide +kernel
theorem dX9_pulse_77 : decode cX9_pulse 77 = .ok (.getfield 70, 3) := by decide +kernel
theorem dX9_pulse_80 : decode cX9_pulse 80 = .ok (.iload 5, 2) := by decide +kernel
theorem dX9_pulse_82 : decode cX9_pulse 82 = .ok (.iaload, 1) := by decide +kernel
theorem dX9_pulse_83 : decode cX9_pulse 83 = .ok (.if_icmp .lt 14, 3) := by decide +kernel
theorem dX9_pulse_86 : decode cX9_pulse 86 = .ok (.aload_n 0, 1) := by decide +kernel
theorem dX9_pulse_87 : decode cX9_pulse 87 = .ok (.getfield 64, 3) := by decide +kernel
theorem dX9_pulse_90 : decode cX9_pulse 90 = .ok (.iload 5, 2) := by decide +kernel
theorem dX9_pulse_92 : decode cX9_pulse 92 = .ok (.dup2, 1) := by decide +kernel
theorem dX9_pulse_93 : decode cX9_pulse 93 = .ok (.iaload, 1) := by decide +kernel
theorem dX9_pulse_94 : decode cX9_pulse 94 = .ok (.iload_n 3, 1) := by decide +kernel
theorem dX9_pulse_95 : decode cX9_pulse 95 = .ok (.iand, 1) := by decide +kernel
theorem dX9_pulse_96 : decode cX9_pulse 96 = .ok (.iastore, 1) := by decide +kernel
theorem dX9_pulse_97 : decode cX9_pulse 97 = .ok (.aload_n 0, 1) := by decide +kernel
theorem dX9_pulse_98 : decode cX9_pulse 98 = .ok (.getfield 73, 3) := by decide +kernel
theorem dX9_pulse_101 : decode cX9_pulse 101 = .ok (.iload 5, 2) := by decide +kernel
theorem dX9_pulse_103 : decode cX9_pulse 103 = .ok (.iaload, 1) := by decide +kernel
theorem dX9_pulse_104 : decode cX9_pulse 104 = .ok (.aload_n 0, 1) := by decide +kernel
theorem dX9_pulse_105 : decode cX9_pulse 105 = .ok (.getfield 70, 3) := by decide +kernel
theorem dX9_pulse_108 : decode cX9_pulse 108 = .ok (.iload 5, 2) := by decide +kernel
theorem dX9_pulse_110 : decode cX9_pulse 110 = .ok (.iaload, 1) := by decide +kernel
theorem dX9_pulse_111 : decode cX9_pulse 111 = .ok (.aload_n 0, 1) := by decide +kernel
theorem dX9_pulse_112 : decode cX9_pulse 112 = .ok (.getfield 51, 3) := by decide +kernel
theorem dX9_pulse_115 : decode cX9_pulse 115 = .ok (.iload_n 1, 1) := by decide +kernel
theorem dX9_pulse_116 : decode cX9_pulse 116 = .ok (.iaload, 1) := by decide +kernel
theorem dX9_pulse_117 : decode cX9_pulse 117 = .ok (.iadd, 1) := by decide +kernel
theorem dX9_pulse_118 : decode cX9_pulse 118 = .ok (.if_icmp .lt 14, 3) := by decide +kernel
theorem dX9_pulse_121 : decode cX9_pulse 121 = .ok (.aload_n 0, 1) := by decide +kernel
theorem dX9_pulse_122 : decode cX9_pulse 122 = .ok (.getfield 67, 3) := by decide +kernel
theorem dX9_pulse_125 : decode cX9_pulse 125 = .ok (.iload 5, 2) := by decide +kernel
theorem dX9_pulse_127 : decode cX9_pulse 127 = .ok (.dup2, 1) := by decide +kernel
theorem dX9_pulse_128 : decode cX9_pulse 128 = .ok (.iaload, 1) := by decide +kernel
theorem dX9_pulse_129 : decode cX9_pulse 129 = .ok (.iload_n 3, 1) := by decide +kernel
theorem dX9_pulse_130 : decode cX9_pulse 130 = .ok (.iand, 1) := by decide +kernel
theorem dX9_pulse_131 : decode cX9_pulse 131 = .ok (.iastore, 1) := by decide +kernel
theorem dX9_pulse_132 : decode cX9_pulse 132 = .ok (.return_, 1) := by decide +kernel
theorem dX9_see_0 : decode cX9_see 0 = .ok (.iload_n 1, 1) := by decide +kernel
theorem dX9_see_1 : decode cX9_see 1 = .ok (.aload_n 0, 1) := by decide +kernel
theorem dX9_see_2 : decode cX9_see 2 = .ok (.getfield 130, 3) := by decide +kernel
theorem dX9_see_5 : decode cX9_see 5 = .ok (.if_icmp .ge 12, 3) := by decide +kernel
theorem dX9_see_8 : decode cX9_see 8 = .ok (.aload_n 0, 1) := by decide +kernel
theorem dX9_see_9 : decode cX9_see 9 = .ok (.getfield 13, 3) := by decide +kernel
theorem dX9_see_12 : decode cX9_see 12 = .ok (.iload_n 1, 1) := by decide +kernel
theorem dX9_see_13 : decode cX9_see 13 = .ok (.iaload, 1) := by decide +kernel
theorem dX9_see_14 : decode cX9_see 14 = .ok (.goto 4, 3) := by decide +kernel
theorem dX9_see_17 : decode cX9_see 17 = .ok (.iconst (-1), 1) := by decide +kernel
theorem dX9_see_18 : decode cX9_see 18 = .ok (.ireturn, 1) := by decide +kernel
theorem dX9_isLetter_0 : decode cX9_isLetter 0 = .ok (.iload_n 0, 1) := by decide +kernel
theorem dX9_isLetter_1 : decode cX9_isLetter 1 = .ok (.bipush 97, 2) := by decide +kernel
theorem dX9_isLetter_3 : decode cX9_isLetter 3 = .ok (.bipush 122, 2) := by decide +kernel
theorem dX9_isLetter_5 : decode cX9_isLetter 5 = .ok (.invokestatic 137, 3) := by decide +kernel
theorem dX9_isLetter_8 : decode cX9_isLetter 8 = .ok (.ifCond .ne 14, 3) := by decide +kernel
theorem dX9_isLetter_11 : decode cX9_isLetter 11 = .ok (.iload_n 0, 1) := by decide +kernel
theorem dX9_isLetter_12 : decode cX9_isLetter 12 = .ok (.bipush 65, 2) := by decide +kernel
theorem dX9_isLetter_14 : decode cX9_isLetter 14 = .ok (.bipush 90, 2) := by decide +kernel
theorem dX9_isLetter_16 : decode cX9_isLetter 16 = .ok (.invokestatic 137, 3) := by decide +kernel
theorem dX9_isLetter_19 : decode cX9_isLetter 19 = .ok (.ifCond .eq 7, 3) := by decide +kernel
theorem dX9_isLetter_22 : decode cX9_isLetter 22 = .ok (.iconst 1, 1) := by decide +kernel
theorem dX9_isLetter_23 : decode cX9_isLetter 23 = .ok (.goto 4, 3) := by decide +kernel
theorem dX9_isLetter_26 : decode cX9_isLetter 26 = .ok (.iconst 0, 1) := by decide +kernel
theorem dX9_isLetter_27 : decode cX9_isLetter 27 = .ok (.ireturn, 1) := by decide +kernel
theorem dX9_isDigit_0 : decode cX9_isDigit 0 = .ok (.iload_n 0, 1) := by decide +kernel
theorem dX9_isDigit_1 : decode cX9_isDigit 1 = .ok (.bipush 48, 2) := by decide +kernel
theorem dX9_isDigit_3 : decode cX9_isDigit 3 = .ok (.bipush 57, 2) := by decide +kernel
theorem dX9_isDigit_5 : decode cX9_isDigit 5 = .ok (.invokestatic 137, 3) := by decide +kernel
theorem dX9_isDigit_8 : decode cX9_isDigit 8 = .ok (.ireturn, 1) := by decide +kernel
theorem dX9_add_0 : decode cX9_add 0 = .ok (.lload_n 0, 1) := by decide +kernel
theorem dX9_add_1 : decode cX9_add 1 = .ok (.bipush 8, 2) := by decide +kernel
theorem dX9_add_3 : decode cX9_add 3 = .ok (.lshl, 1) := by decide +kernel
theorem dX9_add_4 : decode cX9_add 4 = .ok (.iload_n 2, 1) := by decide +kernel
theorem dX9_add_5 : decode cX9_add 5 = .ok (.i2l, 1) := by decide +kernel
theorem dX9_add_6 : decode cX9_add 6 = .ok (.lor, 1) := by decide +kernel
theorem dX9_add_7 : decode cX9_add 7 = .ok (.bipush 8, 2) := by decide +kernel
theorem dX9_add_9 : decode cX9_add 9 = .ok (.lshl, 1) := by decide +kernel
theorem dX9_add_10 : decode cX9_add 10 = .ok (.iload_n 3, 1) := by decide +kernel
theorem dX9_add_11 : decode cX9_add 11 = .ok (.i2l, 1) := by decide +kernel
theorem dX9_add_12 : decode cX9_add 12 = .ok (.lor, 1) := by decide +kernel
theorem dX9_add_13 : decode cX9_add 13 = .ok (.lreturn, 1) := by decide +kernel
theorem dX9_wordOf_0 : decode cX9_wordOf 0 = .ok (.lload_n 0, 1) := by decide +kernel
theorem dX9_wordOf_1 : decode cX9_wordOf 1 = .ok (.lconst 0, 1) := by decide +kernel
theorem dX9_wordOf_2 : decode cX9_wordOf 2 = .ok (.bipush 118, 2) := by decide +kernel
theorem dX9_wordOf_4 : decode cX9_wordOf 4 = .ok (.bipush 111, 2) := by decide +kernel
theorem dX9_wordOf_6 : decode cX9_wordOf 6 = .ok (.invokestatic 219, 3) := by decide +kernel
theorem dX9_wordOf_9 : decode cX9_wordOf 9 = .ok (.bipush 108, 2) := by decide +kernel
theorem dX9_wordOf_11 : decode cX9_wordOf 11 = .ok (.bipush 116, 2) := by decide +kernel
theorem dX9_wordOf_13 : decode cX9_wordOf 13 = .ok (.invokestatic 219, 3) := by decide +kernel
theorem dX9_wordOf_16 : decode cX9_wordOf 16 = .ok (.lcmp, 1) := by decide +kernel
theorem dX9_wordOf_17 : decode cX9_wordOf 17 = .ok (.ifCond .ne 6, 3) := by decide +kernel
theorem dX9_wordOf_20 : decode cX9_wordOf 20 = .ok (.bipush 6, 2) := by decide +kernel
theorem dX9_wordOf_22 : decode cX9_wordOf 22 = .ok (.ireturn, 1) := by decide +kernel
theorem dX9_wordOf_23 : decode cX9_wordOf 23 = .ok (.lload_n 0, 1) := by decide +kernel
theorem dX9_wordOf_24 : decode cX9_wordOf 24 = .ok (.ldc2_w 223, 3) := by decide +kernel
theorem dX9_wordOf_27 : decode cX9_wordOf 27 = .ok (.bipush 117, 2) := by decide +kernel
theorem dX9_wordOf_29 : decode cX9_wordOf 29 = .ok (.bipush 108, 2) := by decide +kernel
theorem dX9_wordOf_31 : decode cX9_wordOf 31 = .ok (.invokestatic 219, 3) := by decide +kernel
theorem dX9_wordOf_34 : decode cX9_wordOf 34 = .ok (.bipush 115, 2) := by decide +kernel
theorem dX9_wordOf_36 : decode cX9_wordOf 36 = .ok (.bipush 101, 2) := by decide +kernel
theorem dX9_wordOf_38 : decode cX9_wordOf 38 = .ok (.invokestatic 219, 3) := by decide +kernel
theorem dX9_wordOf_41 : decode cX9_wordOf 41 = .ok (.lcmp, 1) := by decide +kernel
theorem dX9_wordOf_42 : decode cX9_wordOf 42 = .ok (.ifCond .ne 6, 3) := by decide +kernel
theorem dX9_wordOf_45 : decode cX9_wordOf 45 = .ok (.bipush 7, 2) := by decide +kernel
theorem dX9_wordOf_47 : decode cX9_wordOf 47 = .ok (.ireturn, 1) := by decide +kernel
theorem dX9_wordOf_48 : decode cX9_wordOf 48 = .ok (.lload_n 0, 1) := by decide +kernel
theorem dX9_wordOf_49 : decode cX9_wordOf 49 = .ok (.lconst 0, 1) := by decide +kernel
theorem dX9_wordOf_50 : decode cX9_wordOf 50 = .ok (.bipush 118, 2) := by decide +kernel
theorem dX9_wordOf_52 : decode cX9_wordOf 52 = .ok (.bipush 101, 2) := by decide +kernel
theorem dX9_wordOf_54 : decode cX9_wordOf 54 = .ok (.invokestatic 219, 3) := by decide +kernel
theorem dX9_wordOf_57 : decode cX9_wordOf 57 = .ok (.bipush 114, 2) := by decide +kernel
theorem dX9_wordOf_59 : decode cX9_wordOf 59 = .ok (.bipush 105, 2) := by decide +kernel
theorem dX9_wordOf_61 : decode cX9_wordOf 61 = .ok (.invokestatic 219, 3) := by decide +kernel
theorem dX9_wordOf_64 : decode cX9_wordOf 64 = .ok (.bipush 102, 2) := by decide +kernel
theorem dX9_wordOf_66 : decode cX9_wordOf 66 = .ok (.bipush 121, 2) := by decide +kernel
theorem dX9_wordOf_68 : decode cX9_wordOf 68 = .ok (.invokestatic 219, 3) := by decide +kernel
theorem dX9_wordOf_71 : decode cX9_wordOf 71 = .ok (.lcmp, 1) := by decide +kernel
theorem dX9_wordOf_72 : decode cX9_wordOf 72 = .ok (.ifCond .ne 6, 3) := by decide +kernel
theorem dX9_wordOf_75 : decode cX9_wordOf 75 = .ok (.bipush 8, 2) := by decide +kernel
theorem dX9_wordOf_77 : decode cX9_wordOf 77 = .ok (.ireturn, 1) := by decide +kernel
theorem dX9_wordOf_78 : decode cX9_wordOf 78 = .ok (.lload_n 0, 1) := by decide +kernel
theorem dX9_wordOf_79 : decode cX9_wordOf 79 = .ok (.ldc2_w 225, 3) := by decide +kernel
theorem dX9_wordOf_82 : decode cX9_wordOf 82 = .ok (.bipush 114, 2) := by decide +kernel
theorem dX9_wordOf_84 : decode cX9_wordOf 84 = .ok (.bipush 121, 2) := by decide +kernel
theorem dX9_wordOf_86 : decode cX9_wordOf 86 = .ok (.invokestatic 219, 3) := by decide +kernel
theorem dX9_wordOf_89 : decode cX9_wordOf 89 = .ok (.lcmp, 1) := by decide +kernel
theorem dX9_wordOf_90 : decode cX9_wordOf 90 = .ok (.ifCond .ne 6, 3) := by decide +kernel
theorem dX9_wordOf_93 : decode cX9_wordOf 93 = .ok (.bipush 9, 2) := by decide +kernel
theorem dX9_wordOf_95 : decode cX9_wordOf 95 = .ok (.ireturn, 1) := by decide +kernel
theorem dX9_wordOf_96 : decode cX9_wordOf 96 = .ok (.lload_n 0, 1) := by decide +kernel
theorem dX9_wordOf_97 : decode cX9_wordOf 97 = .ok (.lconst 0, 1) := by decide +kernel
theorem dX9_wordOf_98 : decode cX9_wordOf 98 = .ok (.bipush 111, 2) := by decide +kernel
theorem dX9_wordOf_100 : decode cX9_wordOf 100 = .ok (.bipush 107, 2) := by decide +kernel
theorem dX9_wordOf_102 : decode cX9_wordOf 102 = .ok (.invokestatic 219, 3) := by decide +kernel
theorem dX9_wordOf_105 : decode cX9_wordOf 105 = .ok (.lcmp, 1) := by decide +kernel
theorem dX9_wordOf_106 : decode cX9_wordOf 106 = .ok (.ifCond .ne 6, 3) := by decide +kernel
theorem dX9_wordOf_109 : decode cX9_wordOf 109 = .ok (.bipush 10, 2) := by decide +kernel
theorem dX9_wordOf_111 : decode cX9_wordOf 111 = .ok (.ireturn, 1) := by decide +kernel
theorem dX9_wordOf_112 : decode cX9_wordOf 112 = .ok (.lload_n 0, 1) := by decide +kernel
theorem dX9_wordOf_113 : decode cX9_wordOf 113 = .ok (.lconst 0, 1) := by decide +kernel
theorem dX9_wordOf_114 : decode cX9_wordOf 114 = .ok (.bipush 101, 2) := by decide +kernel
theorem dX9_wordOf_116 : decode cX9_wordOf 116 = .ok (.bipush 108, 2) := by decide +kernel
theorem dX9_wordOf_118 : decode cX9_wordOf 118 = .ok (.invokestatic 219, 3) := by decide +kernel
theorem dX9_wordOf_121 : decode cX9_wordOf 121 = .ok (.bipush 115, 2) := by decide +kernel
theorem dX9_wordOf_123 : decode cX9_wordOf 123 = .ok (.bipush 101, 2) := by decide +kernel
theorem dX9_wordOf_125 : decode cX9_wordOf 125 = .ok (.invokestatic 219, 3) := by decide +kernel
theorem dX9_wordOf_128 : decode cX9_wordOf 128 = .ok (.lcmp, 1) := by decide +kernel
theorem dX9_wordOf_129 : decode cX9_wordOf 129 = .ok (.ifCond .ne 8, 3) := by decide +kernel
theorem dX9_wordOf_132 : decode cX9_wordOf 132 = .ok (.bipush 11, 2) := by decide +kernel
theorem dX9_wordOf_134 : decode cX9_wordOf 134 = .ok (.goto 4, 3) := by decide +kernel
theorem dX9_wordOf_137 : decode cX9_wordOf 137 = .ok (.iconst 5, 1) := by decide +kernel
theorem dX9_wordOf_138 : decode cX9_wordOf 138 = .ok (.ireturn, 1) := by decide +kernel
theorem dX9_nextToken_0 : decode cX9_nextToken 0 = .ok (.aload_n 0, 1) := by decide +kernel
theorem dX9_nextToken_1 : decode cX9_nextToken 1 = .ok (.aload_n 0, 1) := by decide +kernel
theorem dX9_nextToken_2 : decode cX9_nextToken 2 = .ok (.getfield 227, 3) := by decide +kernel
theorem dX9_nextToken_5 : decode cX9_nextToken 5 = .ok (.invokevirtual 230, 3) := by decide +kernel
theorem dX9_nextToken_8 : decode cX9_nextToken 8 = .ok (.bipush 32, 2) := by decide +kernel
theorem dX9_nextToken_10 : decode cX9_nextToken 10 = .ok (.if_icmp .eq 16, 3) := by decide +kernel
theorem dX9_nextToken_13 : decode cX9_nextToken 13 = .ok (.aload_n 0, 1) := by decide +kernel
theorem dX9_nextToken_14 : decode cX9_nextToken 14 = .ok (.aload_n 0, 1) := by decide +kernel
theorem dX9_nextToken_15 : decode cX9_nextToken 15 = .ok (.getfield 227, 3) := by decide +kernel
theorem dX9_nextToken_18 : decode cX9_nextToken 18 = .ok (.invokevirtual 230, 3) := by decide +kernel
theorem dX9_nextToken_21 : decode cX9_nextToken 21 = .ok (.bipush 10, 2) := by decide +kernel
theorem dX9_nextToken_23 : decode cX9_nextToken 23 = .ok (.if_icmp .ne 16, 3) := by decide +kernel
theorem dX9_nextToken_26 : decode cX9_nextToken 26 = .ok (.aload_n 0, 1) := by decide +kernel
theorem dX9_nextToken_27 : decode cX9_nextToken 27 = .ok (.dup, 1) := by decide +kernel
theorem dX9_nextToken_28 : decode cX9_nextToken 28 = .ok (.getfield 227, 3) := by decide +kernel
theorem dX9_nextToken_31 : decode cX9_nextToken 31 = .ok (.iconst 1, 1) := by decide +kernel
theorem dX9_nextToken_32 : decode cX9_nextToken 32 = .ok (.iadd, 1) := by decide +kernel
theorem dX9_nextToken_33 : decode cX9_nextToken 33 = .ok (.putfield 227, 3) := by decide +kernel
theorem dX9_nextToken_36 : decode cX9_nextToken 36 = .ok (.goto (-36), 3) := by decide +kernel
theorem dX9_nextToken_39 : decode cX9_nextToken 39 = .ok (.aload_n 0, 1) := by decide +kernel
theorem dX9_nextToken_40 : decode cX9_nextToken 40 = .ok (.aload_n 0, 1) := by decide +kernel
theorem dX9_nextToken_41 : decode cX9_nextToken 41 = .ok (.getfield 227, 3) := by decide +kernel
theorem dX9_nextToken_44 : decode cX9_nextToken 44 = .ok (.putfield 233, 3) := by decide +kernel
theorem dX9_nextToken_47 : decode cX9_nextToken 47 = .ok (.aload_n 0, 1) := by decide +kernel
theorem dX9_nextToken_48 : decode cX9_nextToken 48 = .ok (.aload_n 0, 1) := by decide +kernel
theorem dX9_nextToken_49 : decode cX9_nextToken 49 = .ok (.getfield 227, 3) := by decide +kernel
theorem dX9_nextToken_52 : decode cX9_nextToken 52 = .ok (.invokevirtual 230, 3) := by decide +kernel
theorem dX9_nextToken_55 : decode cX9_nextToken 55 = .ok (.istore_n 1, 1) := by decide +kernel
theorem dX9_nextToken_56 : decode cX9_nextToken 56 = .ok (.iload_n 1, 1) := by decide +kernel
theorem dX9_nextToken_57 : decode cX9_nextToken 57 = .ok (.ifCond .ge 11, 3) := by decide +kernel
theorem dX9_nextToken_60 : decode cX9_nextToken 60 = .ok (.aload_n 0, 1) := by decide +kernel
theorem dX9_nextToken_61 : decode cX9_nextToken 61 = .ok (.iconst 0, 1) := by decide +kernel
theorem dX9_nextToken_62 : decode cX9_nextToken 62 = .ok (.putfield 236, 3) := by decide +kernel
theorem dX9_nextToken_65 : decode cX9_nextToken 65 = .ok (.goto 218, 3) := by decide +kernel
theorem dX9_nextToken_68 : decode cX9_nextToken 68 = .ok (.iload_n 1, 1) := by decide +kernel
theorem dX9_nextToken_69 : decode cX9_nextToken 69 = .ok (.invokestatic 239, 3) := by decide +kernel
theorem dX9_nextToken_72 : decode cX9_nextToken 72 = .ok (.ifCond .eq 72, 3) := by decide +kernel
theorem dX9_nextToken_75 : decode cX9_nextToken 75 = .ok (.aload_n 0, 1) := by decide +kernel
theorem dX9_nextToken_76 : decode cX9_nextToken 76 = .ok (.iconst 1, 1) := by decide +kernel
theorem dX9_nextToken_77 : decode cX9_nextToken 77 = .ok (.putfield 236, 3) := by decide +kernel
theorem dX9_nextToken_80 : decode cX9_nextToken 80 = .ok (.aload_n 0, 1) := by decide +kernel
theorem dX9_nextToken_81 : decode cX9_nextToken 81 = .ok (.iconst 0, 1) := by decide +kernel
theorem dX9_nextToken_82 : decode cX9_nextToken 82 = .ok (.putfield 242, 3) := by decide +kernel
theorem dX9_nextToken_85 : decode cX9_nextToken 85 = .ok (.aload_n 0, 1) := by decide +kernel
theorem dX9_nextToken_86 : decode cX9_nextToken 86 = .ok (.aload_n 0, 1) := by decide +kernel
theorem dX9_nextToken_87 : decode cX9_nextToken 87 = .ok (.getfield 227, 3) := by decide +kernel
theorem dX9_nextToken_90 : decode cX9_nextToken 90 = .ok (.invokevirtual 230, 3) := by decide +kernel
theorem dX9_nextToken_93 : decode cX9_nextToken 93 = .ok (.invokestatic 239, 3) := by decide +kernel
theorem dX9_nextToken_96 : decode cX9_nextToken 96 = .ok (.ifCond .eq 187, 3) := by decide +kernel
theorem dX9_nextToken_99 : decode cX9_nextToken 99 = .ok (.aload_n 0, 1) := by decide +kernel
theorem dX9_nextToken_100 : decode cX9_nextToken 100 = .ok (.getfield 242, 3) := by decide +kernel
theorem dX9_nextToken_103 : decode cX9_nextToken 103 = .ok (.ldc 245, 2) := by decide +kernel
theorem dX9_nextToken_105 : decode cX9_nextToken 105 = .ok (.if_icmp .ge 26, 3) := by decide +kernel
theorem dX9_nextToken_108 : decode cX9_nextToken 108 = .ok (.aload_n 0, 1) := by decide +kernel
theorem dX9_nextToken_109 : decode cX9_nextToken 109 = .ok (.bipush 10, 2) := by decide +kernel
theorem dX9_nextToken_111 : decode cX9_nextToken 111 = .ok (.aload_n 0, 1) := by decide +kernel
theorem dX9_nextToken_112 : decode cX9_nextToken 112 = .ok (.getfield 242, 3) := by decide +kernel
theorem dX9_nextToken_115 : decode cX9_nextToken 115 = .ok (.imul, 1) := by decide +kernel
theorem dX9_nextToken_116 : decode cX9_nextToken 116 = .ok (.aload_n 0, 1) := by decide +kernel
theorem dX9_nextToken_117 : decode cX9_nextToken 117 = .ok (.aload_n 0, 1) := by decide +kernel
theorem dX9_nextToken_118 : decode cX9_nextToken 118 = .ok (.getfield 227, 3) := by decide +kernel
theorem dX9_nextToken_121 : decode cX9_nextToken 121 = .ok (.invokevirtual 230, 3) := by decide +kernel
theorem dX9_nextToken_124 : decode cX9_nextToken 124 = .ok (.iadd, 1) := by decide +kernel
theorem dX9_nextToken_125 : decode cX9_nextToken 125 = .ok (.bipush 48, 2) := by decide +kernel
theorem dX9_nextToken_127 : decode cX9_nextToken 127 = .ok (.isub, 1) := by decide +kernel
theorem dX9_nextToken_128 : decode cX9_nextToken 128 = .ok (.putfield 242, 3) := by decide +kernel
theorem dX9_nextToken_131 : decode cX9_nextToken 131 = .ok (.aload_n 0, 1) := by decide +kernel
theorem dX9_nextToken_132 : decode cX9_nextToken 132 = .ok (.dup, 1) := by decide +kernel
theorem dX9_nextToken_133 : decode cX9_nextToken 133 = .ok (.getfield 227, 3) := by decide +kernel
theorem dX9_nextToken_136 : decode cX9_nextToken 136 = .ok (.iconst 1, 1) := by decide +kernel
theorem dX9_nextToken_137 : decode cX9_nextToken 137 = .ok (.iadd, 1) := by decide +kernel
theorem dX9_nextToken_138 : decode cX9_nextToken 138 = .ok (.putfield 227, 3) := by decide +kernel
theorem dX9_nextToken_141 : decode cX9_nextToken 141 = .ok (.goto (-56), 3) := by decide +kernel
theorem dX9_nextToken_144 : decode cX9_nextToken 144 = .ok (.iload_n 1, 1) := by decide +kernel
theorem dX9_nextToken_145 : decode cX9_nextToken 145 = .ok (.invokestatic 246, 3) := by decide +kernel
theorem dX9_nextToken_148 : decode cX9_nextToken 148 = .ok (.ifCond .eq 90, 3) := by decide +kernel
theorem dX9_nextToken_151 : decode cX9_nextToken 151 = .ok (.lconst 0, 1) := by decide +kernel
theorem dX9_nextToken_152 : decode cX9_nextToken 152 = .ok (.lstore_n 2, 1) := by decide +kernel
theorem dX9_nextToken_153 : decode cX9_nextToken 153 = .ok (.aload_n 0, 1) := by decide +kernel
theorem dX9_nextToken_154 : decode cX9_nextToken 154 = .ok (.aload_n 0, 1) := by decide +kernel
theorem dX9_nextToken_155 : decode cX9_nextToken 155 = .ok (.getfield 227, 3) := by decide +kernel
theorem dX9_nextToken_158 : decode cX9_nextToken 158 = .ok (.invokevirtual 230, 3) := by decide +kernel
theorem dX9_nextToken_161 : decode cX9_nextToken 161 = .ok (.invokestatic 246, 3) := by decide +kernel
theorem dX9_nextToken_164 : decode cX9_nextToken 164 = .ok (.ifCond .eq 45, 3) := by decide +kernel
theorem dX9_nextToken_167 : decode cX9_nextToken 167 = .ok (.aload_n 0, 1) := by decide +kernel
theorem dX9_nextToken_168 : decode cX9_nextToken 168 = .ok (.getfield 227, 3) := by decide +kernel
theorem dX9_nextToken_171 : decode cX9_nextToken 171 = .ok (.aload_n 0, 1) := by decide +kernel
theorem dX9_nextToken_172 : decode cX9_nextToken 172 = .ok (.getfield 233, 3) := by decide +kernel
theorem dX9_nextToken_175 : decode cX9_nextToken 175 = .ok (.isub, 1) := by decide +kernel
theorem dX9_nextToken_176 : decode cX9_nextToken 176 = .ok (.bipush 7, 2) := by decide +kernel
theorem dX9_nextToken_178 : decode cX9_nextToken 178 = .ok (.if_icmp .ge 18, 3) := by decide +kernel
theorem dX9_nextToken_181 : decode cX9_nextToken 181 = .ok (.lload_n 2, 1) := by decide +kernel
theorem dX9_nextToken_182 : decode cX9_nextToken 182 = .ok (.bipush 8, 2) := by decide +kernel
theorem dX9_nextToken_184 : decode cX9_nextToken 184 = .ok (.lshl, 1) := by decide +kernel
theorem dX9_nextToken_185 : decode cX9_nextToken 185 = .ok (.aload_n 0, 1) := by decide +kernel
theorem dX9_nextToken_186 : decode cX9_nextToken 186 = .ok (.aload_n 0, 1) := by decide +kernel
theorem dX9_nextToken_187 : decode cX9_nextToken 187 = .ok (.getfield 227, 3) := by decide +kernel
theorem dX9_nextToken_190 : decode cX9_nextToken 190 = .ok (.invokevirtual 230, 3) := by decide +kernel
theorem dX9_nextToken_193 : decode cX9_nextToken 193 = .ok (.i2l, 1) := by decide +kernel
theorem dX9_nextToken_194 : decode cX9_nextToken 194 = .ok (.lor, 1) := by decide +kernel
theorem dX9_nextToken_195 : decode cX9_nextToken 195 = .ok (.lstore_n 2, 1) := by decide +kernel
theorem dX9_nextToken_196 : decode cX9_nextToken 196 = .ok (.aload_n 0, 1) := by decide +kernel
theorem dX9_nextToken_197 : decode cX9_nextToken 197 = .ok (.dup, 1) := by decide +kernel
theorem dX9_nextToken_198 : decode cX9_nextToken 198 = .ok (.getfield 227, 3) := by decide +kernel
theorem dX9_nextToken_201 : decode cX9_nextToken 201 = .ok (.iconst 1, 1) := by decide +kernel
theorem dX9_nextToken_202 : decode cX9_nextToken 202 = .ok (.iadd, 1) := by decide +kernel
theorem dX9_nextToken_203 : decode cX9_nextToken 203 = .ok (.putfield 227, 3) := by decide +kernel
theorem dX9_nextToken_206 : decode cX9_nextToken 206 = .ok (.goto (-53), 3) := by decide +kernel
theorem dX9_nextToken_209 : decode cX9_nextToken 209 = .ok (.aload_n 0, 1) := by decide +kernel
theorem dX9_nextToken_210 : decode cX9_nextToken 210 = .ok (.aload_n 0, 1) := by decide +kernel
theorem dX9_nextToken_211 : decode cX9_nextToken 211 = .ok (.getfield 227, 3) := by decide +kernel
theorem dX9_nextToken_214 : decode cX9_nextToken 214 = .ok (.aload_n 0, 1) := by decide +kernel
theorem dX9_nextToken_215 : decode cX9_nextToken 215 = .ok (.getfield 233, 3) := by decide +kernel
theorem dX9_nextToken_218 : decode cX9_nextToken 218 = .ok (.isub, 1) := by decide +kernel
theorem dX9_nextToken_219 : decode cX9_nextToken 219 = .ok (.bipush 6, 2) := by decide +kernel
theorem dX9_nextToken_221 : decode cX9_nextToken 221 = .ok (.if_icmp .le 7, 3) := by decide +kernel
theorem dX9_nextToken_224 : decode cX9_nextToken 224 = .ok (.iconst 5, 1) := by decide +kernel
theorem dX9_nextToken_225 : decode cX9_nextToken 225 = .ok (.goto 7, 3) := by decide +kernel
theorem dX9_nextToken_228 : decode cX9_nextToken 228 = .ok (.lload_n 2, 1) := by decide +kernel
theorem dX9_nextToken_229 : decode cX9_nextToken 229 = .ok (.invokestatic 249, 3) := by decide +kernel
theorem dX9_nextToken_232 : decode cX9_nextToken 232 = .ok (.putfield 236, 3) := by decide +kernel
theorem dX9_nextToken_235 : decode cX9_nextToken 235 = .ok (.goto 48, 3) := by decide +kernel
theorem dX9_nextToken_238 : decode cX9_nextToken 238 = .ok (.aload_n 0, 1) := by decide +kernel
theorem dX9_nextToken_239 : decode cX9_nextToken 239 = .ok (.iload_n 1, 1) := by decide +kernel
theorem dX9_nextToken_240 : decode cX9_nextToken 240 = .ok (.bipush 59, 2) := by decide +kernel
theorem dX9_nextToken_242 : decode cX9_nextToken 242 = .ok (.if_icmp .ne 7, 3) := by decide +kernel
theorem dX9_nextToken_245 : decode cX9_nextToken 245 = .ok (.iconst 2, 1) := by decide +kernel
theorem dX9_nextToken_246 : decode cX9_nextToken 246 = .ok (.goto 24, 3) := by decide +kernel
theorem dX9_nextToken_249 : decode cX9_nextToken 249 = .ok (.iload_n 1, 1) := by decide +kernel
theorem dX9_nextToken_250 : decode cX9_nextToken 250 = .ok (.bipush 123, 2) := by decide +kernel
theorem dX9_nextToken_252 : decode cX9_nextToken 252 = .ok (.if_icmp .ne 7, 3) := by decide +kernel
theorem dX9_nextToken_255 : decode cX9_nextToken 255 = .ok (.iconst 3, 1) := by decide +kernel
theorem dX9_nextToken_256 : decode cX9_nextToken 256 = .ok (.goto 14, 3) := by decide +kernel
theorem dX9_nextToken_259 : decode cX9_nextToken 259 = .ok (.iload_n 1, 1) := by decide +kernel
theorem dX9_nextToken_260 : decode cX9_nextToken 260 = .ok (.bipush 125, 2) := by decide +kernel
theorem dX9_nextToken_262 : decode cX9_nextToken 262 = .ok (.if_icmp .ne 7, 3) := by decide +kernel
theorem dX9_nextToken_265 : decode cX9_nextToken 265 = .ok (.iconst 4, 1) := by decide +kernel
theorem dX9_nextToken_266 : decode cX9_nextToken 266 = .ok (.goto 4, 3) := by decide +kernel
theorem dX9_nextToken_269 : decode cX9_nextToken 269 = .ok (.iconst 5, 1) := by decide +kernel
theorem dX9_nextToken_270 : decode cX9_nextToken 270 = .ok (.putfield 236, 3) := by decide +kernel
theorem dX9_nextToken_273 : decode cX9_nextToken 273 = .ok (.aload_n 0, 1) := by decide +kernel
theorem dX9_nextToken_274 : decode cX9_nextToken 274 = .ok (.dup, 1) := by decide +kernel
theorem dX9_nextToken_275 : decode cX9_nextToken 275 = .ok (.getfield 227, 3) := by decide +kernel
theorem dX9_nextToken_278 : decode cX9_nextToken 278 = .ok (.iconst 1, 1) := by decide +kernel
theorem dX9_nextToken_279 : decode cX9_nextToken 279 = .ok (.iadd, 1) := by decide +kernel
theorem dX9_nextToken_280 : decode cX9_nextToken 280 = .ok (.putfield 227, 3) := by decide +kernel
theorem dX9_nextToken_283 : decode cX9_nextToken 283 = .ok (.return_, 1) := by decide +kernel
theorem dX9_order_0 : decode cX9_order 0 = .ok (.sipush 400, 3) := by decide +kernel
theorem dX9_order_3 : decode cX9_order 3 = .ok (.aload_n 0, 1) := by decide +kernel
theorem dX9_order_4 : decode cX9_order 4 = .ok (.getfield 253, 3) := by decide +kernel
theorem dX9_order_7 : decode cX9_order 7 = .ok (.iadd, 1) := by decide +kernel
theorem dX9_order_8 : decode cX9_order 8 = .ok (.istore 4, 2) := by decide +kernel
theorem dX9_order_10 : decode cX9_order 10 = .ok (.aload_n 0, 1) := by decide +kernel
theorem dX9_order_11 : decode cX9_order 11 = .ok (.getfield 91, 3) := by decide +kernel
theorem dX9_order_14 : decode cX9_order 14 = .ok (.iload 4, 2) := by decide +kernel
theorem dX9_order_16 : decode cX9_order 16 = .ok (.iload_n 1, 1) := by decide +kernel
theorem dX9_order_17 : decode cX9_order 17 = .ok (.iastore, 1) := by decide +kernel
theorem dX9_order_18 : decode cX9_order 18 = .ok (.aload_n 0, 1) := by decide +kernel
theorem dX9_order_19 : decode cX9_order 19 = .ok (.getfield 94, 3) := by decide +kernel
theorem dX9_order_22 : decode cX9_order 22 = .ok (.iload 4, 2) := by decide +kernel
theorem dX9_order_24 : decode cX9_order 24 = .ok (.iload_n 2, 1) := by decide +kernel
theorem dX9_order_25 : decode cX9_order 25 = .ok (.iastore, 1) := by decide +kernel
theorem dX9_order_26 : decode cX9_order 26 = .ok (.aload_n 0, 1) := by decide +kernel
theorem dX9_order_27 : decode cX9_order 27 = .ok (.getfield 97, 3) := by decide +kernel
theorem dX9_order_30 : decode cX9_order 30 = .ok (.iload 4, 2) := by decide +kernel
theorem dX9_order_32 : decode cX9_order 32 = .ok (.iload_n 3, 1) := by decide +kernel
theorem dX9_order_33 : decode cX9_order 33 = .ok (.iastore, 1) := by decide +kernel
theorem dX9_order_34 : decode cX9_order 34 = .ok (.aload_n 0, 1) := by decide +kernel
theorem dX9_order_35 : decode cX9_order 35 = .ok (.dup, 1) := by decide +kernel
theorem dX9_order_36 : decode cX9_order 36 = .ok (.getfield 253, 3) := by decide +kernel
theorem dX9_order_39 : decode cX9_order 39 = .ok (.iconst 1, 1) := by decide +kernel
theorem dX9_order_40 : decode cX9_order 40 = .ok (.iadd, 1) := by decide +kernel
theorem dX9_order_41 : decode cX9_order 41 = .ok (.putfield 253, 3) := by decide +kernel
theorem dX9_order_44 : decode cX9_order 44 = .ok (.aload_n 0, 1) := by decide +kernel
theorem dX9_order_45 : decode cX9_order 45 = .ok (.getfield 253, 3) := by decide +kernel
theorem dX9_order_48 : decode cX9_order 48 = .ok (.iconst 1, 1) := by decide +kernel
theorem dX9_order_49 : decode cX9_order 49 = .ok (.isub, 1) := by decide +kernel
theorem dX9_order_50 : decode cX9_order 50 = .ok (.ireturn, 1) := by decide +kernel
theorem dX9_lesser_0 : decode cX9_lesser 0 = .ok (.iload_n 0, 1) := by decide +kernel
theorem dX9_lesser_1 : decode cX9_lesser 1 = .ok (.iload_n 1, 1) := by decide +kernel
theorem dX9_lesser_2 : decode cX9_lesser 2 = .ok (.if_icmp .ge 7, 3) := by decide +kernel
theorem dX9_lesser_5 : decode cX9_lesser 5 = .ok (.iload_n 0, 1) := by decide +kernel
theorem dX9_lesser_6 : decode cX9_lesser 6 = .ok (.goto 4, 3) := by decide +kernel
theorem dX9_lesser_9 : decode cX9_lesser 9 = .ok (.iload_n 1, 1) := by decide +kernel
theorem dX9_lesser_10 : decode cX9_lesser 10 = .ok (.ireturn, 1) := by decide +kernel
theorem dX9_begin_0 : decode cX9_begin 0 = .ok (.aload_n 0, 1) := by decide +kernel
theorem dX9_begin_1 : decode cX9_begin 1 = .ok (.getfield 106, 3) := by decide +kernel
theorem dX9_begin_4 : decode cX9_begin 4 = .ok (.aload_n 0, 1) := by decide +kernel
theorem dX9_begin_5 : decode cX9_begin 5 = .ok (.getfield 256, 3) := by decide +kernel
theorem dX9_begin_8 : decode cX9_begin 8 = .ok (.iload_n 1, 1) := by decide +kernel
theorem dX9_begin_9 : decode cX9_begin 9 = .ok (.iastore, 1) := by decide +kernel
theorem dX9_begin_10 : decode cX9_begin 10 = .ok (.aload_n 0, 1) := by decide +kernel
theorem dX9_begin_11 : decode cX9_begin 11 = .ok (.getfield 109, 3) := by decide +kernel
theorem dX9_begin_14 : decode cX9_begin 14 = .ok (.aload_n 0, 1) := by decide +kernel
theorem dX9_begin_15 : decode cX9_begin 15 = .ok (.getfield 256, 3) := by decide +kernel
theorem dX9_begin_18 : decode cX9_begin 18 = .ok (.aload_n 0, 1) := by decide +kernel
theorem dX9_begin_19 : decode cX9_begin 19 = .ok (.getfield 91, 3) := by decide +kernel
theorem dX9_begin_22 : decode cX9_begin 22 = .ok (.sipush 400, 3) := by decide +kernel
theorem dX9_begin_25 : decode cX9_begin 25 = .ok (.iload_n 1, 1) := by decide +kernel
theorem dX9_begin_26 : decode cX9_begin 26 = .ok (.iadd, 1) := by decide +kernel
theorem dX9_begin_27 : decode cX9_begin 27 = .ok (.iaload, 1) := by decide +kernel
theorem dX9_begin_28 : decode cX9_begin 28 = .ok (.iconst 3, 1) := by decide +kernel
theorem dX9_begin_29 : decode cX9_begin 29 = .ok (.if_icmp .ne 7, 3) := by decide +kernel
theorem dX9_begin_32 : decode cX9_begin 32 = .ok (.iconst 0, 1) := by decide +kernel
theorem dX9_begin_33 : decode cX9_begin 33 = .ok (.goto 4, 3) := by decide +kernel
theorem dX9_begin_36 : decode cX9_begin 36 = .ok (.iconst 1, 1) := by decide +kernel
theorem dX9_begin_37 : decode cX9_begin 37 = .ok (.iastore, 1) := by decide +kernel
theorem dX9_begin_38 : decode cX9_begin 38 = .ok (.aload_n 0, 1) := by decide +kernel
theorem dX9_begin_39 : decode cX9_begin 39 = .ok (.getfield 112, 3) := by decide +kernel
theorem dX9_begin_42 : decode cX9_begin 42 = .ok (.aload_n 0, 1) := by decide +kernel
theorem dX9_begin_43 : decode cX9_begin 43 = .ok (.getfield 256, 3) := by decide +kernel
theorem dX9_begin_46 : decode cX9_begin 46 = .ok (.aload_n 0, 1) := by decide +kernel
theorem dX9_begin_47 : decode cX9_begin 47 = .ok (.getfield 259, 3) := by decide +kernel
theorem dX9_begin_50 : decode cX9_begin 50 = .ok (.iastore, 1) := by decide +kernel
theorem dX9_begin_51 : decode cX9_begin 51 = .ok (.aload_n 0, 1) := by decide +kernel
theorem dX9_begin_52 : decode cX9_begin 52 = .ok (.getfield 115, 3) := by decide +kernel
theorem dX9_begin_55 : decode cX9_begin 55 = .ok (.aload_n 0, 1) := by decide +kernel
theorem dX9_begin_56 : decode cX9_begin 56 = .ok (.getfield 256, 3) := by decide +kernel
theorem dX9_begin_59 : decode cX9_begin 59 = .ok (.aload_n 0, 1) := by decide +kernel
theorem dX9_begin_60 : decode cX9_begin 60 = .ok (.getfield 262, 3) := by decide +kernel
theorem dX9_begin_63 : decode cX9_begin 63 = .ok (.iastore, 1) := by decide +kernel
theorem dX9_begin_64 : decode cX9_begin 64 = .ok (.aload_n 0, 1) := by decide +kernel
theorem dX9_begin_65 : decode cX9_begin 65 = .ok (.iconst 0, 1) := by decide +kernel
theorem dX9_begin_66 : decode cX9_begin 66 = .ok (.putfield 259, 3) := by decide +kernel
theorem dX9_begin_69 : decode cX9_begin 69 = .ok (.aload_n 0, 1) := by decide +kernel
theorem dX9_begin_70 : decode cX9_begin 70 = .ok (.iconst 0, 1) := by decide +kernel
theorem dX9_begin_71 : decode cX9_begin 71 = .ok (.putfield 262, 3) := by decide +kernel
theorem dX9_begin_74 : decode cX9_begin 74 = .ok (.aload_n 0, 1) := by decide +kernel
theorem dX9_begin_75 : decode cX9_begin 75 = .ok (.dup, 1) := by decide +kernel
theorem dX9_begin_76 : decode cX9_begin 76 = .ok (.getfield 256, 3) := by decide +kernel
theorem dX9_begin_79 : decode cX9_begin 79 = .ok (.iconst 1, 1) := by decide +kernel
theorem dX9_begin_80 : decode cX9_begin 80 = .ok (.iadd, 1) := by decide +kernel
theorem dX9_begin_81 : decode cX9_begin 81 = .ok (.putfield 256, 3) := by decide +kernel
theorem dX9_begin_84 : decode cX9_begin 84 = .ok (.return_, 1) := by decide +kernel
theorem dX9_close_0 : decode cX9_close 0 = .ok (.aload_n 0, 1) := by decide +kernel
theorem dX9_close_1 : decode cX9_close 1 = .ok (.dup, 1) := by decide +kernel
theorem dX9_close_2 : decode cX9_close 2 = .ok (.getfield 256, 3) := by decide +kernel
theorem dX9_close_5 : decode cX9_close 5 = .ok (.iconst 1, 1) := by decide +kernel
theorem dX9_close_6 : decode cX9_close 6 = .ok (.isub, 1) := by decide +kernel
theorem dX9_close_7 : decode cX9_close 7 = .ok (.putfield 256, 3) := by decide +kernel
theorem dX9_close_10 : decode cX9_close 10 = .ok (.aload_n 0, 1) := by decide +kernel
theorem dX9_close_11 : decode cX9_close 11 = .ok (.ldc_w 265, 3) := by decide +kernel
theorem dX9_close_14 : decode cX9_close 14 = .ok (.aload_n 0, 1) := by decide +kernel
theorem dX9_close_15 : decode cX9_close 15 = .ok (.getfield 112, 3) := by decide +kernel
theorem dX9_close_18 : decode cX9_close 18 = .ok (.aload_n 0, 1) := by decide +kernel
theorem dX9_close_19 : decode cX9_close 19 = .ok (.getfield 256, 3) := by decide +kernel
theorem dX9_close_22 : decode cX9_close 22 = .ok (.iaload, 1) := by decide +kernel
theorem dX9_close_23 : decode cX9_close 23 = .ok (.iload_n 1, 1) := by decide +kernel
theorem dX9_close_24 : decode cX9_close 24 = .ok (.iadd, 1) := by decide +kernel
theorem dX9_close_25 : decode cX9_close 25 = .ok (.invokestatic 266, 3) := by decide +kernel
theorem dX9_close_28 : decode cX9_close 28 = .ok (.putfield 259, 3) := by decide +kernel
theorem dX9_close_31 : decode cX9_close 31 = .ok (.aload_n 0, 1) := by decide +kernel
theorem dX9_close_32 : decode cX9_close 32 = .ok (.ldc_w 265, 3) := by decide +kernel
theorem dX9_close_35 : decode cX9_close 35 = .ok (.aload_n 0, 1) := by decide +kernel
theorem dX9_close_36 : decode cX9_close 36 = .ok (.getfield 115, 3) := by decide +kernel
theorem dX9_close_39 : decode cX9_close 39 = .ok (.aload_n 0, 1) := by decide +kernel
theorem dX9_close_40 : decode cX9_close 40 = .ok (.getfield 256, 3) := by decide +kernel
theorem dX9_close_43 : decode cX9_close 43 = .ok (.iaload, 1) := by decide +kernel
theorem dX9_close_44 : decode cX9_close 44 = .ok (.iconst 1, 1) := by decide +kernel
theorem dX9_close_45 : decode cX9_close 45 = .ok (.iadd, 1) := by decide +kernel
theorem dX9_close_46 : decode cX9_close 46 = .ok (.iload_n 2, 1) := by decide +kernel
theorem dX9_close_47 : decode cX9_close 47 = .ok (.iadd, 1) := by decide +kernel
theorem dX9_close_48 : decode cX9_close 48 = .ok (.invokestatic 266, 3) := by decide +kernel
theorem dX9_close_51 : decode cX9_close 51 = .ok (.putfield 262, 3) := by decide +kernel
theorem dX9_close_54 : decode cX9_close 54 = .ok (.return_, 1) := by decide +kernel
theorem dX9_step_0 : decode cX9_step 0 = .ok (.aload_n 0, 1) := by decide +kernel
theorem dX9_step_1 : decode cX9_step 1 = .ok (.getfield 236, 3) := by decide +kernel
theorem dX9_step_4 : decode cX9_step 4 = .ok (.istore_n 1, 1) := by decide +kernel
theorem dX9_step_5 : decode cX9_step 5 = .ok (.iload_n 1, 1) := by decide +kernel
theorem dX9_step_6 : decode cX9_step 6 = .ok (.bipush 6, 2) := by decide +kernel
theorem dX9_step_8 : decode cX9_step 8 = .ok (.bipush 10, 2) := by decide +kernel
theorem dX9_step_10 : decode cX9_step 10 = .ok (.invokestatic 137, 3) := by decide +kernel
theorem dX9_step_13 : decode cX9_step 13 = .ok (.ifCond .ne 5, 3) := by decide +kernel
theorem dX9_step_16 : decode cX9_step 16 = .ok (.iconst 1, 1) := by decide +kernel
theorem dX9_step_17 : decode cX9_step 17 = .ok (.ireturn, 1) := by decide +kernel
theorem dX9_step_18 : decode cX9_step 18 = .ok (.aload_n 0, 1) := by decide +kernel
theorem dX9_step_19 : decode cX9_step 19 = .ok (.getfield 269, 3) := by decide +kernel
theorem dX9_step_22 : decode cX9_step 22 = .ok (.bipush 40, 2) := by decide +kernel
theorem dX9_step_24 : decode cX9_step 24 = .ok (.if_icmp .eq 17, 3) := by decide +kernel
theorem dX9_step_27 : decode cX9_step 27 = .ok (.iload_n 1, 1) := by decide +kernel
theorem dX9_step_28 : decode cX9_step 28 = .ok (.bipush 8, 2) := by decide +kernel
theorem dX9_step_30 : decode cX9_step 30 = .ok (.if_icmp .le 13, 3) := by decide +kernel
theorem dX9_step_33 : decode cX9_step 33 = .ok (.aload_n 0, 1) := by decide +kernel
theorem dX9_step_34 : decode cX9_step 34 = .ok (.getfield 256, 3) := by decide +kernel
theorem dX9_step_37 : decode cX9_step 37 = .ok (.iconst 5, 1) := by decide +kernel
theorem dX9_step_38 : decode cX9_step 38 = .ok (.if_icmp .ne 5, 3) := by decide +kernel
theorem dX9_step_41 : decode cX9_step 41 = .ok (.iconst 3, 1) := by decide +kernel
theorem dX9_step_42 : decode cX9_step 42 = .ok (.ireturn, 1) := by decide +kernel
theorem dX9_step_43 : decode cX9_step 43 = .ok (.aload_n 0, 1) := by decide +kernel
theorem dX9_step_44 : decode cX9_step 44 = .ok (.dup, 1) := by decide +kernel
theorem dX9_step_45 : decode cX9_step 45 = .ok (.getfield 269, 3) := by decide +kernel
theorem dX9_step_48 : decode cX9_step 48 = .ok (.iconst 1, 1) := by decide +kernel
theorem dX9_step_49 : decode cX9_step 49 = .ok (.iadd, 1) := by decide +kernel
theorem dX9_step_50 : decode cX9_step 50 = .ok (.putfield 269, 3) := by decide +kernel
theorem dX9_step_53 : decode cX9_step 53 = .ok (.aload_n 0, 1) := by decide +kernel
theorem dX9_step_54 : decode cX9_step 54 = .ok (.invokevirtual 272, 3) := by decide +kernel
theorem dX9_step_57 : decode cX9_step 57 = .ok (.iload_n 1, 1) := by decide +kernel
theorem dX9_step_58 : decode cX9_step 58 = .ok (.bipush 8, 2) := by decide +kernel
theorem dX9_step_60 : decode cX9_step 60 = .ok (.if_icmp .ne 32, 3) := by decide +kernel
theorem dX9_step_63 : decode cX9_step 63 = .ok (.aload_n 0, 1) := by decide +kernel
theorem dX9_step_64 : decode cX9_step 64 = .ok (.iconst 2, 1) := by decide +kernel
theorem dX9_step_65 : decode cX9_step 65 = .ok (.iconst 0, 1) := by decide +kernel
theorem dX9_step_66 : decode cX9_step 66 = .ok (.iconst 0, 1) := by decide +kernel
theorem dX9_step_67 : decode cX9_step 67 = .ok (.invokevirtual 275, 3) := by decide +kernel
theorem dX9_step_70 : decode cX9_step 70 = .ok (.pop, 1) := by decide +kernel
theorem dX9_step_71 : decode cX9_step 71 = .ok (.aload_n 0, 1) := by decide +kernel
theorem dX9_step_72 : decode cX9_step 72 = .ok (.ldc_w 265, 3) := by decide +kernel
theorem dX9_step_75 : decode cX9_step 75 = .ok (.aload_n 0, 1) := by decide +kernel
theorem dX9_step_76 : decode cX9_step 76 = .ok (.getfield 262, 3) := by decide +kernel
theorem dX9_step_79 : decode cX9_step 79 = .ok (.iconst 1, 1) := by decide +kernel
theorem dX9_step_80 : decode cX9_step 80 = .ok (.iadd, 1) := by decide +kernel
theorem dX9_step_81 : decode cX9_step 81 = .ok (.invokestatic 266, 3) := by decide +kernel
theorem dX9_step_84 : decode cX9_step 84 = .ok (.putfield 262, 3) := by decide +kernel
theorem dX9_step_87 : decode cX9_step 87 = .ok (.aload_n 0, 1) := by decide +kernel
theorem dX9_step_88 : decode cX9_step 88 = .ok (.invokevirtual 278, 3) := by decide +kernel
theorem dX9_step_91 : decode cX9_step 91 = .ok (.ireturn, 1) := by decide +kernel
theorem dX9_step_92 : decode cX9_step 92 = .ok (.iload_n 1, 1) := by decide +kernel
theorem dX9_step_93 : decode cX9_step 93 = .ok (.bipush 10, 2) := by decide +kernel
theorem dX9_step_95 : decode cX9_step 95 = .ok (.if_icmp .ne 30, 3) := by decide +kernel
theorem dX9_step_98 : decode cX9_step 98 = .ok (.aload_n 0, 1) := by decide +kernel
theorem dX9_step_99 : decode cX9_step 99 = .ok (.getfield 236, 3) := by decide +kernel
theorem dX9_step_102 : decode cX9_step 102 = .ok (.iconst 3, 1) := by decide +kernel
theorem dX9_step_103 : decode cX9_step 103 = .ok (.if_icmp .eq 5, 3) := by decide +kernel
theorem dX9_step_106 : decode cX9_step 106 = .ok (.iconst 1, 1) := by decide +kernel
theorem dX9_step_107 : decode cX9_step 107 = .ok (.ireturn, 1) := by decide +kernel
theorem dX9_step_108 : decode cX9_step 108 = .ok (.aload_n 0, 1) := by decide +kernel
theorem dX9_step_109 : decode cX9_step 109 = .ok (.aload_n 0, 1) := by decide +kernel
theorem dX9_step_110 : decode cX9_step 110 = .ok (.iconst 5, 1) := by decide +kernel
theorem dX9_step_111 : decode cX9_step 111 = .ok (.iconst 0, 1) := by decide +kernel
theorem dX9_step_112 : decode cX9_step 112 = .ok (.iconst 0, 1) := by decide +kernel
theorem dX9_step_113 : decode cX9_step 113 = .ok (.invokevirtual 275, 3) := by decide +kernel
theorem dX9_step_116 : decode cX9_step 116 = .ok (.invokevirtual 281, 3) := by decide +kernel
theorem dX9_step_119 : decode cX9_step 119 = .ok (.aload_n 0, 1) := by decide +kernel
theorem dX9_step_120 : decode cX9_step 120 = .ok (.invokevirtual 272, 3) := by decide +kernel
theorem dX9_step_123 : decode cX9_step 123 = .ok (.iconst 0, 1) := by decide +kernel
theorem dX9_step_124 : decode cX9_step 124 = .ok (.ireturn, 1) := by decide +kernel
theorem dX9_step_125 : decode cX9_step 125 = .ok (.aload_n 0, 1) := by decide +kernel
theorem dX9_step_126 : decode cX9_step 126 = .ok (.getfield 236, 3) := by decide +kernel
theorem dX9_step_129 : decode cX9_step 129 = .ok (.iconst 1, 1) := by decide +kernel
theorem dX9_step_130 : decode cX9_step 130 = .ok (.if_icmp .eq 5, 3) := by decide +kernel
theorem dX9_step_133 : decode cX9_step 133 = .ok (.iconst 1, 1) := by decide +kernel
theorem dX9_step_134 : decode cX9_step 134 = .ok (.ireturn, 1) := by decide +kernel
theorem dX9_step_135 : decode cX9_step 135 = .ok (.iload_n 1, 1) := by decide +kernel
theorem dX9_step_136 : decode cX9_step 136 = .ok (.bipush 6, 2) := by decide +kernel
theorem dX9_step_138 : decode cX9_step 138 = .ok (.if_icmp .ne 15, 3) := by decide +kernel
theorem dX9_step_141 : decode cX9_step 141 = .ok (.aload_n 0, 1) := by decide +kernel
theorem dX9_step_142 : decode cX9_step 142 = .ok (.getfield 242, 3) := by decide +kernel
theorem dX9_step_145 : decode cX9_step 145 = .ok (.bipush 30, 2) := by decide +kernel
theorem dX9_step_147 : decode cX9_step 147 = .ok (.if_icmp .le 21, 3) := by decide +kernel
theorem dX9_step_150 : decode cX9_step 150 = .ok (.goto 16, 3) := by decide +kernel
theorem dX9_step_153 : decode cX9_step 153 = .ok (.aload_n 0, 1) := by decide +kernel
theorem dX9_step_154 : decode cX9_step 154 = .ok (.getfield 242, 3) := by decide +kernel
theorem dX9_step_157 : decode cX9_step 157 = .ok (.iconst 1, 1) := by decide +kernel
theorem dX9_step_158 : decode cX9_step 158 = .ok (.bipush 50, 2) := by decide +kernel
theorem dX9_step_160 : decode cX9_step 160 = .ok (.invokestatic 137, 3) := by decide +kernel
theorem dX9_step_163 : decode cX9_step 163 = .ok (.ifCond .ne 5, 3) := by decide +kernel
theorem dX9_step_166 : decode cX9_step 166 = .ok (.iconst 2, 1) := by decide +kernel
theorem dX9_step_167 : decode cX9_step 167 = .ok (.ireturn, 1) := by decide +kernel
theorem dX9_step_168 : decode cX9_step 168 = .ok (.aload_n 0, 1) := by decide +kernel
theorem dX9_step_169 : decode cX9_step 169 = .ok (.getfield 242, 3) := by decide +kernel
theorem dX9_step_172 : decode cX9_step 172 = .ok (.istore_n 2, 1) := by decide +kernel
theorem dX9_step_173 : decode cX9_step 173 = .ok (.aload_n 0, 1) := by decide +kernel
theorem dX9_step_174 : decode cX9_step 174 = .ok (.invokevirtual 272, 3) := by decide +kernel
theorem dX9_step_177 : decode cX9_step 177 = .ok (.iload_n 1, 1) := by decide +kernel
theorem dX9_step_178 : decode cX9_step 178 = .ok (.bipush 9, 2) := by decide +kernel
theorem dX9_step_180 : decode cX9_step 180 = .ok (.if_icmp .ne 30, 3) := by decide +kernel
theorem dX9_step_183 : decode cX9_step 183 = .ok (.aload_n 0, 1) := by decide +kernel
theorem dX9_step_184 : decode cX9_step 184 = .ok (.getfield 236, 3) := by decide +kernel
theorem dX9_step_187 : decode cX9_step 187 = .ok (.iconst 3, 1) := by decide +kernel
theorem dX9_step_188 : decode cX9_step 188 = .ok (.if_icmp .eq 5, 3) := by decide +kernel
theorem dX9_step_191 : decode cX9_step 191 = .ok (.iconst 1, 1) := by decide +kernel
theorem dX9_step_192 : decode cX9_step 192 = .ok (.ireturn, 1) := by decide +kernel
theorem dX9_step_193 : decode cX9_step 193 = .ok (.aload_n 0, 1) := by decide +kernel
theorem dX9_step_194 : decode cX9_step 194 = .ok (.aload_n 0, 1) := by decide +kernel
theorem dX9_step_195 : decode cX9_step 195 = .ok (.iconst 3, 1) := by decide +kernel
theorem dX9_step_196 : decode cX9_step 196 = .ok (.iload_n 2, 1) := by decide +kernel
theorem dX9_step_197 : decode cX9_step 197 = .ok (.iconst 0, 1) := by decide +kernel
theorem dX9_step_198 : decode cX9_step 198 = .ok (.invokevirtual 275, 3) := by decide +kernel
theorem dX9_step_201 : decode cX9_step 201 = .ok (.invokevirtual 281, 3) := by decide +kernel
theorem dX9_step_204 : decode cX9_step 204 = .ok (.aload_n 0, 1) := by decide +kernel
theorem dX9_step_205 : decode cX9_step 205 = .ok (.invokevirtual 272, 3) := by decide +kernel
theorem dX9_step_208 : decode cX9_step 208 = .ok (.iconst 0, 1) := by decide +kernel
theorem dX9_step_209 : decode cX9_step 209 = .ok (.ireturn, 1) := by decide +kernel
theorem dX9_step_210 : decode cX9_step 210 = .ok (.aload_n 0, 1) := by decide +kernel
theorem dX9_step_211 : decode cX9_step 211 = .ok (.iload_n 1, 1) := by decide +kernel
theorem dX9_step_212 : decode cX9_step 212 = .ok (.bipush 6, 2) := by decide +kernel
theorem dX9_step_214 : decode cX9_step 214 = .ok (.if_icmp .ne 7, 3) := by decide +kernel
theorem dX9_step_217 : decode cX9_step 217 = .ok (.iconst 0, 1) := by decide +kernel
theorem dX9_step_218 : decode cX9_step 218 = .ok (.goto 4, 3) := by decide +kernel
theorem dX9_step_221 : decode cX9_step 221 = .ok (.iconst 1, 1) := by decide +kernel
theorem dX9_step_222 : decode cX9_step 222 = .ok (.iload_n 2, 1) := by decide +kernel
theorem dX9_step_223 : decode cX9_step 223 = .ok (.iconst 0, 1) := by decide +kernel
theorem dX9_step_224 : decode cX9_step 224 = .ok (.invokevirtual 275, 3) := by decide +kernel
theorem dX9_step_227 : decode cX9_step 227 = .ok (.pop, 1) := by decide +kernel
theorem dX9_step_228 : decode cX9_step 228 = .ok (.aload_n 0, 1) := by decide +kernel
theorem dX9_step_229 : decode cX9_step 229 = .ok (.ldc_w 265, 3) := by decide +kernel
theorem dX9_step_232 : decode cX9_step 232 = .ok (.aload_n 0, 1) := by decide +kernel
theorem dX9_step_233 : decode cX9_step 233 = .ok (.getfield 259, 3) := by decide +kernel
theorem dX9_step_236 : decode cX9_step 236 = .ok (.iload_n 1, 1) := by decide +kernel
theorem dX9_step_237 : decode cX9_step 237 = .ok (.bipush 7, 2) := by decide +kernel
theorem dX9_step_239 : decode cX9_step 239 = .ok (.if_icmp .ne 7, 3) := by decide +kernel
theorem dX9_step_242 : decode cX9_step 242 = .ok (.iload_n 2, 1) := by decide +kernel
theorem dX9_step_243 : decode cX9_step 243 = .ok (.goto 4, 3) := by decide +kernel
theorem dX9_step_246 : decode cX9_step 246 = .ok (.iconst 0, 1) := by decide +kernel
theorem dX9_step_247 : decode cX9_step 247 = .ok (.iadd, 1) := by decide +kernel
theorem dX9_step_248 : decode cX9_step 248 = .ok (.invokestatic 266, 3) := by decide +kernel
theorem dX9_step_251 : decode cX9_step 251 = .ok (.putfield 259, 3) := by decide +kernel
theorem dX9_step_254 : decode cX9_step 254 = .ok (.aload_n 0, 1) := by decide +kernel
theorem dX9_step_255 : decode cX9_step 255 = .ok (.ldc_w 265, 3) := by decide +kernel
theorem dX9_step_258 : decode cX9_step 258 = .ok (.aload_n 0, 1) := by decide +kernel
theorem dX9_step_259 : decode cX9_step 259 = .ok (.getfield 262, 3) := by decide +kernel
theorem dX9_step_262 : decode cX9_step 262 = .ok (.iconst 1, 1) := by decide +kernel
theorem dX9_step_263 : decode cX9_step 263 = .ok (.iadd, 1) := by decide +kernel
theorem dX9_step_264 : decode cX9_step 264 = .ok (.invokestatic 266, 3) := by decide +kernel
theorem dX9_step_267 : decode cX9_step 267 = .ok (.putfield 262, 3) := by decide +kernel
theorem dX9_step_270 : decode cX9_step 270 = .ok (.aload_n 0, 1) := by decide +kernel
theorem dX9_step_271 : decode cX9_step 271 = .ok (.invokevirtual 278, 3) := by decide +kernel
theorem dX9_step_274 : decode cX9_step 274 = .ok (.ireturn, 1) := by decide +kernel
theorem dX9_semicolon_0 : decode cX9_semicolon 0 = .ok (.aload_n 0, 1) := by decide +kernel
theorem dX9_semicolon_1 : decode cX9_semicolon 1 = .ok (.getfield 236, 3) := by decide +kernel
theorem dX9_semicolon_4 : decode cX9_semicolon 4 = .ok (.iconst 2, 1) := by decide +kernel
theorem dX9_semicolon_5 : decode cX9_semicolon 5 = .ok (.if_icmp .eq 5, 3) := by decide +kernel
theorem dX9_semicolon_8 : decode cX9_semicolon 8 = .ok (.iconst 1, 1) := by decide +kernel
theorem dX9_semicolon_9 : decode cX9_semicolon 9 = .ok (.ireturn, 1) := by decide +kernel
theorem dX9_semicolon_10 : decode cX9_semicolon 10 = .ok (.aload_n 0, 1) := by decide +kernel
theorem dX9_semicolon_11 : decode cX9_semicolon 11 = .ok (.invokevirtual 272, 3) := by decide +kernel
theorem dX9_semicolon_14 : decode cX9_semicolon 14 = .ok (.iconst 0, 1) := by decide +kernel
theorem dX9_semicolon_15 : decode cX9_semicolon 15 = .ok (.ireturn, 1) := by decide +kernel
theorem dX9_brace_0 : decode cX9_brace 0 = .ok (.aload_n 0, 1) := by decide +kernel
theorem dX9_brace_1 : decode cX9_brace 1 = .ok (.getfield 256, 3) := by decide +kernel
theorem dX9_brace_4 : decode cX9_brace 4 = .ok (.ifCond .ne 5, 3) := by decide +kernel
theorem dX9_brace_7 : decode cX9_brace 7 = .ok (.iconst 1, 1) := by decide +kernel
theorem dX9_brace_8 : decode cX9_brace 8 = .ok (.ireturn, 1) := by decide +kernel
theorem dX9_brace_9 : decode cX9_brace 9 = .ok (.aload_n 0, 1) := by decide +kernel
theorem dX9_brace_10 : decode cX9_brace 10 = .ok (.getfield 256, 3) := by decide +kernel
theorem dX9_brace_13 : decode cX9_brace 13 = .ok (.iconst 1, 1) := by decide +kernel
theorem dX9_brace_14 : decode cX9_brace 14 = .ok (.isub, 1) := by decide +kernel
theorem dX9_brace_15 : decode cX9_brace 15 = .ok (.istore_n 1, 1) := by decide +kernel
theorem dX9_brace_16 : decode cX9_brace 16 = .ok (.aload_n 0, 1) := by decide +kernel
theorem dX9_brace_17 : decode cX9_brace 17 = .ok (.getfield 106, 3) := by decide +kernel
theorem dX9_brace_20 : decode cX9_brace 20 = .ok (.iload_n 1, 1) := by decide +kernel
theorem dX9_brace_21 : decode cX9_brace 21 = .ok (.iaload, 1) := by decide +kernel
theorem dX9_brace_22 : decode cX9_brace 22 = .ok (.istore_n 2, 1) := by decide +kernel
theorem dX9_brace_23 : decode cX9_brace 23 = .ok (.aload_n 0, 1) := by decide +kernel
theorem dX9_brace_24 : decode cX9_brace 24 = .ok (.invokevirtual 272, 3) := by decide +kernel
theorem dX9_brace_27 : decode cX9_brace 27 = .ok (.aload_n 0, 1) := by decide +kernel
theorem dX9_brace_28 : decode cX9_brace 28 = .ok (.getfield 109, 3) := by decide +kernel
theorem dX9_brace_31 : decode cX9_brace 31 = .ok (.iload_n 1, 1) := by decide +kernel
theorem dX9_brace_32 : decode cX9_brace 32 = .ok (.iaload, 1) := by decide +kernel
theorem dX9_brace_33 : decode cX9_brace 33 = .ok (.ifCond .ne 96, 3) := by decide +kernel
theorem dX9_brace_36 : decode cX9_brace 36 = .ok (.aload_n 0, 1) := by decide +kernel
theorem dX9_brace_37 : decode cX9_brace 37 = .ok (.iconst 4, 1) := by decide +kernel
theorem dX9_brace_38 : decode cX9_brace 38 = .ok (.iconst 0, 1) := by decide +kernel
theorem dX9_brace_39 : decode cX9_brace 39 = .ok (.iload_n 2, 1) := by decide +kernel
theorem dX9_brace_40 : decode cX9_brace 40 = .ok (.invokevirtual 275, 3) := by decide +kernel
theorem dX9_brace_43 : decode cX9_brace 43 = .ok (.pop, 1) := by decide +kernel
theorem dX9_brace_44 : decode cX9_brace 44 = .ok (.aload_n 0, 1) := by decide +kernel
theorem dX9_brace_45 : decode cX9_brace 45 = .ok (.getfield 97, 3) := by decide +kernel
theorem dX9_brace_48 : decode cX9_brace 48 = .ok (.sipush 400, 3) := by decide +kernel
theorem dX9_brace_51 : decode cX9_brace 51 = .ok (.iload_n 2, 1) := by decide +kernel
theorem dX9_brace_52 : decode cX9_brace 52 = .ok (.iadd, 1) := by decide +kernel
theorem dX9_brace_53 : decode cX9_brace 53 = .ok (.aload_n 0, 1) := by decide +kernel
theorem dX9_brace_54 : decode cX9_brace 54 = .ok (.getfield 253, 3) := by decide +kernel
theorem dX9_brace_57 : decode cX9_brace 57 = .ok (.iastore, 1) := by decide +kernel
theorem dX9_brace_58 : decode cX9_brace 58 = .ok (.aload_n 0, 1) := by decide +kernel
theorem dX9_brace_59 : decode cX9_brace 59 = .ok (.getfield 94, 3) := by decide +kernel
theorem dX9_brace_62 : decode cX9_brace 62 = .ok (.sipush 400, 3) := by decide +kernel
theorem dX9_brace_65 : decode cX9_brace 65 = .ok (.iload_n 2, 1) := by decide +kernel
theorem dX9_brace_66 : decode cX9_brace 66 = .ok (.iadd, 1) := by decide +kernel
theorem dX9_brace_67 : decode cX9_brace 67 = .ok (.iaload, 1) := by decide +kernel
theorem dX9_brace_68 : decode cX9_brace 68 = .ok (.istore_n 3, 1) := by decide +kernel
theorem dX9_brace_69 : decode cX9_brace 69 = .ok (.aload_n 0, 1) := by decide +kernel
theorem dX9_brace_70 : decode cX9_brace 70 = .ok (.aload_n 0, 1) := by decide +kernel
theorem dX9_brace_71 : decode cX9_brace 71 = .ok (.getfield 259, 3) := by decide +kernel
theorem dX9_brace_74 : decode cX9_brace 74 = .ok (.i2l, 1) := by decide +kernel
theorem dX9_brace_75 : decode cX9_brace 75 = .ok (.iload_n 3, 1) := by decide +kernel
theorem dX9_brace_76 : decode cX9_brace 76 = .ok (.i2l, 1) := by decide +kernel
theorem dX9_brace_77 : decode cX9_brace 77 = .ok (.lmul, 1) := by decide +kernel
theorem dX9_brace_78 : decode cX9_brace 78 = .ok (.ldc2_w 284, 3) := by decide +kernel
theorem dX9_brace_81 : decode cX9_brace 81 = .ok (.lcmp, 1) := by decide +kernel
theorem dX9_brace_82 : decode cX9_brace 82 = .ok (.ifCond .le 9, 3) := by decide +kernel
theorem dX9_brace_85 : decode cX9_brace 85 = .ok (.ldc_w 265, 3) := by decide +kernel
theorem dX9_brace_88 : decode cX9_brace 88 = .ok (.goto 9, 3) := by decide +kernel
theorem dX9_brace_91 : decode cX9_brace 91 = .ok (.aload_n 0, 1) := by decide +kernel
theorem dX9_brace_92 : decode cX9_brace 92 = .ok (.getfield 259, 3) := by decide +kernel
theorem dX9_brace_95 : decode cX9_brace 95 = .ok (.iload_n 3, 1) := by decide +kernel
theorem dX9_brace_96 : decode cX9_brace 96 = .ok (.imul, 1) := by decide +kernel
theorem dX9_brace_97 : decode cX9_brace 97 = .ok (.aload_n 0, 1) := by decide +kernel
theorem dX9_brace_98 : decode cX9_brace 98 = .ok (.getfield 262, 3) := by decide +kernel
theorem dX9_brace_101 : decode cX9_brace 101 = .ok (.i2l, 1) := by decide +kernel
theorem dX9_brace_102 : decode cX9_brace 102 = .ok (.iload_n 3, 1) := by decide +kernel
theorem dX9_brace_103 : decode cX9_brace 103 = .ok (.i2l, 1) := by decide +kernel
theorem dX9_brace_104 : decode cX9_brace 104 = .ok (.lmul, 1) := by decide +kernel
theorem dX9_brace_105 : decode cX9_brace 105 = .ok (.ldc2_w 284, 3) := by decide +kernel
theorem dX9_brace_108 : decode cX9_brace 108 = .ok (.lcmp, 1) := by decide +kernel
theorem dX9_brace_109 : decode cX9_brace 109 = .ok (.ifCond .le 9, 3) := by decide +kernel
theorem dX9_brace_112 : decode cX9_brace 112 = .ok (.ldc_w 265, 3) := by decide +kernel
theorem dX9_brace_115 : decode cX9_brace 115 = .ok (.goto 9, 3) := by decide +kernel
theorem dX9_brace_118 : decode cX9_brace 118 = .ok (.aload_n 0, 1) := by decide +kernel
theorem dX9_brace_119 : decode cX9_brace 119 = .ok (.getfield 262, 3) := by decide +kernel
theorem dX9_brace_122 : decode cX9_brace 122 = .ok (.iload_n 3, 1) := by decide +kernel
theorem dX9_brace_123 : decode cX9_brace 123 = .ok (.imul, 1) := by decide +kernel
theorem dX9_brace_124 : decode cX9_brace 124 = .ok (.invokevirtual 286, 3) := by decide +kernel
theorem dX9_brace_127 : decode cX9_brace 127 = .ok (.iconst 0, 1) := by decide +kernel
theorem dX9_brace_128 : decode cX9_brace 128 = .ok (.ireturn, 1) := by decide +kernel
theorem dX9_brace_129 : decode cX9_brace 129 = .ok (.aload_n 0, 1) := by decide +kernel
theorem dX9_brace_130 : decode cX9_brace 130 = .ok (.getfield 109, 3) := by decide +kernel
theorem dX9_brace_133 : decode cX9_brace 133 = .ok (.iload_n 1, 1) := by decide +kernel
theorem dX9_brace_134 : decode cX9_brace 134 = .ok (.iaload, 1) := by decide +kernel
theorem dX9_brace_135 : decode cX9_brace 135 = .ok (.iconst 1, 1) := by decide +kernel
theorem dX9_brace_136 : decode cX9_brace 136 = .ok (.if_icmp .ne 101, 3) := by decide +kernel
theorem dX9_brace_139 : decode cX9_brace 139 = .ok (.aload_n 0, 1) := by decide +kernel
theorem dX9_brace_140 : decode cX9_brace 140 = .ok (.getfield 236, 3) := by decide +kernel
theorem dX9_brace_143 : decode cX9_brace 143 = .ok (.bipush 11, 2) := by decide +kernel
theorem dX9_brace_145 : decode cX9_brace 145 = .ok (.if_icmp .eq 5, 3) := by decide +kernel
theorem dX9_brace_148 : decode cX9_brace 148 = .ok (.iconst 1, 1) := by decide +kernel
theorem dX9_brace_149 : decode cX9_brace 149 = .ok (.ireturn, 1) := by decide +kernel
theorem dX9_brace_150 : decode cX9_brace 150 = .ok (.aload_n 0, 1) := by decide +kernel
theorem dX9_brace_151 : decode cX9_brace 151 = .ok (.invokevirtual 272, 3) := by decide +kernel
theorem dX9_brace_154 : decode cX9_brace 154 = .ok (.aload_n 0, 1) := by decide +kernel
theorem dX9_brace_155 : decode cX9_brace 155 = .ok (.getfield 236, 3) := by decide +kernel
theorem dX9_brace_158 : decode cX9_brace 158 = .ok (.iconst 3, 1) := by decide +kernel
theorem dX9_brace_159 : decode cX9_brace 159 = .ok (.if_icmp .eq 5, 3) := by decide +kernel
theorem dX9_brace_162 : decode cX9_brace 162 = .ok (.iconst 1, 1) := by decide +kernel
theorem dX9_brace_163 : decode cX9_brace 163 = .ok (.ireturn, 1) := by decide +kernel
theorem dX9_brace_164 : decode cX9_brace 164 = .ok (.aload_n 0, 1) := by decide +kernel
theorem dX9_brace_165 : decode cX9_brace 165 = .ok (.invokevirtual 272, 3) := by decide +kernel
theorem dX9_brace_168 : decode cX9_brace 168 = .ok (.aload_n 0, 1) := by decide +kernel
theorem dX9_brace_169 : decode cX9_brace 169 = .ok (.bipush 6, 2) := by decide +kernel
theorem dX9_brace_171 : decode cX9_brace 171 = .ok (.iconst 0, 1) := by decide +kernel
theorem dX9_brace_172 : decode cX9_brace 172 = .ok (.iconst 0, 1) := by decide +kernel
theorem dX9_brace_173 : decode cX9_brace 173 = .ok (.invokevirtual 275, 3) := by decide +kernel
theorem dX9_brace_176 : decode cX9_brace 176 = .ok (.istore_n 3, 1) := by decide +kernel
theorem dX9_brace_177 : decode cX9_brace 177 = .ok (.aload_n 0, 1) := by decide +kernel
theorem dX9_brace_178 : decode cX9_brace 178 = .ok (.getfield 97, 3) := by decide +kernel
theorem dX9_brace_181 : decode cX9_brace 181 = .ok (.sipush 400, 3) := by decide +kernel
theorem dX9_brace_184 : decode cX9_brace 184 = .ok (.iload_n 2, 1) := by decide +kernel
theorem dX9_brace_185 : decode cX9_brace 185 = .ok (.iadd, 1) := by decide +kernel
theorem dX9_brace_186 : decode cX9_brace 186 = .ok (.aload_n 0, 1) := by decide +kernel
theorem dX9_brace_187 : decode cX9_brace 187 = .ok (.getfield 253, 3) := by decide +kernel
theorem dX9_brace_190 : decode cX9_brace 190 = .ok (.iastore, 1) := by decide +kernel
theorem dX9_brace_191 : decode cX9_brace 191 = .ok (.aload_n 0, 1) := by decide +kernel
theorem dX9_brace_192 : decode cX9_brace 192 = .ok (.getfield 106, 3) := by decide +kernel
theorem dX9_brace_195 : decode cX9_brace 195 = .ok (.iload_n 1, 1) := by decide +kernel
theorem dX9_brace_196 : decode cX9_brace 196 = .ok (.iload_n 3, 1) := by decide +kernel
theorem dX9_brace_197 : decode cX9_brace 197 = .ok (.iastore, 1) := by decide +kernel
theorem dX9_brace_198 : decode cX9_brace 198 = .ok (.aload_n 0, 1) := by decide +kernel
theorem dX9_brace_199 : decode cX9_brace 199 = .ok (.getfield 109, 3) := by decide +kernel
theorem dX9_brace_202 : decode cX9_brace 202 = .ok (.iload_n 1, 1) := by decide +kernel
theorem dX9_brace_203 : decode cX9_brace 203 = .ok (.iconst 2, 1) := by decide +kernel
theorem dX9_brace_204 : decode cX9_brace 204 = .ok (.iastore, 1) := by decide +kernel
theorem dX9_brace_205 : decode cX9_brace 205 = .ok (.aload_n 0, 1) := by decide +kernel
theorem dX9_brace_206 : decode cX9_brace 206 = .ok (.getfield 118, 3) := by decide +kernel
theorem dX9_brace_209 : decode cX9_brace 209 = .ok (.iload_n 1, 1) := by decide +kernel
theorem dX9_brace_210 : decode cX9_brace 210 = .ok (.aload_n 0, 1) := by decide +kernel
theorem dX9_brace_211 : decode cX9_brace 211 = .ok (.getfield 259, 3) := by decide +kernel
theorem dX9_brace_214 : decode cX9_brace 214 = .ok (.iastore, 1) := by decide +kernel
theorem dX9_brace_215 : decode cX9_brace 215 = .ok (.aload_n 0, 1) := by decide +kernel
theorem dX9_brace_216 : decode cX9_brace 216 = .ok (.getfield 121, 3) := by decide +kernel
theorem dX9_brace_219 : decode cX9_brace 219 = .ok (.iload_n 1, 1) := by decide +kernel
theorem dX9_brace_220 : decode cX9_brace 220 = .ok (.aload_n 0, 1) := by decide +kernel
theorem dX9_brace_221 : decode cX9_brace 221 = .ok (.getfield 262, 3) := by decide +kernel
theorem dX9_brace_224 : decode cX9_brace 224 = .ok (.iastore, 1) := by decide +kernel
theorem dX9_brace_225 : decode cX9_brace 225 = .ok (.aload_n 0, 1) := by decide +kernel
theorem dX9_brace_226 : decode cX9_brace 226 = .ok (.iconst 0, 1) := by decide +kernel
theorem dX9_brace_227 : decode cX9_brace 227 = .ok (.putfield 259, 3) := by decide +kernel
theorem dX9_brace_230 : decode cX9_brace 230 = .ok (.aload_n 0, 1) := by decide +kernel
theorem dX9_brace_231 : decode cX9_brace 231 = .ok (.iconst 0, 1) := by decide +kernel
theorem dX9_brace_232 : decode cX9_brace 232 = .ok (.putfield 262, 3) := by decide +kernel
theorem dX9_brace_235 : decode cX9_brace 235 = .ok (.iconst 0, 1) := by decide +kernel
theorem dX9_brace_236 : decode cX9_brace 236 = .ok (.ireturn, 1) := by decide +kernel
theorem dX9_brace_237 : decode cX9_brace 237 = .ok (.aload_n 0, 1) := by decide +kernel
theorem dX9_brace_238 : decode cX9_brace 238 = .ok (.getfield 97, 3) := by decide +kernel
theorem dX9_brace_241 : decode cX9_brace 241 = .ok (.sipush 400, 3) := by decide +kernel
theorem dX9_brace_244 : decode cX9_brace 244 = .ok (.iload_n 2, 1) := by decide +kernel
theorem dX9_brace_245 : decode cX9_brace 245 = .ok (.iadd, 1) := by decide +kernel
theorem dX9_brace_246 : decode cX9_brace 246 = .ok (.aload_n 0, 1) := by decide +kernel
theorem dX9_brace_247 : decode cX9_brace 247 = .ok (.getfield 253, 3) := by decide +kernel
theorem dX9_brace_250 : decode cX9_brace 250 = .ok (.iastore, 1) := by decide +kernel
theorem dX9_brace_251 : decode cX9_brace 251 = .ok (.aload_n 0, 1) := by decide +kernel
theorem dX9_brace_252 : decode cX9_brace 252 = .ok (.aload_n 0, 1) := by decide +kernel
theorem dX9_brace_253 : decode cX9_brace 253 = .ok (.getfield 259, 3) := by decide +kernel
theorem dX9_brace_256 : decode cX9_brace 256 = .ok (.aload_n 0, 1) := by decide +kernel
theorem dX9_brace_257 : decode cX9_brace 257 = .ok (.getfield 118, 3) := by decide +kernel
theorem dX9_brace_260 : decode cX9_brace 260 = .ok (.iload_n 1, 1) := by decide +kernel
theorem dX9_brace_261 : decode cX9_brace 261 = .ok (.iaload, 1) := by decide +kernel
theorem dX9_brace_262 : decode cX9_brace 262 = .ok (.if_icmp .le 10, 3) := by decide +kernel
theorem dX9_brace_265 : decode cX9_brace 265 = .ok (.aload_n 0, 1) := by decide +kernel
theorem dX9_brace_266 : decode cX9_brace 266 = .ok (.getfield 259, 3) := by decide +kernel
theorem dX9_brace_269 : decode cX9_brace 269 = .ok (.goto 9, 3) := by decide +kernel
theorem dX9_brace_272 : decode cX9_brace 272 = .ok (.aload_n 0, 1) := by decide +kernel
theorem dX9_brace_273 : decode cX9_brace 273 = .ok (.getfield 118, 3) := by decide +kernel
theorem dX9_brace_276 : decode cX9_brace 276 = .ok (.iload_n 1, 1) := by decide +kernel
theorem dX9_brace_277 : decode cX9_brace 277 = .ok (.iaload, 1) := by decide +kernel
theorem dX9_brace_278 : decode cX9_brace 278 = .ok (.aload_n 0, 1) := by decide +kernel
theorem dX9_brace_279 : decode cX9_brace 279 = .ok (.getfield 262, 3) := by decide +kernel
theorem dX9_brace_282 : decode cX9_brace 282 = .ok (.aload_n 0, 1) := by decide +kernel
theorem dX9_brace_283 : decode cX9_brace 283 = .ok (.getfield 121, 3) := by decide +kernel
theorem dX9_brace_286 : decode cX9_brace 286 = .ok (.iload_n 1, 1) := by decide +kernel
theorem dX9_brace_287 : decode cX9_brace 287 = .ok (.iaload, 1) := by decide +kernel
theorem dX9_brace_288 : decode cX9_brace 288 = .ok (.if_icmp .le 10, 3) := by decide +kernel
theorem dX9_brace_291 : decode cX9_brace 291 = .ok (.aload_n 0, 1) := by decide +kernel
theorem dX9_brace_292 : decode cX9_brace 292 = .ok (.getfield 262, 3) := by decide +kernel
theorem dX9_brace_295 : decode cX9_brace 295 = .ok (.goto 9, 3) := by decide +kernel
theorem dX9_brace_298 : decode cX9_brace 298 = .ok (.aload_n 0, 1) := by decide +kernel
theorem dX9_brace_299 : decode cX9_brace 299 = .ok (.getfield 121, 3) := by decide +kernel
theorem dX9_brace_302 : decode cX9_brace 302 = .ok (.iload_n 1, 1) := by decide +kernel
theorem dX9_brace_303 : decode cX9_brace 303 = .ok (.iaload, 1) := by decide +kernel
theorem dX9_brace_304 : decode cX9_brace 304 = .ok (.invokevirtual 286, 3) := by decide +kernel
theorem dX9_brace_307 : decode cX9_brace 307 = .ok (.iconst 0, 1) := by decide +kernel
theorem dX9_brace_308 : decode cX9_brace 308 = .ok (.ireturn, 1) := by decide +kernel
theorem dX9_readRecipe_0 : decode cX9_readRecipe 0 = .ok (.aload_n 0, 1) := by decide +kernel
theorem dX9_readRecipe_1 : decode cX9_readRecipe 1 = .ok (.sipush 200, 3) := by decide +kernel
theorem dX9_readRecipe_4 : decode cX9_readRecipe 4 = .ok (.putfield 233, 3) := by decide +kernel
theorem dX9_readRecipe_7 : decode cX9_readRecipe 7 = .ok (.aload_n 0, 1) := by decide +kernel
theorem dX9_readRecipe_8 : decode cX9_readRecipe 8 = .ok (.getfield 130, 3) := by decide +kernel
theorem dX9_readRecipe_11 : decode cX9_readRecipe 11 = .ok (.sipush 200, 3) := by decide +kernel
theorem dX9_readRecipe_14 : decode cX9_readRecipe 14 = .ok (.if_icmp .le 5, 3) := by decide +kernel
theorem dX9_readRecipe_17 : decode cX9_readRecipe 17 = .ok (.iconst 1, 1) := by decide +kernel
theorem dX9_readRecipe_18 : decode cX9_readRecipe 18 = .ok (.ireturn, 1) := by decide +kernel
theorem dX9_readRecipe_19 : decode cX9_readRecipe 19 = .ok (.aload_n 0, 1) := by decide +kernel
theorem dX9_readRecipe_20 : decode cX9_readRecipe 20 = .ok (.iconst 0, 1) := by decide +kernel
theorem dX9_readRecipe_21 : decode cX9_readRecipe 21 = .ok (.putfield 227, 3) := by decide +kernel
theorem dX9_readRecipe_24 : decode cX9_readRecipe 24 = .ok (.aload_n 0, 1) := by decide +kernel
theorem dX9_readRecipe_25 : decode cX9_readRecipe 25 = .ok (.iconst 0, 1) := by decide +kernel
theorem dX9_readRecipe_26 : decode cX9_readRecipe 26 = .ok (.putfield 256, 3) := by decide +kernel
theorem dX9_readRecipe_29 : decode cX9_readRecipe 29 = .ok (.aload_n 0, 1) := by decide +kernel
theorem dX9_readRecipe_30 : decode cX9_readRecipe 30 = .ok (.iconst 0, 1) := by decide +kernel
theorem dX9_readRecipe_31 : decode cX9_readRecipe 31 = .ok (.putfield 259, 3) := by decide +kernel
theorem dX9_readRecipe_34 : decode cX9_readRecipe 34 = .ok (.aload_n 0, 1) := by decide +kernel
theorem dX9_readRecipe_35 : decode cX9_readRecipe 35 = .ok (.iconst 0, 1) := by decide +kernel
theorem dX9_readRecipe_36 : decode cX9_readRecipe 36 = .ok (.putfield 262, 3) := by decide +kernel
theorem dX9_readRecipe_39 : decode cX9_readRecipe 39 = .ok (.aload_n 0, 1) := by decide +kernel
theorem dX9_readRecipe_40 : decode cX9_readRecipe 40 = .ok (.iconst 0, 1) := by decide +kernel
theorem dX9_readRecipe_41 : decode cX9_readRecipe 41 = .ok (.putfield 253, 3) := by decide +kernel
theorem dX9_readRecipe_44 : decode cX9_readRecipe 44 = .ok (.aload_n 0, 1) := by decide +kernel
theorem dX9_readRecipe_45 : decode cX9_readRecipe 45 = .ok (.iconst 0, 1) := by decide +kernel
theorem dX9_readRecipe_46 : decode cX9_readRecipe 46 = .ok (.putfield 269, 3) := by decide +kernel
theorem dX9_readRecipe_49 : decode cX9_readRecipe 49 = .ok (.aload_n 0, 1) := by decide +kernel
theorem dX9_readRecipe_50 : decode cX9_readRecipe 50 = .ok (.invokevirtual 272, 3) := by decide +kernel
theorem dX9_readRecipe_53 : decode cX9_readRecipe 53 = .ok (.aload_n 0, 1) := by decide +kernel
theorem dX9_readRecipe_54 : decode cX9_readRecipe 54 = .ok (.getfield 236, 3) := by decide +kernel
theorem dX9_readRecipe_57 : decode cX9_readRecipe 57 = .ok (.ifCond .eq 32, 3) := by decide +kernel
theorem dX9_readRecipe_60 : decode cX9_readRecipe 60 = .ok (.aload_n 0, 1) := by decide +kernel
theorem dX9_readRecipe_61 : decode cX9_readRecipe 61 = .ok (.getfield 236, 3) := by decide +kernel
theorem dX9_readRecipe_64 : decode cX9_readRecipe 64 = .ok (.iconst 4, 1) := by decide +kernel
theorem dX9_readRecipe_65 : decode cX9_readRecipe 65 = .ok (.if_icmp .ne 10, 3) := by decide +kernel
theorem dX9_readRecipe_68 : decode cX9_readRecipe 68 = .ok (.aload_n 0, 1) := by decide +kernel
theorem dX9_readRecipe_69 : decode cX9_readRecipe 69 = .ok (.invokevirtual 289, 3) := by decide +kernel
theorem dX9_readRecipe_72 : decode cX9_readRecipe 72 = .ok (.goto 7, 3) := by decide +kernel
theorem dX9_readRecipe_75 : decode cX9_readRecipe 75 = .ok (.aload_n 0, 1) := by decide +kernel
theorem dX9_readRecipe_76 : decode cX9_readRecipe 76 = .ok (.invokevirtual 292, 3) := by decide +kernel
theorem dX9_readRecipe_79 : decode cX9_readRecipe 79 = .ok (.istore_n 1, 1) := by decide +kernel
theorem dX9_readRecipe_80 : decode cX9_readRecipe 80 = .ok (.iload_n 1, 1) := by decide +kernel
theorem dX9_readRecipe_81 : decode cX9_readRecipe 81 = .ok (.ifCond .eq 5, 3) := by decide +kernel
theorem dX9_readRecipe_84 : decode cX9_readRecipe 84 = .ok (.iload_n 1, 1) := by decide +kernel
theorem dX9_readRecipe_85 : decode cX9_readRecipe 85 = .ok (.ireturn, 1) := by decide +kernel
theorem dX9_readRecipe_86 : decode cX9_readRecipe 86 = .ok (.goto (-33), 3) := by decide +kernel
theorem dX9_readRecipe_89 : decode cX9_readRecipe 89 = .ok (.aload_n 0, 1) := by decide +kernel
theorem dX9_readRecipe_90 : decode cX9_readRecipe 90 = .ok (.getfield 256, 3) := by decide +kernel
theorem dX9_readRecipe_93 : decode cX9_readRecipe 93 = .ok (.ifCond .le 7, 3) := by decide +kernel
theorem dX9_readRecipe_96 : decode cX9_readRecipe 96 = .ok (.iconst 1, 1) := by decide +kernel
theorem dX9_readRecipe_97 : decode cX9_readRecipe 97 = .ok (.goto 4, 3) := by decide +kernel
theorem dX9_readRecipe_100 : decode cX9_readRecipe 100 = .ok (.iconst 0, 1) := by decide +kernel
theorem dX9_readRecipe_101 : decode cX9_readRecipe 101 = .ok (.ireturn, 1) := by decide +kernel
theorem dX9_recipe_0 : decode cX9_recipe 0 = .ok (.iload_n 1, 1) := by decide +kernel
theorem dX9_recipe_1 : decode cX9_recipe 1 = .ok (.iconst 0, 1) := by decide +kernel
theorem dX9_recipe_2 : decode cX9_recipe 2 = .ok (.iconst 3, 1) := by decide +kernel
theorem dX9_recipe_3 : decode cX9_recipe 3 = .ok (.invokestatic 137, 3) := by decide +kernel
theorem dX9_recipe_6 : decode cX9_recipe 6 = .ok (.ifCond .ne 5, 3) := by decide +kernel
theorem dX9_recipe_9 : decode cX9_recipe 9 = .ok (.iconst (-1), 1) := by decide +kernel
theorem dX9_recipe_10 : decode cX9_recipe 10 = .ok (.ireturn, 1) := by decide +kernel
theorem dX9_recipe_11 : decode cX9_recipe 11 = .ok (.aload_n 0, 1) := by decide +kernel
theorem dX9_recipe_12 : decode cX9_recipe 12 = .ok (.aload_n 0, 1) := by decide +kernel
theorem dX9_recipe_13 : decode cX9_recipe 13 = .ok (.invokevirtual 295, 3) := by decide +kernel
theorem dX9_recipe_16 : decode cX9_recipe 16 = .ok (.putfield 16, 3) := by decide +kernel
theorem dX9_recipe_19 : decode cX9_recipe 19 = .ok (.aload_n 0, 1) := by decide +kernel
theorem dX9_recipe_20 : decode cX9_recipe 20 = .ok (.aload_n 0, 1) := by decide +kernel
theorem dX9_recipe_21 : decode cX9_recipe 21 = .ok (.getfield 16, 3) := by decide +kernel
theorem dX9_recipe_24 : decode cX9_recipe 24 = .ok (.ifCond .ne 7, 3) := by decide +kernel
theorem dX9_recipe_27 : decode cX9_recipe 27 = .ok (.iconst (-1), 1) := by decide +kernel
theorem dX9_recipe_28 : decode cX9_recipe 28 = .ok (.goto 7, 3) := by decide +kernel
theorem dX9_recipe_31 : decode cX9_recipe 31 = .ok (.aload_n 0, 1) := by decide +kernel
theorem dX9_recipe_32 : decode cX9_recipe 32 = .ok (.getfield 233, 3) := by decide +kernel
theorem dX9_recipe_35 : decode cX9_recipe 35 = .ok (.putfield 20, 3) := by decide +kernel
theorem dX9_recipe_38 : decode cX9_recipe 38 = .ok (.aload_n 0, 1) := by decide +kernel
theorem dX9_recipe_39 : decode cX9_recipe 39 = .ok (.iconst 0, 1) := by decide +kernel
theorem dX9_recipe_40 : decode cX9_recipe 40 = .ok (.putfield 130, 3) := by decide +kernel
theorem dX9_recipe_43 : decode cX9_recipe 43 = .ok (.aload_n 0, 1) := by decide +kernel
theorem dX9_recipe_44 : decode cX9_recipe 44 = .ok (.getfield 16, 3) := by decide +kernel
theorem dX9_recipe_47 : decode cX9_recipe 47 = .ok (.ifCond .eq 5, 3) := by decide +kernel
theorem dX9_recipe_50 : decode cX9_recipe 50 = .ok (.iconst (-1), 1) := by decide +kernel
theorem dX9_recipe_51 : decode cX9_recipe 51 = .ok (.ireturn, 1) := by decide +kernel
theorem dX9_recipe_52 : decode cX9_recipe 52 = .ok (.aload_n 0, 1) := by decide +kernel
theorem dX9_recipe_53 : decode cX9_recipe 53 = .ok (.getfield 85, 3) := by decide +kernel
theorem dX9_recipe_56 : decode cX9_recipe 56 = .ok (.iload_n 1, 1) := by decide +kernel
theorem dX9_recipe_57 : decode cX9_recipe 57 = .ok (.aload_n 0, 1) := by decide +kernel
theorem dX9_recipe_58 : decode cX9_recipe 58 = .ok (.getfield 253, 3) := by decide +kernel
theorem dX9_recipe_61 : decode cX9_recipe 61 = .ok (.iastore, 1) := by decide +kernel
theorem dX9_recipe_62 : decode cX9_recipe 62 = .ok (.aload_n 0, 1) := by decide +kernel
theorem dX9_recipe_63 : decode cX9_recipe 63 = .ok (.getfield 88, 3) := by decide +kernel
theorem dX9_recipe_66 : decode cX9_recipe 66 = .ok (.iload_n 1, 1) := by decide +kernel
theorem dX9_recipe_67 : decode cX9_recipe 67 = .ok (.aload_n 0, 1) := by decide +kernel
theorem dX9_recipe_68 : decode cX9_recipe 68 = .ok (.getfield 269, 3) := by decide +kernel
theorem dX9_recipe_71 : decode cX9_recipe 71 = .ok (.iastore, 1) := by decide +kernel
theorem dX9_recipe_72 : decode cX9_recipe 72 = .ok (.aload_n 0, 1) := by decide +kernel
theorem dX9_recipe_73 : decode cX9_recipe 73 = .ok (.getfield 100, 3) := by decide +kernel
theorem dX9_recipe_76 : decode cX9_recipe 76 = .ok (.iload_n 1, 1) := by decide +kernel
theorem dX9_recipe_77 : decode cX9_recipe 77 = .ok (.aload_n 0, 1) := by decide +kernel
theorem dX9_recipe_78 : decode cX9_recipe 78 = .ok (.getfield 259, 3) := by decide +kernel
theorem dX9_recipe_81 : decode cX9_recipe 81 = .ok (.iastore, 1) := by decide +kernel
theorem dX9_recipe_82 : decode cX9_recipe 82 = .ok (.aload_n 0, 1) := by decide +kernel
theorem dX9_recipe_83 : decode cX9_recipe 83 = .ok (.getfield 103, 3) := by decide +kernel
theorem dX9_recipe_86 : decode cX9_recipe 86 = .ok (.iload_n 1, 1) := by decide +kernel
theorem dX9_recipe_87 : decode cX9_recipe 87 = .ok (.aload_n 0, 1) := by decide +kernel
theorem dX9_recipe_88 : decode cX9_recipe 88 = .ok (.getfield 262, 3) := by decide +kernel
theorem dX9_recipe_91 : decode cX9_recipe 91 = .ok (.iastore, 1) := by decide +kernel
theorem dX9_recipe_92 : decode cX9_recipe 92 = .ok (.iconst 0, 1) := by decide +kernel
theorem dX9_recipe_93 : decode cX9_recipe 93 = .ok (.istore_n 2, 1) := by decide +kernel
theorem dX9_recipe_94 : decode cX9_recipe 94 = .ok (.iload_n 2, 1) := by decide +kernel
theorem dX9_recipe_95 : decode cX9_recipe 95 = .ok (.aload_n 0, 1) := by decide +kernel
theorem dX9_recipe_96 : decode cX9_recipe 96 = .ok (.getfield 253, 3) := by decide +kernel
theorem dX9_recipe_99 : decode cX9_recipe 99 = .ok (.if_icmp .ge 72, 3) := by decide +kernel
theorem dX9_recipe_102 : decode cX9_recipe 102 = .ok (.aload_n 0, 1) := by decide +kernel
theorem dX9_recipe_103 : decode cX9_recipe 103 = .ok (.getfield 91, 3) := by decide +kernel
theorem dX9_recipe_106 : decode cX9_recipe 106 = .ok (.bipush 100, 2) := by decide +kernel
theorem dX9_recipe_108 : decode cX9_recipe 108 = .ok (.iload_n 1, 1) := by decide +kernel
theorem dX9_recipe_109 : decode cX9_recipe 109 = .ok (.imul, 1) := by decide +kernel
theorem dX9_recipe_110 : decode cX9_recipe 110 = .ok (.iload_n 2, 1) := by decide +kernel
theorem dX9_recipe_111 : decode cX9_recipe 111 = .ok (.iadd, 1) := by decide +kernel
theorem dX9_recipe_112 : decode cX9_recipe 112 = .ok (.aload_n 0, 1) := by decide +kernel
theorem dX9_recipe_113 : decode cX9_recipe 113 = .ok (.getfield 91, 3) := by decide +kernel
theorem dX9_recipe_116 : decode cX9_recipe 116 = .ok (.sipush 400, 3) := by decide +kernel
theorem dX9_recipe_119 : decode cX9_recipe 119 = .ok (.iload_n 2, 1) := by decide +kernel
theorem dX9_recipe_120 : decode cX9_recipe 120 = .ok (.iadd, 1) := by decide +kernel
theorem dX9_recipe_121 : decode cX9_recipe 121 = .ok (.iaload, 1) := by decide +kernel
theorem dX9_recipe_122 : decode cX9_recipe 122 = .ok (.iastore, 1) := by decide +kernel
theorem dX9_recipe_123 : decode cX9_recipe 123 = .ok (.aload_n 0, 1) := by decide +kernel
theorem dX9_recipe_124 : decode cX9_recipe 124 = .ok (.getfield 94, 3) := by decide +kernel
theorem dX9_recipe_127 : decode cX9_recipe 127 = .ok (.bipush 100, 2) := by decide +kernel
theorem dX9_recipe_129 : decode cX9_recipe 129 = .ok (.iload_n 1, 1) := by decide +kernel
theorem dX9_recipe_130 : decode cX9_recipe 130 = .ok (.imul, 1) := by decide +kernel
theorem dX9_recipe_131 : decode cX9_recipe 131 = .ok (.iload_n 2, 1) := by decide +kernel
theorem dX9_recipe_132 : decode cX9_recipe 132 = .ok (.iadd, 1) := by decide +kernel
theorem dX9_recipe_133 : decode cX9_recipe 133 = .ok (.aload_n 0, 1) := by decide +kernel
theorem dX9_recipe_134 : decode cX9_recipe 134 = .ok (.getfield 94, 3) := by decide +kernel
theorem dX9_recipe_137 : decode cX9_recipe 137 = .ok (.sipush 400, 3) := by decide +kernel
theorem dX9_recipe_140 : decode cX9_recipe 140 = .ok (.iload_n 2, 1) := by decide +kernel
theorem dX9_recipe_141 : decode cX9_recipe 141 = .ok (.iadd, 1) := by decide +kernel
theorem dX9_recipe_142 : decode cX9_recipe 142 = .ok (.iaload, 1) := by decide +kernel
theorem dX9_recipe_143 : decode cX9_recipe 143 = .ok (.iastore, 1) := by decide +kernel
theorem dX9_recipe_144 : decode cX9_recipe 144 = .ok (.aload_n 0, 1) := by decide +kernel
theorem dX9_recipe_145 : decode cX9_recipe 145 = .ok (.getfield 97, 3) := by decide +kernel
theorem dX9_recipe_148 : decode cX9_recipe 148 = .ok (.bipush 100, 2) := by decide +kernel
theorem dX9_recipe_150 : decode cX9_recipe 150 = .ok (.iload_n 1, 1) := by decide +kernel
theorem dX9_recipe_151 : decode cX9_recipe 151 = .ok (.imul, 1) := by decide +kernel
theorem dX9_recipe_152 : decode cX9_recipe 152 = .ok (.iload_n 2, 1) := by decide +kernel
theorem dX9_recipe_153 : decode cX9_recipe 153 = .ok (.iadd, 1) := by decide +kernel
theorem dX9_recipe_154 : decode cX9_recipe 154 = .ok (.aload_n 0, 1) := by decide +kernel
theorem dX9_recipe_155 : decode cX9_recipe 155 = .ok (.getfield 97, 3) := by decide +kernel
theorem dX9_recipe_158 : decode cX9_recipe 158 = .ok (.sipush 400, 3) := by decide +kernel
theorem dX9_recipe_161 : decode cX9_recipe 161 = .ok (.iload_n 2, 1) := by decide +kernel
theorem dX9_recipe_162 : decode cX9_recipe 162 = .ok (.iadd, 1) := by decide +kernel
theorem dX9_recipe_163 : decode cX9_recipe 163 = .ok (.iaload, 1) := by decide +kernel
theorem dX9_recipe_164 : decode cX9_recipe 164 = .ok (.iastore, 1) := by decide +kernel
theorem dX9_recipe_165 : decode cX9_recipe 165 = .ok (.iinc 2 1, 3) := by decide +kernel
theorem dX9_recipe_168 : decode cX9_recipe 168 = .ok (.goto (-74), 3) := by decide +kernel
theorem dX9_recipe_171 : decode cX9_recipe 171 = .ok (.aload_n 0, 1) := by decide +kernel
theorem dX9_recipe_172 : decode cX9_recipe 172 = .ok (.getfield 269, 3) := by decide +kernel
theorem dX9_recipe_175 : decode cX9_recipe 175 = .ok (.ireturn, 1) := by decide +kernel
theorem dX9_flow_0 : decode cX9_flow 0 = .ok (.iload_n 2, 1) := by decide +kernel
theorem dX9_flow_1 : decode cX9_flow 1 = .ok (.aload_n 0, 1) := by decide +kernel
theorem dX9_flow_2 : decode cX9_flow 2 = .ok (.getfield 124, 3) := by decide +kernel
theorem dX9_flow_5 : decode cX9_flow 5 = .ok (.iload_n 1, 1) := by decide +kernel
theorem dX9_flow_6 : decode cX9_flow 6 = .ok (.iaload, 1) := by decide +kernel
theorem dX9_flow_7 : decode cX9_flow 7 = .ok (.iconst (-1), 1) := by decide +kernel
theorem dX9_flow_8 : decode cX9_flow 8 = .ok (.ixor, 1) := by decide +kernel
theorem dX9_flow_9 : decode cX9_flow 9 = .ok (.iand, 1) := by decide +kernel
theorem dX9_flow_10 : decode cX9_flow 10 = .ok (.ifCond .ne 4, 3) := by decide +kernel
theorem dX9_flow_13 : decode cX9_flow 13 = .ok (.return_, 1) := by decide +kernel
theorem dX9_flow_14 : decode cX9_flow 14 = .ok (.aload_n 0, 1) := by decide +kernel
theorem dX9_flow_15 : decode cX9_flow 15 = .ok (.getfield 124, 3) := by decide +kernel
theorem dX9_flow_18 : decode cX9_flow 18 = .ok (.iload_n 1, 1) := by decide +kernel
theorem dX9_flow_19 : decode cX9_flow 19 = .ok (.dup2, 1) := by decide +kernel
theorem dX9_flow_20 : decode cX9_flow 20 = .ok (.iaload, 1) := by decide +kernel
theorem dX9_flow_21 : decode cX9_flow 21 = .ok (.iload_n 2, 1) := by decide +kernel
theorem dX9_flow_22 : decode cX9_flow 22 = .ok (.ior, 1) := by decide +kernel
theorem dX9_flow_23 : decode cX9_flow 23 = .ok (.iastore, 1) := by decide +kernel
theorem dX9_flow_24 : decode cX9_flow 24 = .ok (.aload_n 0, 1) := by decide +kernel
theorem dX9_flow_25 : decode cX9_flow 25 = .ok (.iconst 1, 1) := by decide +kernel
theorem dX9_flow_26 : decode cX9_flow 26 = .ok (.putfield 298, 3) := by decide +kernel
theorem dX9_flow_29 : decode cX9_flow 29 = .ok (.return_, 1) := by decide +kernel
theorem dX9_mostVolts_0 : decode cX9_mostVolts 0 = .ok (.iconst 0, 1) := by decide +kernel
theorem dX9_mostVolts_1 : decode cX9_mostVolts 1 = .ok (.istore_n 2, 1) := by decide +kernel
theorem dX9_mostVolts_2 : decode cX9_mostVolts 2 = .ok (.iload_n 2, 1) := by decide +kernel
theorem dX9_mostVolts_3 : decode cX9_mostVolts 3 = .ok (.bipush 100, 2) := by decide +kernel
theorem dX9_mostVolts_5 : decode cX9_mostVolts 5 = .ok (.if_icmp .gt 16, 3) := by decide +kernel
theorem dX9_mostVolts_8 : decode cX9_mostVolts 8 = .ok (.aload_n 0, 1) := by decide +kernel
theorem dX9_mostVolts_9 : decode cX9_mostVolts 9 = .ok (.getfield 124, 3) := by decide +kernel
theorem dX9_mostVolts_12 : decode cX9_mostVolts 12 = .ok (.iload_n 2, 1) := by decide +kernel
theorem dX9_mostVolts_13 : decode cX9_mostVolts 13 = .ok (.iconst 0, 1) := by decide +kernel
theorem dX9_mostVolts_14 : decode cX9_mostVolts 14 = .ok (.iastore, 1) := by decide +kernel
theorem dX9_mostVolts_15 : decode cX9_mostVolts 15 = .ok (.iinc 2 1, 3) := by decide +kernel
theorem dX9_mostVolts_18 : decode cX9_mostVolts 18 = .ok (.goto (-16), 3) := by decide +kernel
theorem dX9_mostVolts_21 : decode cX9_mostVolts 21 = .ok (.aload_n 0, 1) := by decide +kernel
theorem dX9_mostVolts_22 : decode cX9_mostVolts 22 = .ok (.getfield 124, 3) := by decide +kernel
theorem dX9_mostVolts_25 : decode cX9_mostVolts 25 = .ok (.iconst 0, 1) := by decide +kernel
theorem dX9_mostVolts_26 : decode cX9_mostVolts 26 = .ok (.iconst 1, 1) := by decide +kernel
theorem dX9_mostVolts_27 : decode cX9_mostVolts 27 = .ok (.iastore, 1) := by decide +kernel
theorem dX9_mostVolts_28 : decode cX9_mostVolts 28 = .ok (.aload_n 0, 1) := by decide +kernel
theorem dX9_mostVolts_29 : decode cX9_mostVolts 29 = .ok (.iconst 1, 1) := by decide +kernel
theorem dX9_mostVolts_30 : decode cX9_mostVolts 30 = .ok (.putfield 298, 3) := by decide +kernel
theorem dX9_mostVolts_33 : decode cX9_mostVolts 33 = .ok (.aload_n 0, 1) := by decide +kernel
theorem dX9_mostVolts_34 : decode cX9_mostVolts 34 = .ok (.getfield 298, 3) := by decide +kernel
theorem dX9_mostVolts_37 : decode cX9_mostVolts 37 = .ok (.ifCond .eq 38, 3) := by decide +kernel
theorem dX9_mostVolts_40 : decode cX9_mostVolts 40 = .ok (.aload_n 0, 1) := by decide +kernel
theorem dX9_mostVolts_41 : decode cX9_mostVolts 41 = .ok (.iconst 0, 1) := by decide +kernel
theorem dX9_mostVolts_42 : decode cX9_mostVolts 42 = .ok (.putfield 298, 3) := by decide +kernel
theorem dX9_mostVolts_45 : decode cX9_mostVolts 45 = .ok (.iconst 0, 1) := by decide +kernel
theorem dX9_mostVolts_46 : decode cX9_mostVolts 46 = .ok (.istore_n 2, 1) := by decide +kernel
theorem dX9_mostVolts_47 : decode cX9_mostVolts 47 = .ok (.iload_n 2, 1) := by decide +kernel
theorem dX9_mostVolts_48 : decode cX9_mostVolts 48 = .ok (.aload_n 0, 1) := by decide +kernel
theorem dX9_mostVolts_49 : decode cX9_mostVolts 49 = .ok (.getfield 85, 3) := by decide +kernel
theorem dX9_mostVolts_52 : decode cX9_mostVolts 52 = .ok (.iload_n 1, 1) := by decide +kernel
theorem dX9_mostVolts_53 : decode cX9_mostVolts 53 = .ok (.iaload, 1) := by decide +kernel
theorem dX9_mostVolts_54 : decode cX9_mostVolts 54 = .ok (.if_icmp .ge 18, 3) := by decide +kernel
theorem dX9_mostVolts_57 : decode cX9_mostVolts 57 = .ok (.aload_n 0, 1) := by decide +kernel
theorem dX9_mostVolts_58 : decode cX9_mostVolts 58 = .ok (.bipush 100, 2) := by decide +kernel
theorem dX9_mostVolts_60 : decode cX9_mostVolts 60 = .ok (.iload_n 1, 1) := by decide +kernel
theorem dX9_mostVolts_61 : decode cX9_mostVolts 61 = .ok (.imul, 1) := by decide +kernel
theorem dX9_mostVolts_62 : decode cX9_mostVolts 62 = .ok (.iload_n 2, 1) := by decide +kernel
theorem dX9_mostVolts_63 : decode cX9_mostVolts 63 = .ok (.invokevirtual 301, 3) := by decide +kernel
theorem dX9_mostVolts_66 : decode cX9_mostVolts 66 = .ok (.iinc 2 1, 3) := by decide +kernel
theorem dX9_mostVolts_69 : decode cX9_mostVolts 69 = .ok (.goto (-22), 3) := by decide +kernel
theorem dX9_mostVolts_72 : decode cX9_mostVolts 72 = .ok (.goto (-39), 3) := by decide +kernel
theorem dX9_mostVolts_75 : decode cX9_mostVolts 75 = .ok (.iconst (-1), 1) := by decide +kernel
theorem dX9_mostVolts_76 : decode cX9_mostVolts 76 = .ok (.istore_n 2, 1) := by decide +kernel
theorem dX9_mostVolts_77 : decode cX9_mostVolts 77 = .ok (.iconst 0, 1) := by decide +kernel
theorem dX9_mostVolts_78 : decode cX9_mostVolts 78 = .ok (.istore_n 3, 1) := by decide +kernel
theorem dX9_mostVolts_79 : decode cX9_mostVolts 79 = .ok (.iload_n 3, 1) := by decide +kernel
theorem dX9_mostVolts_80 : decode cX9_mostVolts 80 = .ok (.aload_n 0, 1) := by decide +kernel
theorem dX9_mostVolts_81 : decode cX9_mostVolts 81 = .ok (.getfield 85, 3) := by decide +kernel
theorem dX9_mostVolts_84 : decode cX9_mostVolts 84 = .ok (.iload_n 1, 1) := by decide +kernel
theorem dX9_mostVolts_85 : decode cX9_mostVolts 85 = .ok (.iaload, 1) := by decide +kernel
theorem dX9_mostVolts_86 : decode cX9_mostVolts 86 = .ok (.if_icmp .ge 64, 3) := by decide +kernel
theorem dX9_mostVolts_89 : decode cX9_mostVolts 89 = .ok (.iconst 0, 1) := by decide +kernel
theorem dX9_mostVolts_90 : decode cX9_mostVolts 90 = .ok (.istore 4, 2) := by decide +kernel
theorem dX9_mostVolts_92 : decode cX9_mostVolts 92 = .ok (.iload 4, 2) := by decide +kernel
theorem dX9_mostVolts_94 : decode cX9_mostVolts 94 = .ok (.bipush 31, 2) := by decide +kernel
theorem dX9_mostVolts_96 : decode cX9_mostVolts 96 = .ok (.if_icmp .ge 48, 3) := by decide +kernel
theorem dX9_mostVolts_99 : decode cX9_mostVolts 99 = .ok (.aload_n 0, 1) := by decide +kernel
theorem dX9_mostVolts_100 : decode cX9_mostVolts 100 = .ok (.getfield 91, 3) := by decide +kernel
theorem dX9_mostVolts_103 : decode cX9_mostVolts 103 = .ok (.bipush 100, 2) := by decide +kernel
theorem dX9_mostVolts_105 : decode cX9_mostVolts 105 = .ok (.iload_n 1, 1) := by decide +kernel
theorem dX9_mostVolts_106 : decode cX9_mostVolts 106 = .ok (.imul, 1) := by decide +kernel
theorem dX9_mostVolts_107 : decode cX9_mostVolts 107 = .ok (.iload_n 3, 1) := by decide +kernel
theorem dX9_mostVolts_108 : decode cX9_mostVolts 108 = .ok (.iadd, 1) := by decide +kernel
theorem dX9_mostVolts_109 : decode cX9_mostVolts 109 = .ok (.iaload, 1) := by decide +kernel
theorem dX9_mostVolts_110 : decode cX9_mostVolts 110 = .ok (.iconst 1, 1) := by decide +kernel
theorem dX9_mostVolts_111 : decode cX9_mostVolts 111 = .ok (.if_icmp .ne 33, 3) := by decide +kernel
theorem dX9_mostVolts_114 : decode cX9_mostVolts 114 = .ok (.aload_n 0, 1) := by decide +kernel
theorem dX9_mostVolts_115 : decode cX9_mostVolts 115 = .ok (.getfield 124, 3) := by decide +kernel
theorem dX9_mostVolts_118 : decode cX9_mostVolts 118 = .ok (.iload_n 3, 1) := by decide +kernel
theorem dX9_mostVolts_119 : decode cX9_mostVolts 119 = .ok (.iaload, 1) := by decide +kernel
theorem dX9_mostVolts_120 : decode cX9_mostVolts 120 = .ok (.iload 4, 2) := by decide +kernel
theorem dX9_mostVolts_122 : decode cX9_mostVolts 122 = .ok (.ishr, 1) := by decide +kernel
theorem dX9_mostVolts_123 : decode cX9_mostVolts 123 = .ok (.iconst 1, 1) := by decide +kernel
theorem dX9_mostVolts_124 : decode cX9_mostVolts 124 = .ok (.iand, 1) := by decide +kernel
theorem dX9_mostVolts_125 : decode cX9_mostVolts 125 = .ok (.iconst 1, 1) := by decide +kernel
theorem dX9_mostVolts_126 : decode cX9_mostVolts 126 = .ok (.if_icmp .ne 12, 3) := by decide +kernel
theorem dX9_mostVolts_129 : decode cX9_mostVolts 129 = .ok (.iload 4, 2) := by decide +kernel
theorem dX9_mostVolts_131 : decode cX9_mostVolts 131 = .ok (.iload_n 2, 1) := by decide +kernel
theorem dX9_mostVolts_132 : decode cX9_mostVolts 132 = .ok (.if_icmp .le 6, 3) := by decide +kernel
theorem dX9_mostVolts_135 : decode cX9_mostVolts 135 = .ok (.iload 4, 2) := by decide +kernel
theorem dX9_mostVolts_137 : decode cX9_mostVolts 137 = .ok (.istore_n 2, 1) := by decide +kernel
theorem dX9_mostVolts_138 : decode cX9_mostVolts 138 = .ok (.iinc 4 1, 3) := by decide +kernel
theorem dX9_mostVolts_141 : decode cX9_mostVolts 141 = .ok (.goto (-49), 3) := by decide +kernel
theorem dX9_mostVolts_144 : decode cX9_mostVolts 144 = .ok (.iinc 3 1, 3) := by decide +kernel
theorem dX9_mostVolts_147 : decode cX9_mostVolts 147 = .ok (.goto (-68), 3) := by decide +kernel
theorem dX9_mostVolts_150 : decode cX9_mostVolts 150 = .ok (.iload_n 2, 1) := by decide +kernel
theorem dX9_mostVolts_151 : decode cX9_mostVolts 151 = .ok (.ireturn, 1) := by decide +kernel
theorem dX9_flowFrom_0 : decode cX9_flowFrom 0 = .ok (.aload_n 0, 1) := by decide +kernel
theorem dX9_flowFrom_1 : decode cX9_flowFrom 1 = .ok (.getfield 124, 3) := by decide +kernel
theorem dX9_flowFrom_4 : decode cX9_flowFrom 4 = .ok (.iload_n 2, 1) := by decide +kernel
theorem dX9_flowFrom_5 : decode cX9_flowFrom 5 = .ok (.iaload, 1) := by decide +kernel
theorem dX9_flowFrom_6 : decode cX9_flowFrom 6 = .ok (.istore_n 3, 1) := by decide +kernel
theorem dX9_flowFrom_7 : decode cX9_flowFrom 7 = .ok (.iload_n 3, 1) := by decide +kernel
theorem dX9_flowFrom_8 : decode cX9_flowFrom 8 = .ok (.ifCond .ne 4, 3) := by decide +kernel
theorem dX9_flowFrom_11 : decode cX9_flowFrom 11 = .ok (.return_, 1) := by decide +kernel
theorem dX9_flowFrom_12 : decode cX9_flowFrom 12 = .ok (.aload_n 0, 1) := by decide +kernel
theorem dX9_flowFrom_13 : decode cX9_flowFrom 13 = .ok (.getfield 91, 3) := by decide +kernel
theorem dX9_flowFrom_16 : decode cX9_flowFrom 16 = .ok (.iload_n 1, 1) := by decide +kernel
theorem dX9_flowFrom_17 : decode cX9_flowFrom 17 = .ok (.iload_n 2, 1) := by decide +kernel
theorem dX9_flowFrom_18 : decode cX9_flowFrom 18 = .ok (.iadd, 1) := by decide +kernel
theorem dX9_flowFrom_19 : decode cX9_flowFrom 19 = .ok (.iaload, 1) := by decide +kernel
theorem dX9_flowFrom_20 : decode cX9_flowFrom 20 = .ok (.istore 4, 2) := by decide +kernel
theorem dX9_flowFrom_22 : decode cX9_flowFrom 22 = .ok (.iload 4, 2) := by decide +kernel
theorem dX9_flowFrom_24 : decode cX9_flowFrom 24 = .ok (.ifCond .ne 23, 3) := by decide +kernel
theorem dX9_flowFrom_27 : decode cX9_flowFrom 27 = .ok (.aload_n 0, 1) := by decide +kernel
theorem dX9_flowFrom_28 : decode cX9_flowFrom 28 = .ok (.iload_n 2, 1) := by decide +kernel
theorem dX9_flowFrom_29 : decode cX9_flowFrom 29 = .ok (.iconst 1, 1) := by decide +kernel
theorem dX9_flowFrom_30 : decode cX9_flowFrom 30 = .ok (.iadd, 1) := by decide +kernel
theorem dX9_flowFrom_31 : decode cX9_flowFrom 31 = .ok (.iconst 1, 1) := by decide +kernel
theorem dX9_flowFrom_32 : decode cX9_flowFrom 32 = .ok (.aload_n 0, 1) := by decide +kernel
theorem dX9_flowFrom_33 : decode cX9_flowFrom 33 = .ok (.getfield 94, 3) := by decide +kernel
theorem dX9_flowFrom_36 : decode cX9_flowFrom 36 = .ok (.iload_n 1, 1) := by decide +kernel
theorem dX9_flowFrom_37 : decode cX9_flowFrom 37 = .ok (.iload_n 2, 1) := by decide +kernel
theorem dX9_flowFrom_38 : decode cX9_flowFrom 38 = .ok (.iadd, 1) := by decide +kernel
theorem dX9_flowFrom_39 : decode cX9_flowFrom 39 = .ok (.iaload, 1) := by decide +kernel
theorem dX9_flowFrom_40 : decode cX9_flowFrom 40 = .ok (.ishl, 1) := by decide +kernel
theorem dX9_flowFrom_41 : decode cX9_flowFrom 41 = .ok (.invokevirtual 304, 3) := by decide +kernel
theorem dX9_flowFrom_44 : decode cX9_flowFrom 44 = .ok (.goto 116, 3) := by decide +kernel
theorem dX9_flowFrom_47 : decode cX9_flowFrom 47 = .ok (.iload 4, 2) := by decide +kernel
theorem dX9_flowFrom_49 : decode cX9_flowFrom 49 = .ok (.iconst 3, 1) := by decide +kernel
theorem dX9_flowFrom_50 : decode cX9_flowFrom 50 = .ok (.if_icmp .eq 9, 3) := by decide +kernel
theorem dX9_flowFrom_53 : decode cX9_flowFrom 53 = .ok (.iload 4, 2) := by decide +kernel
theorem dX9_flowFrom_55 : decode cX9_flowFrom 55 = .ok (.iconst 5, 1) := by decide +kernel
theorem dX9_flowFrom_56 : decode cX9_flowFrom 56 = .ok (.if_icmp .ne 27, 3) := by decide +kernel
theorem dX9_flowFrom_59 : decode cX9_flowFrom 59 = .ok (.aload_n 0, 1) := by decide +kernel
theorem dX9_flowFrom_60 : decode cX9_flowFrom 60 = .ok (.iload_n 2, 1) := by decide +kernel
theorem dX9_flowFrom_61 : decode cX9_flowFrom 61 = .ok (.iconst 1, 1) := by decide +kernel
theorem dX9_flowFrom_62 : decode cX9_flowFrom 62 = .ok (.iadd, 1) := by decide +kernel
theorem dX9_flowFrom_63 : decode cX9_flowFrom 63 = .ok (.iload_n 3, 1) := by decide +kernel
theorem dX9_flowFrom_64 : decode cX9_flowFrom 64 = .ok (.invokevirtual 304, 3) := by decide +kernel
theorem dX9_flowFrom_67 : decode cX9_flowFrom 67 = .ok (.aload_n 0, 1) := by decide +kernel
theorem dX9_flowFrom_68 : decode cX9_flowFrom 68 = .ok (.aload_n 0, 1) := by decide +kernel
theorem dX9_flowFrom_69 : decode cX9_flowFrom 69 = .ok (.getfield 97, 3) := by decide +kernel
theorem dX9_flowFrom_72 : decode cX9_flowFrom 72 = .ok (.iload_n 1, 1) := by decide +kernel
theorem dX9_flowFrom_73 : decode cX9_flowFrom 73 = .ok (.iload_n 2, 1) := by decide +kernel
theorem dX9_flowFrom_74 : decode cX9_flowFrom 74 = .ok (.iadd, 1) := by decide +kernel
theorem dX9_flowFrom_75 : decode cX9_flowFrom 75 = .ok (.iaload, 1) := by decide +kernel
theorem dX9_flowFrom_76 : decode cX9_flowFrom 76 = .ok (.iload_n 3, 1) := by decide +kernel
theorem dX9_flowFrom_77 : decode cX9_flowFrom 77 = .ok (.invokevirtual 304, 3) := by decide +kernel
theorem dX9_flowFrom_80 : decode cX9_flowFrom 80 = .ok (.goto 80, 3) := by decide +kernel
theorem dX9_flowFrom_83 : decode cX9_flowFrom 83 = .ok (.iload 4, 2) := by decide +kernel
theorem dX9_flowFrom_85 : decode cX9_flowFrom 85 = .ok (.iconst 4, 1) := by decide +kernel
theorem dX9_flowFrom_86 : decode cX9_flowFrom 86 = .ok (.if_icmp .ne 48, 3) := by decide +kernel
theorem dX9_flowFrom_89 : decode cX9_flowFrom 89 = .ok (.aload_n 0, 1) := by decide +kernel
theorem dX9_flowFrom_90 : decode cX9_flowFrom 90 = .ok (.iload_n 2, 1) := by decide +kernel
theorem dX9_flowFrom_91 : decode cX9_flowFrom 91 = .ok (.iconst 1, 1) := by decide +kernel
theorem dX9_flowFrom_92 : decode cX9_flowFrom 92 = .ok (.iadd, 1) := by decide +kernel
theorem dX9_flowFrom_93 : decode cX9_flowFrom 93 = .ok (.iload_n 3, 1) := by decide +kernel
theorem dX9_flowFrom_94 : decode cX9_flowFrom 94 = .ok (.invokevirtual 304, 3) := by decide +kernel
theorem dX9_flowFrom_97 : decode cX9_flowFrom 97 = .ok (.aload_n 0, 1) := by decide +kernel
theorem dX9_flowFrom_98 : decode cX9_flowFrom 98 = .ok (.getfield 94, 3) := by decide +kernel
theorem dX9_flowFrom_101 : decode cX9_flowFrom 101 = .ok (.iload_n 1, 1) := by decide +kernel
theorem dX9_flowFrom_102 : decode cX9_flowFrom 102 = .ok (.aload_n 0, 1) := by decide +kernel
theorem dX9_flowFrom_103 : decode cX9_flowFrom 103 = .ok (.getfield 97, 3) := by decide +kernel
theorem dX9_flowFrom_106 : decode cX9_flowFrom 106 = .ok (.iload_n 1, 1) := by decide +kernel
theorem dX9_flowFrom_107 : decode cX9_flowFrom 107 = .ok (.iload_n 2, 1) := by decide +kernel
theorem dX9_flowFrom_108 : decode cX9_flowFrom 108 = .ok (.iadd, 1) := by decide +kernel
theorem dX9_flowFrom_109 : decode cX9_flowFrom 109 = .ok (.iaload, 1) := by decide +kernel
theorem dX9_flowFrom_110 : decode cX9_flowFrom 110 = .ok (.iadd, 1) := by decide +kernel
theorem dX9_flowFrom_111 : decode cX9_flowFrom 111 = .ok (.iaload, 1) := by decide +kernel
theorem dX9_flowFrom_112 : decode cX9_flowFrom 112 = .ok (.iconst 1, 1) := by decide +kernel
theorem dX9_flowFrom_113 : decode cX9_flowFrom 113 = .ok (.if_icmp .le 47, 3) := by decide +kernel
theorem dX9_flowFrom_116 : decode cX9_flowFrom 116 = .ok (.aload_n 0, 1) := by decide +kernel
theorem dX9_flowFrom_117 : decode cX9_flowFrom 117 = .ok (.aload_n 0, 1) := by decide +kernel
theorem dX9_flowFrom_118 : decode cX9_flowFrom 118 = .ok (.getfield 97, 3) := by decide +kernel
theorem dX9_flowFrom_121 : decode cX9_flowFrom 121 = .ok (.iload_n 1, 1) := by decide +kernel
theorem dX9_flowFrom_122 : decode cX9_flowFrom 122 = .ok (.iload_n 2, 1) := by decide +kernel
theorem dX9_flowFrom_123 : decode cX9_flowFrom 123 = .ok (.iadd, 1) := by decide +kernel
theorem dX9_flowFrom_124 : decode cX9_flowFrom 124 = .ok (.iaload, 1) := by decide +kernel
theorem dX9_flowFrom_125 : decode cX9_flowFrom 125 = .ok (.iconst 1, 1) := by decide +kernel
theorem dX9_flowFrom_126 : decode cX9_flowFrom 126 = .ok (.iadd, 1) := by decide +kernel
theorem dX9_flowFrom_127 : decode cX9_flowFrom 127 = .ok (.iload_n 3, 1) := by decide +kernel
theorem dX9_flowFrom_128 : decode cX9_flowFrom 128 = .ok (.invokevirtual 304, 3) := by decide +kernel
theorem dX9_flowFrom_131 : decode cX9_flowFrom 131 = .ok (.goto 29, 3) := by decide +kernel
theorem dX9_flowFrom_134 : decode cX9_flowFrom 134 = .ok (.aload_n 0, 1) := by decide +kernel
theorem dX9_flowFrom_135 : decode cX9_flowFrom 135 = .ok (.iload 4, 2) := by decide +kernel
theorem dX9_flowFrom_137 : decode cX9_flowFrom 137 = .ok (.bipush 6, 2) := by decide +kernel
theorem dX9_flowFrom_139 : decode cX9_flowFrom 139 = .ok (.if_icmp .ne 14, 3) := by decide +kernel
theorem dX9_flowFrom_142 : decode cX9_flowFrom 142 = .ok (.aload_n 0, 1) := by decide +kernel
theorem dX9_flowFrom_143 : decode cX9_flowFrom 143 = .ok (.getfield 97, 3) := by decide +kernel
theorem dX9_flowFrom_146 : decode cX9_flowFrom 146 = .ok (.iload_n 1, 1) := by decide +kernel
theorem dX9_flowFrom_147 : decode cX9_flowFrom 147 = .ok (.iload_n 2, 1) := by decide +kernel
theorem dX9_flowFrom_148 : decode cX9_flowFrom 148 = .ok (.iadd, 1) := by decide +kernel
theorem dX9_flowFrom_149 : decode cX9_flowFrom 149 = .ok (.iaload, 1) := by decide +kernel
theorem dX9_flowFrom_150 : decode cX9_flowFrom 150 = .ok (.goto 6, 3) := by decide +kernel
theorem dX9_flowFrom_153 : decode cX9_flowFrom 153 = .ok (.iload_n 2, 1) := by decide +kernel
theorem dX9_flowFrom_154 : decode cX9_flowFrom 154 = .ok (.iconst 1, 1) := by decide +kernel
theorem dX9_flowFrom_155 : decode cX9_flowFrom 155 = .ok (.iadd, 1) := by decide +kernel
theorem dX9_flowFrom_156 : decode cX9_flowFrom 156 = .ok (.iload_n 3, 1) := by decide +kernel
theorem dX9_flowFrom_157 : decode cX9_flowFrom 157 = .ok (.invokevirtual 304, 3) := by decide +kernel
theorem dX9_flowFrom_160 : decode cX9_flowFrom 160 = .ok (.return_, 1) := by decide +kernel
theorem dX9_walk_0 : decode cX9_walk 0 = .ok (.iload_n 1, 1) := by decide +kernel
theorem dX9_walk_1 : decode cX9_walk 1 = .ok (.iconst 0, 1) := by decide +kernel
theorem dX9_walk_2 : decode cX9_walk 2 = .ok (.iconst 3, 1) := by decide +kernel
theorem dX9_walk_3 : decode cX9_walk 3 = .ok (.invokestatic 137, 3) := by decide +kernel
theorem dX9_walk_6 : decode cX9_walk 6 = .ok (.ifCond .ne 5, 3) := by decide +kernel
theorem dX9_walk_9 : decode cX9_walk 9 = .ok (.iconst (-1), 1) := by decide +kernel
theorem dX9_walk_10 : decode cX9_walk 10 = .ok (.ireturn, 1) := by decide +kernel
theorem dX9_walk_11 : decode cX9_walk 11 = .ok (.iload_n 2, 1) := by decide +kernel
theorem dX9_walk_12 : decode cX9_walk 12 = .ok (.tableswitch 95 0 3 #[32, 39, 45, 70], 32) := by decide +kernel
theorem dX9_walk_44 : decode cX9_walk 44 = .ok (.aload_n 0, 1) := by decide +kernel
theorem dX9_walk_45 : decode cX9_walk 45 = .ok (.getfield 88, 3) := by decide +kernel
theorem dX9_walk_48 : decode cX9_walk 48 = .ok (.iload_n 1, 1) := by decide +kernel
theorem dX9_walk_49 : decode cX9_walk 49 = .ok (.iaload, 1) := by decide +kernel
theorem dX9_walk_50 : decode cX9_walk 50 = .ok (.ireturn, 1) := by decide +kernel
theorem dX9_walk_51 : decode cX9_walk 51 = .ok (.aload_n 0, 1) := by decide +kernel
theorem dX9_walk_52 : decode cX9_walk 52 = .ok (.iload_n 1, 1) := by decide +kernel
theorem dX9_walk_53 : decode cX9_walk 53 = .ok (.invokevirtual 307, 3) := by decide +kernel
theorem dX9_walk_56 : decode cX9_walk 56 = .ok (.ireturn, 1) := by decide +kernel
theorem dX9_walk_57 : decode cX9_walk 57 = .ok (.aload_n 0, 1) := by decide +kernel
theorem dX9_walk_58 : decode cX9_walk 58 = .ok (.getfield 100, 3) := by decide +kernel
theorem dX9_walk_61 : decode cX9_walk 61 = .ok (.iload_n 1, 1) := by decide +kernel
theorem dX9_walk_62 : decode cX9_walk 62 = .ok (.iaload, 1) := by decide +kernel
theorem dX9_walk_63 : decode cX9_walk 63 = .ok (.ldc_w 310, 3) := by decide +kernel
theorem dX9_walk_66 : decode cX9_walk 66 = .ok (.if_icmp .le 9, 3) := by decide +kernel
theorem dX9_walk_69 : decode cX9_walk 69 = .ok (.ldc_w 310, 3) := by decide +kernel
theorem dX9_walk_72 : decode cX9_walk 72 = .ok (.goto 9, 3) := by decide +kernel
theorem dX9_walk_75 : decode cX9_walk 75 = .ok (.aload_n 0, 1) := by decide +kernel
theorem dX9_walk_76 : decode cX9_walk 76 = .ok (.getfield 100, 3) := by decide +kernel
theorem dX9_walk_79 : decode cX9_walk 79 = .ok (.iload_n 1, 1) := by decide +kernel
theorem dX9_walk_80 : decode cX9_walk 80 = .ok (.iaload, 1) := by decide +kernel
theorem dX9_walk_81 : decode cX9_walk 81 = .ok (.ireturn, 1) := by decide +kernel
theorem dX9_walk_82 : decode cX9_walk 82 = .ok (.aload_n 0, 1) := by decide +kernel
theorem dX9_walk_83 : decode cX9_walk 83 = .ok (.getfield 103, 3) := by decide +kernel
theorem dX9_walk_86 : decode cX9_walk 86 = .ok (.iload_n 1, 1) := by decide +kernel
theorem dX9_walk_87 : decode cX9_walk 87 = .ok (.iaload, 1) := by decide +kernel
theorem dX9_walk_88 : decode cX9_walk 88 = .ok (.ldc_w 310, 3) := by decide +kernel
theorem dX9_walk_91 : decode cX9_walk 91 = .ok (.if_icmp .le 9, 3) := by decide +kernel
theorem dX9_walk_94 : decode cX9_walk 94 = .ok (.ldc_w 310, 3) := by decide +kernel
theorem dX9_walk_97 : decode cX9_walk 97 = .ok (.goto 9, 3) := by decide +kernel
theorem dX9_walk_100 : decode cX9_walk 100 = .ok (.aload_n 0, 1) := by decide +kernel
theorem dX9_walk_101 : decode cX9_walk 101 = .ok (.getfield 103, 3) := by decide +kernel
theorem dX9_walk_104 : decode cX9_walk 104 = .ok (.iload_n 1, 1) := by decide +kernel
theorem dX9_walk_105 : decode cX9_walk 105 = .ok (.iaload, 1) := by decide +kernel
theorem dX9_walk_106 : decode cX9_walk 106 = .ok (.ireturn, 1) := by decide +kernel
theorem dX9_walk_107 : decode cX9_walk 107 = .ok (.iconst (-1), 1) := by decide +kernel
theorem dX9_walk_108 : decode cX9_walk 108 = .ok (.ireturn, 1) := by decide +kernel
theorem dX9_isFit_0 : decode cX9_isFit 0 = .ok (.aload_n 0, 1) := by decide +kernel
theorem dX9_isFit_1 : decode cX9_isFit 1 = .ok (.iload_n 2, 1) := by decide +kernel
theorem dX9_isFit_2 : decode cX9_isFit 2 = .ok (.invokevirtual 307, 3) := by decide +kernel
theorem dX9_isFit_5 : decode cX9_isFit 5 = .ok (.aload_n 0, 1) := by decide +kernel
theorem dX9_isFit_6 : decode cX9_isFit 6 = .ok (.getfield 45, 3) := by decide +kernel
theorem dX9_isFit_9 : decode cX9_isFit 9 = .ok (.iload_n 1, 1) := by decide +kernel
theorem dX9_isFit_10 : decode cX9_isFit 10 = .ok (.iaload, 1) := by decide +kernel
theorem dX9_isFit_11 : decode cX9_isFit 11 = .ok (.if_icmp .gt 34, 3) := by decide +kernel
theorem dX9_isFit_14 : decode cX9_isFit 14 = .ok (.aload_n 0, 1) := by decide +kernel
theorem dX9_isFit_15 : decode cX9_isFit 15 = .ok (.getfield 100, 3) := by decide +kernel
theorem dX9_isFit_18 : decode cX9_isFit 18 = .ok (.iload_n 2, 1) := by decide +kernel
theorem dX9_isFit_19 : decode cX9_isFit 19 = .ok (.iaload, 1) := by decide +kernel
theorem dX9_isFit_20 : decode cX9_isFit 20 = .ok (.aload_n 0, 1) := by decide +kernel
theorem dX9_isFit_21 : decode cX9_isFit 21 = .ok (.getfield 48, 3) := by decide +kernel
theorem dX9_isFit_24 : decode cX9_isFit 24 = .ok (.iload_n 1, 1) := by decide +kernel
theorem dX9_isFit_25 : decode cX9_isFit 25 = .ok (.iaload, 1) := by decide +kernel
theorem dX9_isFit_26 : decode cX9_isFit 26 = .ok (.if_icmp .gt 19, 3) := by decide +kernel
theorem dX9_isFit_29 : decode cX9_isFit 29 = .ok (.aload_n 0, 1) := by decide +kernel
theorem dX9_isFit_30 : decode cX9_isFit 30 = .ok (.getfield 103, 3) := by decide +kernel
theorem dX9_isFit_33 : decode cX9_isFit 33 = .ok (.iload_n 2, 1) := by decide +kernel
theorem dX9_isFit_34 : decode cX9_isFit 34 = .ok (.iaload, 1) := by decide +kernel
theorem dX9_isFit_35 : decode cX9_isFit 35 = .ok (.sipush 5000, 3) := by decide +kernel
theorem dX9_isFit_38 : decode cX9_isFit 38 = .ok (.if_icmp .gt 7, 3) := by decide +kernel
theorem dX9_isFit_41 : decode cX9_isFit 41 = .ok (.iconst 1, 1) := by decide +kernel
theorem dX9_isFit_42 : decode cX9_isFit 42 = .ok (.goto 4, 3) := by decide +kernel
theorem dX9_isFit_45 : decode cX9_isFit 45 = .ok (.iconst 0, 1) := by decide +kernel
theorem dX9_isFit_46 : decode cX9_isFit 46 = .ok (.ireturn, 1) := by decide +kernel
theorem dX9_last_0 : decode cX9_last 0 = .ok (.aload_n 0, 1) := by decide +kernel
theorem dX9_last_1 : decode cX9_last 1 = .ok (.iload_n 1, 1) := by decide +kernel
theorem dX9_last_2 : decode cX9_last 2 = .ok (.invokevirtual 207, 3) := by decide +kernel
theorem dX9_last_5 : decode cX9_last 5 = .ok (.istore 4, 2) := by decide +kernel
theorem dX9_last_7 : decode cX9_last 7 = .ok (.sipush 255, 3) := by decide +kernel
theorem dX9_last_10 : decode cX9_last 10 = .ok (.iload_n 2, 1) := by decide +kernel
theorem dX9_last_11 : decode cX9_last 11 = .ok (.isub, 1) := by decide +kernel
theorem dX9_last_12 : decode cX9_last 12 = .ok (.iload_n 3, 1) := by decide +kernel
theorem dX9_last_13 : decode cX9_last 13 = .ok (.idiv, 1) := by decide +kernel
theorem dX9_last_14 : decode cX9_last 14 = .ok (.iconst 1, 1) := by decide +kernel
theorem dX9_last_15 : decode cX9_last 15 = .ok (.iadd, 1) := by decide +kernel
theorem dX9_last_16 : decode cX9_last 16 = .ok (.istore 5, 2) := by decide +kernel
theorem dX9_last_18 : decode cX9_last 18 = .ok (.iload 4, 2) := by decide +kernel
theorem dX9_last_20 : decode cX9_last 20 = .ok (.iload 5, 2) := by decide +kernel
theorem dX9_last_22 : decode cX9_last 22 = .ok (.if_icmp .ge 8, 3) := by decide +kernel
theorem dX9_last_25 : decode cX9_last 25 = .ok (.iload 4, 2) := by decide +kernel
theorem dX9_last_27 : decode cX9_last 27 = .ok (.goto 5, 3) := by decide +kernel
theorem dX9_last_30 : decode cX9_last 30 = .ok (.iload 5, 2) := by decide +kernel
theorem dX9_last_32 : decode cX9_last 32 = .ok (.ireturn, 1) := by decide +kernel
theorem dX9_isPart_0 : decode cX9_isPart 0 = .ok (.iload_n 0, 1) := by decide +kernel
theorem dX9_isPart_1 : decode cX9_isPart 1 = .ok (.iconst 0, 1) := by decide +kernel
theorem dX9_isPart_2 : decode cX9_isPart 2 = .ok (.sipush 255, 3) := by decide +kernel
theorem dX9_isPart_5 : decode cX9_isPart 5 = .ok (.invokestatic 137, 3) := by decide +kernel
theorem dX9_isPart_8 : decode cX9_isPart 8 = .ok (.ifCond .eq 17, 3) := by decide +kernel
theorem dX9_isPart_11 : decode cX9_isPart 11 = .ok (.iload_n 1, 1) := by decide +kernel
theorem dX9_isPart_12 : decode cX9_isPart 12 = .ok (.iconst 1, 1) := by decide +kernel
theorem dX9_isPart_13 : decode cX9_isPart 13 = .ok (.bipush 8, 2) := by decide +kernel
theorem dX9_isPart_15 : decode cX9_isPart 15 = .ok (.invokestatic 137, 3) := by decide +kernel
theorem dX9_isPart_18 : decode cX9_isPart 18 = .ok (.ifCond .eq 7, 3) := by decide +kernel
theorem dX9_isPart_21 : decode cX9_isPart 21 = .ok (.iconst 1, 1) := by decide +kernel
theorem dX9_isPart_22 : decode cX9_isPart 22 = .ok (.goto 4, 3) := by decide +kernel
theorem dX9_isPart_25 : decode cX9_isPart 25 = .ok (.iconst 0, 1) := by decide +kernel
theorem dX9_isPart_26 : decode cX9_isPart 26 = .ok (.ireturn, 1) := by decide +kernel
theorem dX9_whyNot_0 : decode cX9_whyNot 0 = .ok (.aload_n 0, 1) := by decide +kernel
theorem dX9_whyNot_1 : decode cX9_whyNot 1 = .ok (.iload_n 1, 1) := by decide +kernel
theorem dX9_whyNot_2 : decode cX9_whyNot 2 = .ok (.invokevirtual 213, 3) := by decide +kernel
theorem dX9_whyNot_5 : decode cX9_whyNot 5 = .ok (.ifCond .lt 5, 3) := by decide +kernel
theorem dX9_whyNot_8 : decode cX9_whyNot 8 = .ok (.iconst 1, 1) := by decide +kernel
theorem dX9_whyNot_9 : decode cX9_whyNot 9 = .ok (.ireturn, 1) := by decide +kernel
theorem dX9_whyNot_10 : decode cX9_whyNot 10 = .ok (.aload_n 0, 1) := by decide +kernel
theorem dX9_whyNot_11 : decode cX9_whyNot 11 = .ok (.getfield 36, 3) := by decide +kernel
theorem dX9_whyNot_14 : decode cX9_whyNot 14 = .ok (.iload_n 1, 1) := by decide +kernel
theorem dX9_whyNot_15 : decode cX9_whyNot 15 = .ok (.iaload, 1) := by decide +kernel
theorem dX9_whyNot_16 : decode cX9_whyNot 16 = .ok (.iload_n 3, 1) := by decide +kernel
theorem dX9_whyNot_17 : decode cX9_whyNot 17 = .ok (.if_icmp .eq 5, 3) := by decide +kernel
theorem dX9_whyNot_20 : decode cX9_whyNot 20 = .ok (.iconst 2, 1) := by decide +kernel
theorem dX9_whyNot_21 : decode cX9_whyNot 21 = .ok (.ireturn, 1) := by decide +kernel
theorem dX9_whyNot_22 : decode cX9_whyNot 22 = .ok (.aload_n 0, 1) := by decide +kernel
theorem dX9_whyNot_23 : decode cX9_whyNot 23 = .ok (.iload_n 1, 1) := by decide +kernel
theorem dX9_whyNot_24 : decode cX9_whyNot 24 = .ok (.iload_n 2, 1) := by decide +kernel
theorem dX9_whyNot_25 : decode cX9_whyNot 25 = .ok (.invokevirtual 311, 3) := by decide +kernel
theorem dX9_whyNot_28 : decode cX9_whyNot 28 = .ok (.ifCond .ne 5, 3) := by decide +kernel
theorem dX9_whyNot_31 : decode cX9_whyNot 31 = .ok (.iconst 3, 1) := by decide +kernel
theorem dX9_whyNot_32 : decode cX9_whyNot 32 = .ok (.ireturn, 1) := by decide +kernel
theorem dX9_whyNot_33 : decode cX9_whyNot 33 = .ok (.iconst 0, 1) := by decide +kernel
theorem dX9_whyNot_34 : decode cX9_whyNot 34 = .ok (.istore 6, 2) := by decide +kernel
theorem dX9_whyNot_36 : decode cX9_whyNot 36 = .ok (.iload 6, 2) := by decide +kernel
theorem dX9_whyNot_38 : decode cX9_whyNot 38 = .ok (.aload_n 0, 1) := by decide +kernel
theorem dX9_whyNot_39 : decode cX9_whyNot 39 = .ok (.iload_n 1, 1) := by decide +kernel
theorem dX9_whyNot_40 : decode cX9_whyNot 40 = .ok (.iload 4, 2) := by decide +kernel
theorem dX9_whyNot_42 : decode cX9_whyNot 42 = .ok (.iload 5, 2) := by decide +kernel
theorem dX9_whyNot_44 : decode cX9_whyNot 44 = .ok (.invokevirtual 314, 3) := by decide +kernel
theorem dX9_whyNot_47 : decode cX9_whyNot 47 = .ok (.if_icmp .ge 70, 3) := by decide +kernel
theorem dX9_whyNot_50 : decode cX9_whyNot 50 = .ok (.bipush 64, 2) := by decide +kernel
theorem dX9_whyNot_52 : decode cX9_whyNot 52 = .ok (.iload_n 1, 1) := by decide +kernel
theorem dX9_whyNot_53 : decode cX9_whyNot 53 = .ok (.imul, 1) := by decide +kernel
theorem dX9_whyNot_54 : decode cX9_whyNot 54 = .ok (.aload_n 0, 1) := by decide +kernel
theorem dX9_whyNot_55 : decode cX9_whyNot 55 = .ok (.iload_n 1, 1) := by decide +kernel
theorem dX9_whyNot_56 : decode cX9_whyNot 56 = .ok (.iload 6, 2) := by decide +kernel
theorem dX9_whyNot_58 : decode cX9_whyNot 58 = .ok (.invokevirtual 210, 3) := by decide +kernel
theorem dX9_whyNot_61 : decode cX9_whyNot 61 = .ok (.iadd, 1) := by decide +kernel
theorem dX9_whyNot_62 : decode cX9_whyNot 62 = .ok (.istore 7, 2) := by decide +kernel
theorem dX9_whyNot_64 : decode cX9_whyNot 64 = .ok (.aload_n 0, 1) := by decide +kernel
theorem dX9_whyNot_65 : decode cX9_whyNot 65 = .ok (.getfield 7, 3) := by decide +kernel
theorem dX9_whyNot_68 : decode cX9_whyNot 68 = .ok (.iload 4, 2) := by decide +kernel
theorem dX9_whyNot_70 : decode cX9_whyNot 70 = .ok (.iload 5, 2) := by decide +kernel
theorem dX9_whyNot_72 : decode cX9_whyNot 72 = .ok (.iload 6, 2) := by decide +kernel
theorem dX9_whyNot_74 : decode cX9_whyNot 74 = .ok (.imul, 1) := by decide +kernel
theorem dX9_whyNot_75 : decode cX9_whyNot 75 = .ok (.iadd, 1) := by decide +kernel
theorem dX9_whyNot_76 : decode cX9_whyNot 76 = .ok (.iaload, 1) := by decide +kernel
theorem dX9_whyNot_77 : decode cX9_whyNot 77 = .ok (.istore 8, 2) := by decide +kernel
theorem dX9_whyNot_79 : decode cX9_whyNot 79 = .ok (.iload 8, 2) := by decide +kernel
theorem dX9_whyNot_81 : decode cX9_whyNot 81 = .ok (.aload_n 0, 1) := by decide +kernel
theorem dX9_whyNot_82 : decode cX9_whyNot 82 = .ok (.getfield 64, 3) := by decide +kernel
theorem dX9_whyNot_85 : decode cX9_whyNot 85 = .ok (.iload 7, 2) := by decide +kernel
theorem dX9_whyNot_87 : decode cX9_whyNot 87 = .ok (.iaload, 1) := by decide +kernel
theorem dX9_whyNot_88 : decode cX9_whyNot 88 = .ok (.iconst (-1), 1) := by decide +kernel
theorem dX9_whyNot_89 : decode cX9_whyNot 89 = .ok (.ixor, 1) := by decide +kernel
theorem dX9_whyNot_90 : decode cX9_whyNot 90 = .ok (.iand, 1) := by decide +kernel
theorem dX9_whyNot_91 : decode cX9_whyNot 91 = .ok (.ifCond .ne 18, 3) := by decide +kernel
theorem dX9_whyNot_94 : decode cX9_whyNot 94 = .ok (.iload 8, 2) := by decide +kernel
theorem dX9_whyNot_96 : decode cX9_whyNot 96 = .ok (.aload_n 0, 1) := by decide +kernel
theorem dX9_whyNot_97 : decode cX9_whyNot 97 = .ok (.getfield 67, 3) := by decide +kernel
theorem dX9_whyNot_100 : decode cX9_whyNot 100 = .ok (.iload 7, 2) := by decide +kernel
theorem dX9_whyNot_102 : decode cX9_whyNot 102 = .ok (.iaload, 1) := by decide +kernel
theorem dX9_whyNot_103 : decode cX9_whyNot 103 = .ok (.iconst (-1), 1) := by decide +kernel
theorem dX9_whyNot_104 : decode cX9_whyNot 104 = .ok (.ixor, 1) := by decide +kernel
theorem dX9_whyNot_105 : decode cX9_whyNot 105 = .ok (.iand, 1) := by decide +kernel
theorem dX9_whyNot_106 : decode cX9_whyNot 106 = .ok (.ifCond .eq 5, 3) := by decide +kernel
theorem dX9_whyNot_109 : decode cX9_whyNot 109 = .ok (.iconst 4, 1) := by decide +kernel
theorem dX9_whyNot_110 : decode cX9_whyNot 110 = .ok (.ireturn, 1) := by decide +kernel
theorem dX9_whyNot_111 : decode cX9_whyNot 111 = .ok (.iinc 6 1, 3) := by decide +kernel
theorem dX9_whyNot_114 : decode cX9_whyNot 114 = .ok (.goto (-78), 3) := by decide +kernel
theorem dX9_whyNot_117 : decode cX9_whyNot 117 = .ok (.iconst 0, 1) := by decide +kernel
theorem dX9_whyNot_118 : decode cX9_whyNot 118 = .ok (.ireturn, 1) := by decide +kernel
theorem dX9_why_0 : decode cX9_why 0 = .ok (.aload_n 0, 1) := by decide +kernel
theorem dX9_why_1 : decode cX9_why 1 = .ok (.iload_n 1, 1) := by decide +kernel
theorem dX9_why_2 : decode cX9_why 2 = .ok (.invokevirtual 199, 3) := by decide +kernel
theorem dX9_why_5 : decode cX9_why 5 = .ok (.ifCond .eq 33, 3) := by decide +kernel
theorem dX9_why_8 : decode cX9_why 8 = .ok (.iload_n 2, 1) := by decide +kernel
theorem dX9_why_9 : decode cX9_why 9 = .ok (.iconst 0, 1) := by decide +kernel
theorem dX9_why_10 : decode cX9_why 10 = .ok (.iconst 3, 1) := by decide +kernel
theorem dX9_why_11 : decode cX9_why 11 = .ok (.invokestatic 137, 3) := by decide +kernel
theorem dX9_why_14 : decode cX9_why 14 = .ok (.ifCond .eq 24, 3) := by decide +kernel
theorem dX9_why_17 : decode cX9_why 17 = .ok (.iload_n 3, 1) := by decide +kernel
theorem dX9_why_18 : decode cX9_why 18 = .ok (.iconst 0, 1) := by decide +kernel
theorem dX9_why_19 : decode cX9_why 19 = .ok (.sipush 255, 3) := by decide +kernel
theorem dX9_why_22 : decode cX9_why 22 = .ok (.invokestatic 137, 3) := by decide +kernel
theorem dX9_why_25 : decode cX9_why 25 = .ok (.ifCond .eq 13, 3) := by decide +kernel
theorem dX9_why_28 : decode cX9_why 28 = .ok (.iload 4, 2) := by decide +kernel
theorem dX9_why_30 : decode cX9_why 30 = .ok (.iload 5, 2) := by decide +kernel
theorem dX9_why_32 : decode cX9_why 32 = .ok (.invokestatic 317, 3) := by decide +kernel
theorem dX9_why_35 : decode cX9_why 35 = .ok (.ifCond .ne 5, 3) := by decide +kernel
theorem dX9_why_38 : decode cX9_why 38 = .ok (.iconst (-1), 1) := by decide +kernel
theorem dX9_why_39 : decode cX9_why 39 = .ok (.ireturn, 1) := by decide +kernel
theorem dX9_why_40 : decode cX9_why 40 = .ok (.aload_n 0, 1) := by decide +kernel
theorem dX9_why_41 : decode cX9_why 41 = .ok (.iload_n 1, 1) := by decide +kernel
theorem dX9_why_42 : decode cX9_why 42 = .ok (.iload_n 2, 1) := by decide +kernel
theorem dX9_why_43 : decode cX9_why 43 = .ok (.iload_n 3, 1) := by decide +kernel
theorem dX9_why_44 : decode cX9_why 44 = .ok (.iload 4, 2) := by decide +kernel
theorem dX9_why_46 : decode cX9_why 46 = .ok (.iload 5, 2) := by decide +kernel
theorem dX9_why_48 : decode cX9_why 48 = .ok (.invokevirtual 320, 3) := by decide +kernel
theorem dX9_why_51 : decode cX9_why 51 = .ok (.ireturn, 1) := by decide +kernel
theorem dX9_isWrong_0 : decode cX9_isWrong 0 = .ok (.aload_n 0, 1) := by decide +kernel
theorem dX9_isWrong_1 : decode cX9_isWrong 1 = .ok (.getfield 64, 3) := by decide +kernel
theorem dX9_isWrong_4 : decode cX9_isWrong 4 = .ok (.bipush 64, 2) := by decide +kernel
theorem dX9_isWrong_6 : decode cX9_isWrong 6 = .ok (.iload_n 1, 1) := by decide +kernel
theorem dX9_isWrong_7 : decode cX9_isWrong 7 = .ok (.imul, 1) := by decide +kernel
theorem dX9_isWrong_8 : decode cX9_isWrong 8 = .ok (.iload_n 2, 1) := by decide +kernel
theorem dX9_isWrong_9 : decode cX9_isWrong 9 = .ok (.iadd, 1) := by decide +kernel
theorem dX9_isWrong_10 : decode cX9_isWrong 10 = .ok (.iaload, 1) := by decide +kernel
theorem dX9_isWrong_11 : decode cX9_isWrong 11 = .ok (.iload_n 3, 1) := by decide +kernel
theorem dX9_isWrong_12 : decode cX9_isWrong 12 = .ok (.if_icmp .ne 18, 3) := by decide +kernel
theorem dX9_isWrong_15 : decode cX9_isWrong 15 = .ok (.aload_n 0, 1) := by decide +kernel
theorem dX9_isWrong_16 : decode cX9_isWrong 16 = .ok (.getfield 67, 3) := by decide +kernel
theorem dX9_isWrong_19 : decode cX9_isWrong 19 = .ok (.bipush 64, 2) := by decide +kernel
theorem dX9_isWrong_21 : decode cX9_isWrong 21 = .ok (.iload_n 1, 1) := by decide +kernel
theorem dX9_isWrong_22 : decode cX9_isWrong 22 = .ok (.imul, 1) := by decide +kernel
theorem dX9_isWrong_23 : decode cX9_isWrong 23 = .ok (.iload_n 2, 1) := by decide +kernel
theorem dX9_isWrong_24 : decode cX9_isWrong 24 = .ok (.iadd, 1) := by decide +kernel
theorem dX9_isWrong_25 : decode cX9_isWrong 25 = .ok (.iaload, 1) := by decide +kernel
theorem dX9_isWrong_26 : decode cX9_isWrong 26 = .ok (.iload_n 3, 1) := by decide +kernel
theorem dX9_isWrong_27 : decode cX9_isWrong 27 = .ok (.if_icmp .eq 7, 3) := by decide +kernel
theorem dX9_isWrong_30 : decode cX9_isWrong 30 = .ok (.iconst 1, 1) := by decide +kernel
theorem dX9_isWrong_31 : decode cX9_isWrong 31 = .ok (.goto 4, 3) := by decide +kernel
theorem dX9_isWrong_34 : decode cX9_isWrong 34 = .ok (.iconst 0, 1) := by decide +kernel
theorem dX9_isWrong_35 : decode cX9_isWrong 35 = .ok (.ireturn, 1) := by decide +kernel
theorem dX9_work_0 : decode cX9_work 0 = .ok (.bipush 100, 2) := by decide +kernel
theorem dX9_work_2 : decode cX9_work 2 = .ok (.iload_n 2, 1) := by decide +kernel
theorem dX9_work_3 : decode cX9_work 3 = .ok (.imul, 1) := by decide +kernel
theorem dX9_work_4 : decode cX9_work 4 = .ok (.istore 5, 2) := by decide +kernel
theorem dX9_work_6 : decode cX9_work 6 = .ok (.iconst 0, 1) := by decide +kernel
theorem dX9_work_7 : decode cX9_work 7 = .ok (.istore 6, 2) := by decide +kernel
theorem dX9_work_9 : decode cX9_work 9 = .ok (.iconst 0, 1) := by decide +kernel
theorem dX9_work_10 : decode cX9_work 10 = .ok (.istore 7, 2) := by decide +kernel
theorem dX9_work_12 : decode cX9_work 12 = .ok (.iconst 0, 1) := by decide +kernel
theorem dX9_work_13 : decode cX9_work 13 = .ok (.istore 8, 2) := by decide +kernel
theorem dX9_work_15 : decode cX9_work 15 = .ok (.iload 8, 2) := by decide +kernel
theorem dX9_work_17 : decode cX9_work 17 = .ok (.aload_n 0, 1) := by decide +kernel
theorem dX9_work_18 : decode cX9_work 18 = .ok (.getfield 85, 3) := by decide +kernel
theorem dX9_work_21 : decode cX9_work 21 = .ok (.iload_n 2, 1) := by decide +kernel
theorem dX9_work_22 : decode cX9_work 22 = .ok (.iaload, 1) := by decide +kernel
theorem dX9_work_23 : decode cX9_work 23 = .ok (.if_icmp .ge 253, 3) := by decide +kernel
theorem dX9_work_26 : decode cX9_work 26 = .ok (.aload_n 0, 1) := by decide +kernel
theorem dX9_work_27 : decode cX9_work 27 = .ok (.getfield 324, 3) := by decide +kernel
theorem dX9_work_30 : decode cX9_work 30 = .ok (.ifCond .le 246, 3) := by decide +kernel
theorem dX9_work_33 : decode cX9_work 33 = .ok (.aload_n 0, 1) := by decide +kernel
theorem dX9_work_34 : decode cX9_work 34 = .ok (.getfield 91, 3) := by decide +kernel
theorem dX9_work_37 : decode cX9_work 37 = .ok (.iload 5, 2) := by decide +kernel
theorem dX9_work_39 : decode cX9_work 39 = .ok (.iload 8, 2) := by decide +kernel
theorem dX9_work_41 : decode cX9_work 41 = .ok (.iadd, 1) := by decide +kernel
theorem dX9_work_42 : decode cX9_work 42 = .ok (.iaload, 1) := by decide +kernel
theorem dX9_work_43 : decode cX9_work 43 = .ok (.istore 9, 2) := by decide +kernel
theorem dX9_work_45 : decode cX9_work 45 = .ok (.iload 8, 2) := by decide +kernel
theorem dX9_work_47 : decode cX9_work 47 = .ok (.iconst 1, 1) := by decide +kernel
theorem dX9_work_48 : decode cX9_work 48 = .ok (.iadd, 1) := by decide +kernel
theorem dX9_work_49 : decode cX9_work 49 = .ok (.istore 10, 2) := by decide +kernel
theorem dX9_work_51 : decode cX9_work 51 = .ok (.iload 9, 2) := by decide +kernel
theorem dX9_work_53 : decode cX9_work 53 = .ok (.ifCond .ne 15, 3) := by decide +kernel
theorem dX9_work_56 : decode cX9_work 56 = .ok (.aload_n 0, 1) := by decide +kernel
theorem dX9_work_57 : decode cX9_work 57 = .ok (.getfield 94, 3) := by decide +kernel
theorem dX9_work_60 : decode cX9_work 60 = .ok (.iload 5, 2) := by decide +kernel
theorem dX9_work_62 : decode cX9_work 62 = .ok (.iload 8, 2) := by decide +kernel
theorem dX9_work_64 : decode cX9_work 64 = .ok (.iadd, 1) := by decide +kernel
theorem dX9_work_65 : decode cX9_work 65 = .ok (.iaload, 1) := by decide +kernel
theorem dX9_work_66 : decode cX9_work 66 = .ok (.istore 6, 2) := by decide +kernel
theorem dX9_work_68 : decode cX9_work 68 = .ok (.iload 9, 2) := by decide +kernel
theorem dX9_work_70 : decode cX9_work 70 = .ok (.iconst 1, 1) := by decide +kernel
theorem dX9_work_71 : decode cX9_work 71 = .ok (.if_icmp .ne 54, 3) := by decide +kernel
theorem dX9_work_74 : decode cX9_work 74 = .ok (.iconst 0, 1) := by decide +kernel
theorem dX9_work_75 : decode cX9_work 75 = .ok (.istore 11, 2) := by decide +kernel
theorem dX9_work_77 : decode cX9_work 77 = .ok (.iload 11, 2) := by decide +kernel
theorem dX9_work_79 : decode cX9_work 79 = .ok (.aload_n 0, 1) := by decide +kernel
theorem dX9_work_80 : decode cX9_work 80 = .ok (.getfield 94, 3) := by decide +kernel
theorem dX9_work_83 : decode cX9_work 83 = .ok (.iload 5, 2) := by decide +kernel
theorem dX9_work_85 : decode cX9_work 85 = .ok (.iload 8, 2) := by decide +kernel
theorem dX9_work_87 : decode cX9_work 87 = .ok (.iadd, 1) := by decide +kernel
theorem dX9_work_88 : decode cX9_work 88 = .ok (.iaload, 1) := by decide +kernel
theorem dX9_work_89 : decode cX9_work 89 = .ok (.if_icmp .ge 36, 3) := by decide +kernel
theorem dX9_work_92 : decode cX9_work 92 = .ok (.aload_n 0, 1) := by decide +kernel
theorem dX9_work_93 : decode cX9_work 93 = .ok (.getfield 324, 3) := by decide +kernel
theorem dX9_work_96 : decode cX9_work 96 = .ok (.ifCond .le 29, 3) := by decide +kernel
theorem dX9_work_99 : decode cX9_work 99 = .ok (.aload_n 0, 1) := by decide +kernel
theorem dX9_work_100 : decode cX9_work 100 = .ok (.iload_n 1, 1) := by decide +kernel
theorem dX9_work_101 : decode cX9_work 101 = .ok (.iload_n 3, 1) := by decide +kernel
theorem dX9_work_102 : decode cX9_work 102 = .ok (.iload 4, 2) := by decide +kernel
theorem dX9_work_104 : decode cX9_work 104 = .ok (.iload 6, 2) := by decide +kernel
theorem dX9_work_106 : decode cX9_work 106 = .ok (.invokevirtual 327, 3) := by decide +kernel
theorem dX9_work_109 : decode cX9_work 109 = .ok (.aload_n 0, 1) := by decide +kernel
theorem dX9_work_110 : decode cX9_work 110 = .ok (.dup, 1) := by decide +kernel
theorem dX9_work_111 : decode cX9_work 111 = .ok (.getfield 324, 3) := by decide +kernel
theorem dX9_work_114 : decode cX9_work 114 = .ok (.iconst 1, 1) := by decide +kernel
theorem dX9_work_115 : decode cX9_work 115 = .ok (.isub, 1) := by decide +kernel
theorem dX9_work_116 : decode cX9_work 116 = .ok (.putfield 324, 3) := by decide +kernel
theorem dX9_work_119 : decode cX9_work 119 = .ok (.iinc 11 1, 3) := by decide +kernel
theorem dX9_work_122 : decode cX9_work 122 = .ok (.goto (-45), 3) := by decide +kernel
theorem dX9_work_125 : decode cX9_work 125 = .ok (.iload 9, 2) := by decide +kernel
theorem dX9_work_127 : decode cX9_work 127 = .ok (.iconst 2, 1) := by decide +kernel
theorem dX9_work_128 : decode cX9_work 128 = .ok (.if_icmp .ne 21, 3) := by decide +kernel
theorem dX9_work_131 : decode cX9_work 131 = .ok (.aload_n 0, 1) := by decide +kernel
theorem dX9_work_132 : decode cX9_work 132 = .ok (.iload_n 1, 1) := by decide +kernel
theorem dX9_work_133 : decode cX9_work 133 = .ok (.iload_n 3, 1) := by decide +kernel
theorem dX9_work_134 : decode cX9_work 134 = .ok (.iload 4, 2) := by decide +kernel
theorem dX9_work_136 : decode cX9_work 136 = .ok (.invokevirtual 330, 3) := by decide +kernel
theorem dX9_work_139 : decode cX9_work 139 = .ok (.ifCond .ne 7, 3) := by decide +kernel
theorem dX9_work_142 : decode cX9_work 142 = .ok (.iconst 1, 1) := by decide +kernel
theorem dX9_work_143 : decode cX9_work 143 = .ok (.goto 4, 3) := by decide +kernel
theorem dX9_work_146 : decode cX9_work 146 = .ok (.iconst 0, 1) := by decide +kernel
theorem dX9_work_147 : decode cX9_work 147 = .ok (.istore 7, 2) := by decide +kernel
theorem dX9_work_149 : decode cX9_work 149 = .ok (.iload 9, 2) := by decide +kernel
theorem dX9_work_151 : decode cX9_work 151 = .ok (.iconst 3, 1) := by decide +kernel
theorem dX9_work_152 : decode cX9_work 152 = .ok (.if_icmp .ne 37, 3) := by decide +kernel
theorem dX9_work_155 : decode cX9_work 155 = .ok (.aload_n 0, 1) := by decide +kernel
theorem dX9_work_156 : decode cX9_work 156 = .ok (.getfield 127, 3) := by decide +kernel
theorem dX9_work_159 : decode cX9_work 159 = .ok (.iload 8, 2) := by decide +kernel
theorem dX9_work_161 : decode cX9_work 161 = .ok (.aload_n 0, 1) := by decide +kernel
theorem dX9_work_162 : decode cX9_work 162 = .ok (.getfield 94, 3) := by decide +kernel
theorem dX9_work_165 : decode cX9_work 165 = .ok (.iload 5, 2) := by decide +kernel
theorem dX9_work_167 : decode cX9_work 167 = .ok (.iload 8, 2) := by decide +kernel
theorem dX9_work_169 : decode cX9_work 169 = .ok (.iadd, 1) := by decide +kernel
theorem dX9_work_170 : decode cX9_work 170 = .ok (.iaload, 1) := by decide +kernel
theorem dX9_work_171 : decode cX9_work 171 = .ok (.iastore, 1) := by decide +kernel
theorem dX9_work_172 : decode cX9_work 172 = .ok (.iload 7, 2) := by decide +kernel
theorem dX9_work_174 : decode cX9_work 174 = .ok (.ifCond .eq 15, 3) := by decide +kernel
theorem dX9_work_177 : decode cX9_work 177 = .ok (.aload_n 0, 1) := by decide +kernel
theorem dX9_work_178 : decode cX9_work 178 = .ok (.getfield 97, 3) := by decide +kernel
theorem dX9_work_181 : decode cX9_work 181 = .ok (.iload 5, 2) := by decide +kernel
theorem dX9_work_183 : decode cX9_work 183 = .ok (.iload 8, 2) := by decide +kernel
theorem dX9_work_185 : decode cX9_work 185 = .ok (.iadd, 1) := by decide +kernel
theorem dX9_work_186 : decode cX9_work 186 = .ok (.iaload, 1) := by decide +kernel
theorem dX9_work_187 : decode cX9_work 187 = .ok (.istore 10, 2) := by decide +kernel
theorem dX9_work_189 : decode cX9_work 189 = .ok (.iload 9, 2) := by decide +kernel
theorem dX9_work_191 : decode cX9_work 191 = .ok (.iconst 4, 1) := by decide +kernel
theorem dX9_work_192 : decode cX9_work 192 = .ok (.if_icmp .ne 47, 3) := by decide +kernel
theorem dX9_work_195 : decode cX9_work 195 = .ok (.aload_n 0, 1) := by decide +kernel
theorem dX9_work_196 : decode cX9_work 196 = .ok (.getfield 97, 3) := by decide +kernel
theorem dX9_work_199 : decode cX9_work 199 = .ok (.iload 5, 2) := by decide +kernel
theorem dX9_work_201 : decode cX9_work 201 = .ok (.iload 8, 2) := by decide +kernel
theorem dX9_work_203 : decode cX9_work 203 = .ok (.iadd, 1) := by decide +kernel
theorem dX9_work_204 : decode cX9_work 204 = .ok (.iaload, 1) := by decide +kernel
theorem dX9_work_205 : decode cX9_work 205 = .ok (.istore 11, 2) := by decide +kernel
theorem dX9_work_207 : decode cX9_work 207 = .ok (.aload_n 0, 1) := by decide +kernel
theorem dX9_work_208 : decode cX9_work 208 = .ok (.getfield 127, 3) := by decide +kernel
theorem dX9_work_211 : decode cX9_work 211 = .ok (.iload 11, 2) := by decide +kernel
theorem dX9_work_213 : decode cX9_work 213 = .ok (.dup2, 1) := by decide +kernel
theorem dX9_work_214 : decode cX9_work 214 = .ok (.iaload, 1) := by decide +kernel
theorem dX9_work_215 : decode cX9_work 215 = .ok (.iconst 1, 1) := by decide +kernel
theorem dX9_work_216 : decode cX9_work 216 = .ok (.isub, 1) := by decide +kernel
theorem dX9_work_217 : decode cX9_work 217 = .ok (.iastore, 1) := by decide +kernel
theorem dX9_work_218 : decode cX9_work 218 = .ok (.aload_n 0, 1) := by decide +kernel
theorem dX9_work_219 : decode cX9_work 219 = .ok (.getfield 127, 3) := by decide +kernel
theorem dX9_work_222 : decode cX9_work 222 = .ok (.iload 11, 2) := by decide +kernel
theorem dX9_work_224 : decode cX9_work 224 = .ok (.iaload, 1) := by decide +kernel
theorem dX9_work_225 : decode cX9_work 225 = .ok (.ifCond .le 14, 3) := by decide +kernel
theorem dX9_work_228 : decode cX9_work 228 = .ok (.iload 7, 2) := by decide +kernel
theorem dX9_work_230 : decode cX9_work 230 = .ok (.ifCond .ne 9, 3) := by decide +kernel
theorem dX9_work_233 : decode cX9_work 233 = .ok (.iload 11, 2) := by decide +kernel
theorem dX9_work_235 : decode cX9_work 235 = .ok (.iconst 1, 1) := by decide +kernel
theorem dX9_work_236 : decode cX9_work 236 = .ok (.iadd, 1) := by decide +kernel
theorem dX9_work_237 : decode cX9_work 237 = .ok (.istore 10, 2) := by decide +kernel
theorem dX9_work_239 : decode cX9_work 239 = .ok (.iload 9, 2) := by decide +kernel
theorem dX9_work_241 : decode cX9_work 241 = .ok (.iconst 5, 1) := by decide +kernel
theorem dX9_work_242 : decode cX9_work 242 = .ok (.if_icmp .ne 8, 3) := by decide +kernel
theorem dX9_work_245 : decode cX9_work 245 = .ok (.iload 7, 2) := by decide +kernel
theorem dX9_work_247 : decode cX9_work 247 = .ok (.ifCond .eq 10, 3) := by decide +kernel
theorem dX9_work_250 : decode cX9_work 250 = .ok (.iload 9, 2) := by decide +kernel
theorem dX9_work_252 : decode cX9_work 252 = .ok (.bipush 6, 2) := by decide +kernel
theorem dX9_work_254 : decode cX9_work 254 = .ok (.if_icmp .ne 15, 3) := by decide +kernel
theorem dX9_work_257 : decode cX9_work 257 = .ok (.aload_n 0, 1) := by decide +kernel
theorem dX9_work_258 : decode cX9_work 258 = .ok (.getfield 97, 3) := by decide +kernel
theorem dX9_work_261 : decode cX9_work 261 = .ok (.iload 5, 2) := by decide +kernel
theorem dX9_work_263 : decode cX9_work 263 = .ok (.iload 8, 2) := by decide +kernel
theorem dX9_work_265 : decode cX9_work 265 = .ok (.iadd, 1) := by decide +kernel
theorem dX9_work_266 : decode cX9_work 266 = .ok (.iaload, 1) := by decide +kernel
theorem dX9_work_267 : decode cX9_work 267 = .ok (.istore 10, 2) := by decide +kernel
theorem dX9_work_269 : decode cX9_work 269 = .ok (.iload 10, 2) := by decide +kernel
theorem dX9_work_271 : decode cX9_work 271 = .ok (.istore 8, 2) := by decide +kernel
theorem dX9_work_273 : decode cX9_work 273 = .ok (.goto (-258), 3) := by decide +kernel
theorem dX9_work_276 : decode cX9_work 276 = .ok (.return_, 1) := by decide +kernel
theorem dX9_burn_0 : decode cX9_burn 0 = .ok (.iload 6, 2) := by decide +kernel
theorem dX9_burn_2 : decode cX9_burn 2 = .ok (.iconst 0, 1) := by decide +kernel
theorem dX9_burn_3 : decode cX9_burn 3 = .ok (.ldc 245, 2) := by decide +kernel
theorem dX9_burn_5 : decode cX9_burn 5 = .ok (.invokestatic 137, 3) := by decide +kernel
theorem dX9_burn_8 : decode cX9_burn 8 = .ok (.ifCond .eq 17, 3) := by decide +kernel
theorem dX9_burn_11 : decode cX9_burn 11 = .ok (.aload_n 0, 1) := by decide +kernel
theorem dX9_burn_12 : decode cX9_burn 12 = .ok (.iload_n 1, 1) := by decide +kernel
theorem dX9_burn_13 : decode cX9_burn 13 = .ok (.iload_n 2, 1) := by decide +kernel
theorem dX9_burn_14 : decode cX9_burn 14 = .ok (.iload_n 3, 1) := by decide +kernel
theorem dX9_burn_15 : decode cX9_burn 15 = .ok (.iload 4, 2) := by decide +kernel
theorem dX9_burn_17 : decode cX9_burn 17 = .ok (.iload 5, 2) := by decide +kernel
theorem dX9_burn_19 : decode cX9_burn 19 = .ok (.invokevirtual 333, 3) := by decide +kernel
theorem dX9_burn_22 : decode cX9_burn 22 = .ok (.ifCond .eq 5, 3) := by decide +kernel
theorem dX9_burn_25 : decode cX9_burn 25 = .ok (.iconst (-1), 1) := by decide +kernel
theorem dX9_burn_26 : decode cX9_burn 26 = .ok (.ireturn, 1) := by decide +kernel
theorem dX9_burn_27 : decode cX9_burn 27 = .ok (.aload_n 0, 1) := by decide +kernel
theorem dX9_burn_28 : decode cX9_burn 28 = .ok (.iload 6, 2) := by decide +kernel
theorem dX9_burn_30 : decode cX9_burn 30 = .ok (.putfield 324, 3) := by decide +kernel
theorem dX9_burn_33 : decode cX9_burn 33 = .ok (.iconst 0, 1) := by decide +kernel
theorem dX9_burn_34 : decode cX9_burn 34 = .ok (.istore 7, 2) := by decide +kernel
theorem dX9_burn_36 : decode cX9_burn 36 = .ok (.iload 7, 2) := by decide +kernel
theorem dX9_burn_38 : decode cX9_burn 38 = .ok (.aload_n 0, 1) := by decide +kernel
theorem dX9_burn_39 : decode cX9_burn 39 = .ok (.iload_n 1, 1) := by decide +kernel
theorem dX9_burn_40 : decode cX9_burn 40 = .ok (.iload 4, 2) := by decide +kernel
theorem dX9_burn_42 : decode cX9_burn 42 = .ok (.iload 5, 2) := by decide +kernel
theorem dX9_burn_44 : decode cX9_burn 44 = .ok (.invokevirtual 314, 3) := by decide +kernel
theorem dX9_burn_47 : decode cX9_burn 47 = .ok (.if_icmp .ge 55, 3) := by decide +kernel
theorem dX9_burn_50 : decode cX9_burn 50 = .ok (.aload_n 0, 1) := by decide +kernel
theorem dX9_burn_51 : decode cX9_burn 51 = .ok (.iload_n 1, 1) := by decide +kernel
theorem dX9_burn_52 : decode cX9_burn 52 = .ok (.iload 7, 2) := by decide +kernel
theorem dX9_burn_54 : decode cX9_burn 54 = .ok (.invokevirtual 210, 3) := by decide +kernel
theorem dX9_burn_57 : decode cX9_burn 57 = .ok (.istore 8, 2) := by decide +kernel
theorem dX9_burn_59 : decode cX9_burn 59 = .ok (.aload_n 0, 1) := by decide +kernel
theorem dX9_burn_60 : decode cX9_burn 60 = .ok (.getfield 7, 3) := by decide +kernel
theorem dX9_burn_63 : decode cX9_burn 63 = .ok (.iload 4, 2) := by decide +kernel
theorem dX9_burn_65 : decode cX9_burn 65 = .ok (.iload 5, 2) := by decide +kernel
theorem dX9_burn_67 : decode cX9_burn 67 = .ok (.iload 7, 2) := by decide +kernel
theorem dX9_burn_69 : decode cX9_burn 69 = .ok (.imul, 1) := by decide +kernel
theorem dX9_burn_70 : decode cX9_burn 70 = .ok (.iadd, 1) := by decide +kernel
theorem dX9_burn_71 : decode cX9_burn 71 = .ok (.iaload, 1) := by decide +kernel
theorem dX9_burn_72 : decode cX9_burn 72 = .ok (.istore 9, 2) := by decide +kernel
theorem dX9_burn_74 : decode cX9_burn 74 = .ok (.aload_n 0, 1) := by decide +kernel
theorem dX9_burn_75 : decode cX9_burn 75 = .ok (.iload_n 1, 1) := by decide +kernel
theorem dX9_burn_76 : decode cX9_burn 76 = .ok (.iload 8, 2) := by decide +kernel
theorem dX9_burn_78 : decode cX9_burn 78 = .ok (.iload 9, 2) := by decide +kernel
theorem dX9_burn_80 : decode cX9_burn 80 = .ok (.invokevirtual 330, 3) := by decide +kernel
theorem dX9_burn_83 : decode cX9_burn 83 = .ok (.ifCond .eq 13, 3) := by decide +kernel
theorem dX9_burn_86 : decode cX9_burn 86 = .ok (.aload_n 0, 1) := by decide +kernel
theorem dX9_burn_87 : decode cX9_burn 87 = .ok (.iload_n 1, 1) := by decide +kernel
theorem dX9_burn_88 : decode cX9_burn 88 = .ok (.iload_n 2, 1) := by decide +kernel
theorem dX9_burn_89 : decode cX9_burn 89 = .ok (.iload 8, 2) := by decide +kernel
theorem dX9_burn_91 : decode cX9_burn 91 = .ok (.iload 9, 2) := by decide +kernel
theorem dX9_burn_93 : decode cX9_burn 93 = .ok (.invokevirtual 336, 3) := by decide +kernel
theorem dX9_burn_96 : decode cX9_burn 96 = .ok (.iinc 7 1, 3) := by decide +kernel
theorem dX9_burn_99 : decode cX9_burn 99 = .ok (.goto (-63), 3) := by decide +kernel
theorem dX9_burn_102 : decode cX9_burn 102 = .ok (.iload 6, 2) := by decide +kernel
theorem dX9_burn_104 : decode cX9_burn 104 = .ok (.aload_n 0, 1) := by decide +kernel
theorem dX9_burn_105 : decode cX9_burn 105 = .ok (.getfield 324, 3) := by decide +kernel
theorem dX9_burn_108 : decode cX9_burn 108 = .ok (.isub, 1) := by decide +kernel
theorem dX9_burn_109 : decode cX9_burn 109 = .ok (.ireturn, 1) := by decide +kernel
theorem dX9_wrong_0 : decode cX9_wrong 0 = .ok (.aload_n 0, 1) := by decide +kernel
theorem dX9_wrong_1 : decode cX9_wrong 1 = .ok (.iload_n 1, 1) := by decide +kernel
theorem dX9_wrong_2 : decode cX9_wrong 2 = .ok (.invokevirtual 199, 3) := by decide +kernel
theorem dX9_wrong_5 : decode cX9_wrong 5 = .ok (.ifCond .eq 11, 3) := by decide +kernel
theorem dX9_wrong_8 : decode cX9_wrong 8 = .ok (.iload_n 2, 1) := by decide +kernel
theorem dX9_wrong_9 : decode cX9_wrong 9 = .ok (.iload_n 3, 1) := by decide +kernel
theorem dX9_wrong_10 : decode cX9_wrong 10 = .ok (.invokestatic 317, 3) := by decide +kernel
theorem dX9_wrong_13 : decode cX9_wrong 13 = .ok (.ifCond .ne 5, 3) := by decide +kernel
theorem dX9_wrong_16 : decode cX9_wrong 16 = .ok (.iconst (-1), 1) := by decide +kernel
theorem dX9_wrong_17 : decode cX9_wrong 17 = .ok (.ireturn, 1) := by decide +kernel
theorem dX9_wrong_18 : decode cX9_wrong 18 = .ok (.iconst 0, 1) := by decide +kernel
theorem dX9_wrong_19 : decode cX9_wrong 19 = .ok (.istore 4, 2) := by decide +kernel
theorem dX9_wrong_21 : decode cX9_wrong 21 = .ok (.iconst 0, 1) := by decide +kernel
theorem dX9_wrong_22 : decode cX9_wrong 22 = .ok (.istore 5, 2) := by decide +kernel
theorem dX9_wrong_24 : decode cX9_wrong 24 = .ok (.iload 5, 2) := by decide +kernel
theorem dX9_wrong_26 : decode cX9_wrong 26 = .ok (.aload_n 0, 1) := by decide +kernel
theorem dX9_wrong_27 : decode cX9_wrong 27 = .ok (.iload_n 1, 1) := by decide +kernel
theorem dX9_wrong_28 : decode cX9_wrong 28 = .ok (.iload_n 2, 1) := by decide +kernel
theorem dX9_wrong_29 : decode cX9_wrong 29 = .ok (.iload_n 3, 1) := by decide +kernel
theorem dX9_wrong_30 : decode cX9_wrong 30 = .ok (.invokevirtual 314, 3) := by decide +kernel
theorem dX9_wrong_33 : decode cX9_wrong 33 = .ok (.if_icmp .ge 45, 3) := by decide +kernel
theorem dX9_wrong_36 : decode cX9_wrong 36 = .ok (.iload 4, 2) := by decide +kernel
theorem dX9_wrong_38 : decode cX9_wrong 38 = .ok (.aload_n 0, 1) := by decide +kernel
theorem dX9_wrong_39 : decode cX9_wrong 39 = .ok (.iload_n 1, 1) := by decide +kernel
theorem dX9_wrong_40 : decode cX9_wrong 40 = .ok (.aload_n 0, 1) := by decide +kernel
theorem dX9_wrong_41 : decode cX9_wrong 41 = .ok (.iload_n 1, 1) := by decide +kernel
theorem dX9_wrong_42 : decode cX9_wrong 42 = .ok (.iload 5, 2) := by decide +kernel
theorem dX9_wrong_44 : decode cX9_wrong 44 = .ok (.invokevirtual 210, 3) := by decide +kernel
theorem dX9_wrong_47 : decode cX9_wrong 47 = .ok (.aload_n 0, 1) := by decide +kernel
theorem dX9_wrong_48 : decode cX9_wrong 48 = .ok (.getfield 7, 3) := by decide +kernel
theorem dX9_wrong_51 : decode cX9_wrong 51 = .ok (.iload_n 2, 1) := by decide +kernel
theorem dX9_wrong_52 : decode cX9_wrong 52 = .ok (.iload_n 3, 1) := by decide +kernel
theorem dX9_wrong_53 : decode cX9_wrong 53 = .ok (.iload 5, 2) := by decide +kernel
theorem dX9_wrong_55 : decode cX9_wrong 55 = .ok (.imul, 1) := by decide +kernel
theorem dX9_wrong_56 : decode cX9_wrong 56 = .ok (.iadd, 1) := by decide +kernel
theorem dX9_wrong_57 : decode cX9_wrong 57 = .ok (.iaload, 1) := by decide +kernel
theorem dX9_wrong_58 : decode cX9_wrong 58 = .ok (.invokevirtual 330, 3) := by decide +kernel
theorem dX9_wrong_61 : decode cX9_wrong 61 = .ok (.ifCond .eq 7, 3) := by decide +kernel
theorem dX9_wrong_64 : decode cX9_wrong 64 = .ok (.iconst 1, 1) := by decide +kernel
theorem dX9_wrong_65 : decode cX9_wrong 65 = .ok (.goto 4, 3) := by decide +kernel
theorem dX9_wrong_68 : decode cX9_wrong 68 = .ok (.iconst 0, 1) := by decide +kernel
theorem dX9_wrong_69 : decode cX9_wrong 69 = .ok (.iadd, 1) := by decide +kernel
theorem dX9_wrong_70 : decode cX9_wrong 70 = .ok (.istore 4, 2) := by decide +kernel
theorem dX9_wrong_72 : decode cX9_wrong 72 = .ok (.iinc 5 1, 3) := by decide +kernel
theorem dX9_wrong_75 : decode cX9_wrong 75 = .ok (.goto (-51), 3) := by decide +kernel
theorem dX9_wrong_78 : decode cX9_wrong 78 = .ok (.iload 4, 2) := by decide +kernel
theorem dX9_wrong_80 : decode cX9_wrong 80 = .ok (.ireturn, 1) := by decide +kernel
theorem dX9_read_0 : decode cX9_read 0 = .ok (.aload_n 0, 1) := by decide +kernel
theorem dX9_read_1 : decode cX9_read 1 = .ok (.iload_n 1, 1) := by decide +kernel
theorem dX9_read_2 : decode cX9_read 2 = .ok (.invokevirtual 199, 3) := by decide +kernel
theorem dX9_read_5 : decode cX9_read 5 = .ok (.ifCond .eq 12, 3) := by decide +kernel
theorem dX9_read_8 : decode cX9_read 8 = .ok (.iload_n 3, 1) := by decide +kernel
theorem dX9_read_9 : decode cX9_read 9 = .ok (.iload 4, 2) := by decide +kernel
theorem dX9_read_11 : decode cX9_read 11 = .ok (.invokestatic 317, 3) := by decide +kernel
theorem dX9_read_14 : decode cX9_read 14 = .ok (.ifCond .ne 5, 3) := by decide +kernel
theorem dX9_read_17 : decode cX9_read 17 = .ok (.iconst (-1), 1) := by decide +kernel
theorem dX9_read_18 : decode cX9_read 18 = .ok (.ireturn, 1) := by decide +kernel
theorem dX9_read_19 : decode cX9_read 19 = .ok (.aload_n 0, 1) := by decide +kernel
theorem dX9_read_20 : decode cX9_read 20 = .ok (.iload_n 1, 1) := by decide +kernel
theorem dX9_read_21 : decode cX9_read 21 = .ok (.iload_n 3, 1) := by decide +kernel
theorem dX9_read_22 : decode cX9_read 22 = .ok (.iload 4, 2) := by decide +kernel
theorem dX9_read_24 : decode cX9_read 24 = .ok (.invokevirtual 314, 3) := by decide +kernel
theorem dX9_read_27 : decode cX9_read 27 = .ok (.istore 5, 2) := by decide +kernel
theorem dX9_read_29 : decode cX9_read 29 = .ok (.iconst 0, 1) := by decide +kernel
theorem dX9_read_30 : decode cX9_read 30 = .ok (.istore 6, 2) := by decide +kernel
theorem dX9_read_32 : decode cX9_read 32 = .ok (.iload 6, 2) := by decide +kernel
theorem dX9_read_34 : decode cX9_read 34 = .ok (.iload 5, 2) := by decide +kernel
theorem dX9_read_36 : decode cX9_read 36 = .ok (.if_icmp .ge 56, 3) := by decide +kernel
theorem dX9_read_39 : decode cX9_read 39 = .ok (.bipush 64, 2) := by decide +kernel
theorem dX9_read_41 : decode cX9_read 41 = .ok (.iload_n 1, 1) := by decide +kernel
theorem dX9_read_42 : decode cX9_read 42 = .ok (.imul, 1) := by decide +kernel
theorem dX9_read_43 : decode cX9_read 43 = .ok (.aload_n 0, 1) := by decide +kernel
theorem dX9_read_44 : decode cX9_read 44 = .ok (.iload_n 1, 1) := by decide +kernel
theorem dX9_read_45 : decode cX9_read 45 = .ok (.iload 6, 2) := by decide +kernel
theorem dX9_read_47 : decode cX9_read 47 = .ok (.invokevirtual 210, 3) := by decide +kernel
theorem dX9_read_50 : decode cX9_read 50 = .ok (.iadd, 1) := by decide +kernel
theorem dX9_read_51 : decode cX9_read 51 = .ok (.istore 7, 2) := by decide +kernel
theorem dX9_read_53 : decode cX9_read 53 = .ok (.aload_n 0, 1) := by decide +kernel
theorem dX9_read_54 : decode cX9_read 54 = .ok (.getfield 7, 3) := by decide +kernel
theorem dX9_read_57 : decode cX9_read 57 = .ok (.iload_n 3, 1) := by decide +kernel
theorem dX9_read_58 : decode cX9_read 58 = .ok (.iload 4, 2) := by decide +kernel
theorem dX9_read_60 : decode cX9_read 60 = .ok (.iload 6, 2) := by decide +kernel
theorem dX9_read_62 : decode cX9_read 62 = .ok (.imul, 1) := by decide +kernel
theorem dX9_read_63 : decode cX9_read 63 = .ok (.iadd, 1) := by decide +kernel
theorem dX9_read_64 : decode cX9_read 64 = .ok (.iload_n 2, 1) := by decide +kernel
theorem dX9_read_65 : decode cX9_read 65 = .ok (.ifCond .eq 13, 3) := by decide +kernel
theorem dX9_read_68 : decode cX9_read 68 = .ok (.aload_n 0, 1) := by decide +kernel
theorem dX9_read_69 : decode cX9_read 69 = .ok (.getfield 67, 3) := by decide +kernel
theorem dX9_read_72 : decode cX9_read 72 = .ok (.iload 7, 2) := by decide +kernel
theorem dX9_read_74 : decode cX9_read 74 = .ok (.iaload, 1) := by decide +kernel
theorem dX9_read_75 : decode cX9_read 75 = .ok (.goto 10, 3) := by decide +kernel
theorem dX9_read_78 : decode cX9_read 78 = .ok (.aload_n 0, 1) := by decide +kernel
theorem dX9_read_79 : decode cX9_read 79 = .ok (.getfield 64, 3) := by decide +kernel
theorem dX9_read_82 : decode cX9_read 82 = .ok (.iload 7, 2) := by decide +kernel
theorem dX9_read_84 : decode cX9_read 84 = .ok (.iaload, 1) := by decide +kernel
theorem dX9_read_85 : decode cX9_read 85 = .ok (.iastore, 1) := by decide +kernel
theorem dX9_read_86 : decode cX9_read 86 = .ok (.iinc 6 1, 3) := by decide +kernel
theorem dX9_read_89 : decode cX9_read 89 = .ok (.goto (-57), 3) := by decide +kernel
theorem dX9_read_92 : decode cX9_read 92 = .ok (.iload 5, 2) := by decide +kernel
theorem dX9_read_94 : decode cX9_read 94 = .ok (.ireturn, 1) := by decide +kernel
theorem dX9_about_0 : decode cX9_about 0 = .ok (.iload_n 1, 1) := by decide +kernel
theorem dX9_about_1 : decode cX9_about 1 = .ok (.ifCond .ne 10, 3) := by decide +kernel
theorem dX9_about_4 : decode cX9_about 4 = .ok (.aload_n 0, 1) := by decide +kernel
theorem dX9_about_5 : decode cX9_about 5 = .ok (.getfield 196, 3) := by decide +kernel
theorem dX9_about_8 : decode cX9_about 8 = .ok (.goto 45, 3) := by decide +kernel
theorem dX9_about_11 : decode cX9_about 11 = .ok (.iload_n 1, 1) := by decide +kernel
theorem dX9_about_12 : decode cX9_about 12 = .ok (.iconst 1, 1) := by decide +kernel
theorem dX9_about_13 : decode cX9_about 13 = .ok (.if_icmp .ne 10, 3) := by decide +kernel
theorem dX9_about_16 : decode cX9_about 16 = .ok (.aload_n 0, 1) := by decide +kernel
theorem dX9_about_17 : decode cX9_about 17 = .ok (.getfield 130, 3) := by decide +kernel
theorem dX9_about_20 : decode cX9_about 20 = .ok (.goto 33, 3) := by decide +kernel
theorem dX9_about_23 : decode cX9_about 23 = .ok (.iload_n 1, 1) := by decide +kernel
theorem dX9_about_24 : decode cX9_about 24 = .ok (.iconst 2, 1) := by decide +kernel
theorem dX9_about_25 : decode cX9_about 25 = .ok (.if_icmp .ne 27, 3) := by decide +kernel
theorem dX9_about_28 : decode cX9_about 28 = .ok (.aload_n 0, 1) := by decide +kernel
theorem dX9_about_29 : decode cX9_about 29 = .ok (.getfield 179, 3) := by decide +kernel
theorem dX9_about_32 : decode cX9_about 32 = .ok (.ldc2_w 216, 3) := by decide +kernel
theorem dX9_about_35 : decode cX9_about 35 = .ok (.lcmp, 1) := by decide +kernel
theorem dX9_about_36 : decode cX9_about 36 = .ok (.ifCond .le 8, 3) := by decide +kernel
theorem dX9_about_39 : decode cX9_about 39 = .ok (.ldc 218, 2) := by decide +kernel
theorem dX9_about_41 : decode cX9_about 41 = .ok (.goto 12, 3) := by decide +kernel
theorem dX9_about_44 : decode cX9_about 44 = .ok (.aload_n 0, 1) := by decide +kernel
theorem dX9_about_45 : decode cX9_about 45 = .ok (.getfield 179, 3) := by decide +kernel
theorem dX9_about_48 : decode cX9_about 48 = .ok (.l2i, 1) := by decide +kernel
theorem dX9_about_49 : decode cX9_about 49 = .ok (.goto 4, 3) := by decide +kernel
theorem dX9_about_52 : decode cX9_about 52 = .ok (.iconst (-1), 1) := by decide +kernel
theorem dX9_about_53 : decode cX9_about 53 = .ok (.ireturn, 1) := by decide +kernel

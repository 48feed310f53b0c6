theorem dX8_fills_199 : decode cX8_fills 199 = .ok (.aload_n 0, 1) := by decide +kernel
theorem dX8_fills_200 : decode cX8_fills 200 = .ok (.getfield 51, 3) := by decide +kernel
theorem dX8_fills_203 : decode cX8_fills 203 = .ok (.ldc_w 388, 3) := by decide +kernel
theorem dX8_fills_206 : decode cX8_fills 206 = .ok (.bipush 12, 2) := by decide +kernel
theorem dX8_fills_208 : decode cX8_fills 208 = .ok (.iload_n 3, 1) := by decide +kernel
theorem dX8_fills_209 : decode cX8_fills 209 = .ok (.imul, 1) := by decide +kernel
theorem dX8_fills_210 : decode cX8_fills 210 = .ok (.iadd, 1) := by decide +kernel
theorem dX8_fills_211 : decode cX8_fills 211 = .ok (.iload 5, 2) := by decide +kernel
theorem dX8_fills_213 : decode cX8_fills 213 = .ok (.iadd, 1) := by decide +kernel
theorem dX8_fills_214 : decode cX8_fills 214 = .ok (.iload 4, 2) := by decide +kernel
theorem dX8_fills_216 : decode cX8_fills 216 = .ok (.iastore, 1) := by decide +kernel
theorem dX8_fills_217 : decode cX8_fills 217 = .ok (.iinc 5 1, 3) := by decide +kernel
theorem dX8_fills_220 : decode cX8_fills 220 = .ok (.goto (-28), 3) := by decide +kernel
theorem dX8_fills_223 : decode cX8_fills 223 = .ok (.iinc 3 1, 3) := by decide +kernel
theorem dX8_fills_226 : decode cX8_fills 226 = .ok (.goto (-77), 3) := by decide +kernel
theorem dX8_fills_229 : decode cX8_fills 229 = .ok (.bipush 23, 2) := by decide +kernel
theorem dX8_fills_231 : decode cX8_fills 231 = .ok (.istore_n 3, 1) := by decide +kernel
theorem dX8_fills_232 : decode cX8_fills 232 = .ok (.iload_n 3, 1) := by decide +kernel
theorem dX8_fills_233 : decode cX8_fills 233 = .ok (.ifCond .le 142, 3) := by decide +kernel
theorem dX8_fills_236 : decode cX8_fills 236 = .ok (.iconst 0, 1) := by decide +kernel
theorem dX8_fills_237 : decode cX8_fills 237 = .ok (.istore 4, 2) := by decide +kernel
theorem dX8_fills_239 : decode cX8_fills 239 = .ok (.iload 4, 2) := by decide +kernel
theorem dX8_fills_241 : decode cX8_fills 241 = .ok (.sipush 256, 3) := by decide +kernel
theorem dX8_fills_244 : decode cX8_fills 244 = .ok (.if_icmp .ge 125, 3) := by decide +kernel
theorem dX8_fills_247 : decode cX8_fills 247 = .ok (.iconst 0, 1) := by decide +kernel
theorem dX8_fills_248 : decode cX8_fills 248 = .ok (.istore 5, 2) := by decide +kernel
theorem dX8_fills_250 : decode cX8_fills 250 = .ok (.iload 4, 2) := by decide +kernel
theorem dX8_fills_252 : decode cX8_fills 252 = .ok (.iload_n 2, 1) := by decide +kernel
theorem dX8_fills_253 : decode cX8_fills 253 = .ok (.iconst (-1), 1) := by decide +kernel
theorem dX8_fills_254 : decode cX8_fills 254 = .ok (.ixor, 1) := by decide +kernel
theorem dX8_fills_255 : decode cX8_fills 255 = .ok (.iand, 1) := by decide +kernel
theorem dX8_fills_256 : decode cX8_fills 256 = .ok (.ifCond .ne 107, 3) := by decide +kernel
theorem dX8_fills_259 : decode cX8_fills 259 = .ok (.iload 5, 2) := by decide +kernel
theorem dX8_fills_261 : decode cX8_fills 261 = .ok (.iconst 3, 1) := by decide +kernel
theorem dX8_fills_262 : decode cX8_fills 262 = .ok (.if_icmp .ge 101, 3) := by decide +kernel
theorem dX8_fills_265 : decode cX8_fills 265 = .ok (.iconst 1, 1) := by decide +kernel
theorem dX8_fills_266 : decode cX8_fills 266 = .ok (.istore 6, 2) := by decide +kernel
theorem dX8_fills_268 : decode cX8_fills 268 = .ok (.iload 6, 2) := by decide +kernel
theorem dX8_fills_270 : decode cX8_fills 270 = .ok (.aload_n 0, 1) := by decide +kernel
theorem dX8_fills_271 : decode cX8_fills 271 = .ok (.getfield 32, 3) := by decide +kernel
theorem dX8_fills_274 : decode cX8_fills 274 = .ok (.if_icmp .gt 83, 3) := by decide +kernel
theorem dX8_fills_277 : decode cX8_fills 277 = .ok (.ldc_w 377, 3) := by decide +kernel
theorem dX8_fills_280 : decode cX8_fills 280 = .ok (.istore 7, 2) := by decide +kernel
theorem dX8_fills_282 : decode cX8_fills 282 = .ok (.iconst 0, 1) := by decide +kernel
theorem dX8_fills_283 : decode cX8_fills 283 = .ok (.istore 8, 2) := by decide +kernel
theorem dX8_fills_285 : decode cX8_fills 285 = .ok (.iload 8, 2) := by decide +kernel
theorem dX8_fills_287 : decode cX8_fills 287 = .ok (.iconst 3, 1) := by decide +kernel
theorem dX8_fills_288 : decode cX8_fills 288 = .ok (.if_icmp .ge 41, 3) := by decide +kernel
theorem dX8_fills_291 : decode cX8_fills 291 = .ok (.aload_n 0, 1) := by decide +kernel
theorem dX8_fills_292 : decode cX8_fills 292 = .ok (.iload_n 3, 1) := by decide +kernel
theorem dX8_fills_293 : decode cX8_fills 293 = .ok (.iload 4, 2) := by decide +kernel
theorem dX8_fills_295 : decode cX8_fills 295 = .ok (.iload 5, 2) := by decide +kernel
theorem dX8_fills_297 : decode cX8_fills 297 = .ok (.iload 6, 2) := by decide +kernel
theorem dX8_fills_299 : decode cX8_fills 299 = .ok (.iload 8, 2) := by decide +kernel
theorem dX8_fills_301 : decode cX8_fills 301 = .ok (.iload_n 1, 1) := by decide +kernel
theorem dX8_fills_302 : decode cX8_fills 302 = .ok (.invokevirtual 389, 3) := by decide +kernel
theorem dX8_fills_305 : decode cX8_fills 305 = .ok (.istore 9, 2) := by decide +kernel
theorem dX8_fills_307 : decode cX8_fills 307 = .ok (.iload 9, 2) := by decide +kernel
theorem dX8_fills_309 : decode cX8_fills 309 = .ok (.iload 7, 2) := by decide +kernel
theorem dX8_fills_311 : decode cX8_fills 311 = .ok (.if_icmp .ge 8, 3) := by decide +kernel
theorem dX8_fills_314 : decode cX8_fills 314 = .ok (.iload 9, 2) := by decide +kernel
theorem dX8_fills_316 : decode cX8_fills 316 = .ok (.goto 5, 3) := by decide +kernel
theorem dX8_fills_319 : decode cX8_fills 319 = .ok (.iload 7, 2) := by decide +kernel
theorem dX8_fills_321 : decode cX8_fills 321 = .ok (.istore 7, 2) := by decide +kernel
theorem dX8_fills_323 : decode cX8_fills 323 = .ok (.iinc 8 1, 3) := by decide +kernel
theorem dX8_fills_326 : decode cX8_fills 326 = .ok (.goto (-41), 3) := by decide +kernel
theorem dX8_fills_329 : decode cX8_fills 329 = .ok (.aload_n 0, 1) := by decide +kernel
theorem dX8_fills_330 : decode cX8_fills 330 = .ok (.getfield 51, 3) := by decide +kernel
theorem dX8_fills_333 : decode cX8_fills 333 = .ok (.sipush 3072, 3) := by decide +kernel
theorem dX8_fills_336 : decode cX8_fills 336 = .ok (.iload_n 3, 1) := by decide +kernel
theorem dX8_fills_337 : decode cX8_fills 337 = .ok (.imul, 1) := by decide +kernel
theorem dX8_fills_338 : decode cX8_fills 338 = .ok (.iload 4, 2) := by decide +kernel
theorem dX8_fills_340 : decode cX8_fills 340 = .ok (.iload 5, 2) := by decide +kernel
theorem dX8_fills_342 : decode cX8_fills 342 = .ok (.iload 6, 2) := by decide +kernel
theorem dX8_fills_344 : decode cX8_fills 344 = .ok (.invokestatic 374, 3) := by decide +kernel
theorem dX8_fills_347 : decode cX8_fills 347 = .ok (.iadd, 1) := by decide +kernel
theorem dX8_fills_348 : decode cX8_fills 348 = .ok (.iload 7, 2) := by decide +kernel
theorem dX8_fills_350 : decode cX8_fills 350 = .ok (.iastore, 1) := by decide +kernel
theorem dX8_fills_351 : decode cX8_fills 351 = .ok (.iinc 6 1, 3) := by decide +kernel
theorem dX8_fills_354 : decode cX8_fills 354 = .ok (.goto (-86), 3) := by decide +kernel
theorem dX8_fills_357 : decode cX8_fills 357 = .ok (.iinc 5 1, 3) := by decide +kernel
theorem dX8_fills_360 : decode cX8_fills 360 = .ok (.goto (-110), 3) := by decide +kernel
theorem dX8_fills_363 : decode cX8_fills 363 = .ok (.iinc 4 1, 3) := by decide +kernel
theorem dX8_fills_366 : decode cX8_fills 366 = .ok (.goto (-127), 3) := by decide +kernel
theorem dX8_fills_369 : decode cX8_fills 369 = .ok (.iinc 3 (-1), 3) := by decide +kernel
theorem dX8_fills_372 : decode cX8_fills 372 = .ok (.goto (-140), 3) := by decide +kernel
theorem dX8_fills_375 : decode cX8_fills 375 = .ok (.return_, 1) := by decide +kernel
theorem dX8_leastRow_0 : decode cX8_leastRow 0 = .ok (.aload_n 0, 1) := by decide +kernel
theorem dX8_leastRow_1 : decode cX8_leastRow 1 = .ok (.iload_n 1, 1) := by decide +kernel
theorem dX8_leastRow_2 : decode cX8_leastRow 2 = .ok (.invokevirtual 393, 3) := by decide +kernel
theorem dX8_leastRow_5 : decode cX8_leastRow 5 = .ok (.ldc_w 377, 3) := by decide +kernel
theorem dX8_leastRow_8 : decode cX8_leastRow 8 = .ok (.istore_n 2, 1) := by decide +kernel
theorem dX8_leastRow_9 : decode cX8_leastRow 9 = .ok (.iconst 0, 1) := by decide +kernel
theorem dX8_leastRow_10 : decode cX8_leastRow 10 = .ok (.istore_n 3, 1) := by decide +kernel
theorem dX8_leastRow_11 : decode cX8_leastRow 11 = .ok (.iconst 1, 1) := by decide +kernel
theorem dX8_leastRow_12 : decode cX8_leastRow 12 = .ok (.istore 4, 2) := by decide +kernel
theorem dX8_leastRow_14 : decode cX8_leastRow 14 = .ok (.iconst 0, 1) := by decide +kernel
theorem dX8_leastRow_15 : decode cX8_leastRow 15 = .ok (.istore 5, 2) := by decide +kernel
theorem dX8_leastRow_17 : decode cX8_leastRow 17 = .ok (.iload 5, 2) := by decide +kernel
theorem dX8_leastRow_19 : decode cX8_leastRow 19 = .ok (.iconst 3, 1) := by decide +kernel
theorem dX8_leastRow_20 : decode cX8_leastRow 20 = .ok (.if_icmp .ge 38, 3) := by decide +kernel
theorem dX8_leastRow_23 : decode cX8_leastRow 23 = .ok (.aload_n 0, 1) := by decide +kernel
theorem dX8_leastRow_24 : decode cX8_leastRow 24 = .ok (.iconst 0, 1) := by decide +kernel
theorem dX8_leastRow_25 : decode cX8_leastRow 25 = .ok (.iconst 0, 1) := by decide +kernel
theorem dX8_leastRow_26 : decode cX8_leastRow 26 = .ok (.iload 5, 2) := by decide +kernel
theorem dX8_leastRow_28 : decode cX8_leastRow 28 = .ok (.iconst 1, 1) := by decide +kernel
theorem dX8_leastRow_29 : decode cX8_leastRow 29 = .ok (.iload_n 1, 1) := by decide +kernel
theorem dX8_leastRow_30 : decode cX8_leastRow 30 = .ok (.invokevirtual 381, 3) := by decide +kernel
theorem dX8_leastRow_33 : decode cX8_leastRow 33 = .ok (.istore 6, 2) := by decide +kernel
theorem dX8_leastRow_35 : decode cX8_leastRow 35 = .ok (.iload 6, 2) := by decide +kernel
theorem dX8_leastRow_37 : decode cX8_leastRow 37 = .ok (.iload_n 2, 1) := by decide +kernel
theorem dX8_leastRow_38 : decode cX8_leastRow 38 = .ok (.if_icmp .ge 14, 3) := by decide +kernel
theorem dX8_leastRow_41 : decode cX8_leastRow 41 = .ok (.iload 6, 2) := by decide +kernel
theorem dX8_leastRow_43 : decode cX8_leastRow 43 = .ok (.istore_n 2, 1) := by decide +kernel
theorem dX8_leastRow_44 : decode cX8_leastRow 44 = .ok (.aload_n 0, 1) := by decide +kernel
theorem dX8_leastRow_45 : decode cX8_leastRow 45 = .ok (.getfield 47, 3) := by decide +kernel
theorem dX8_leastRow_48 : decode cX8_leastRow 48 = .ok (.iconst 0, 1) := by decide +kernel
theorem dX8_leastRow_49 : decode cX8_leastRow 49 = .ok (.iload 5, 2) := by decide +kernel
theorem dX8_leastRow_51 : decode cX8_leastRow 51 = .ok (.iastore, 1) := by decide +kernel
theorem dX8_leastRow_52 : decode cX8_leastRow 52 = .ok (.iinc 5 1, 3) := by decide +kernel
theorem dX8_leastRow_55 : decode cX8_leastRow 55 = .ok (.goto (-38), 3) := by decide +kernel
theorem dX8_leastRow_58 : decode cX8_leastRow 58 = .ok (.iload_n 2, 1) := by decide +kernel
theorem dX8_leastRow_59 : decode cX8_leastRow 59 = .ok (.ldc_w 377, 3) := by decide +kernel
theorem dX8_leastRow_62 : decode cX8_leastRow 62 = .ok (.if_icmp .lt 7, 3) := by decide +kernel
theorem dX8_leastRow_65 : decode cX8_leastRow 65 = .ok (.ldc_w 377, 3) := by decide +kernel
theorem dX8_leastRow_68 : decode cX8_leastRow 68 = .ok (.ireturn, 1) := by decide +kernel
theorem dX8_leastRow_69 : decode cX8_leastRow 69 = .ok (.iconst 1, 1) := by decide +kernel
theorem dX8_leastRow_70 : decode cX8_leastRow 70 = .ok (.istore 5, 2) := by decide +kernel
theorem dX8_leastRow_72 : decode cX8_leastRow 72 = .ok (.iload 5, 2) := by decide +kernel
theorem dX8_leastRow_74 : decode cX8_leastRow 74 = .ok (.bipush 24, 2) := by decide +kernel
theorem dX8_leastRow_76 : decode cX8_leastRow 76 = .ok (.if_icmp .ge 126, 3) := by decide +kernel
theorem dX8_leastRow_79 : decode cX8_leastRow 79 = .ok (.aload_n 0, 1) := by decide +kernel
theorem dX8_leastRow_80 : decode cX8_leastRow 80 = .ok (.getfield 47, 3) := by decide +kernel
theorem dX8_leastRow_83 : decode cX8_leastRow 83 = .ok (.iload 5, 2) := by decide +kernel
theorem dX8_leastRow_85 : decode cX8_leastRow 85 = .ok (.iconst 1, 1) := by decide +kernel
theorem dX8_leastRow_86 : decode cX8_leastRow 86 = .ok (.isub, 1) := by decide +kernel
theorem dX8_leastRow_87 : decode cX8_leastRow 87 = .ok (.iaload, 1) := by decide +kernel
theorem dX8_leastRow_88 : decode cX8_leastRow 88 = .ok (.istore 6, 2) := by decide +kernel
theorem dX8_leastRow_90 : decode cX8_leastRow 90 = .ok (.aload_n 0, 1) := by decide +kernel
theorem dX8_leastRow_91 : decode cX8_leastRow 91 = .ok (.iload 5, 2) := by decide +kernel
theorem dX8_leastRow_93 : decode cX8_leastRow 93 = .ok (.iconst 1, 1) := by decide +kernel
theorem dX8_leastRow_94 : decode cX8_leastRow 94 = .ok (.isub, 1) := by decide +kernel
theorem dX8_leastRow_95 : decode cX8_leastRow 95 = .ok (.iload 6, 2) := by decide +kernel
theorem dX8_leastRow_97 : decode cX8_leastRow 97 = .ok (.iload_n 3, 1) := by decide +kernel
theorem dX8_leastRow_98 : decode cX8_leastRow 98 = .ok (.invokevirtual 371, 3) := by decide +kernel
theorem dX8_leastRow_101 : decode cX8_leastRow 101 = .ok (.istore_n 3, 1) := by decide +kernel
theorem dX8_leastRow_102 : decode cX8_leastRow 102 = .ok (.ldc_w 377, 3) := by decide +kernel
theorem dX8_leastRow_105 : decode cX8_leastRow 105 = .ok (.istore 7, 2) := by decide +kernel
theorem dX8_leastRow_107 : decode cX8_leastRow 107 = .ok (.iconst 0, 1) := by decide +kernel
theorem dX8_leastRow_108 : decode cX8_leastRow 108 = .ok (.istore 8, 2) := by decide +kernel
theorem dX8_leastRow_110 : decode cX8_leastRow 110 = .ok (.iload 8, 2) := by decide +kernel
theorem dX8_leastRow_112 : decode cX8_leastRow 112 = .ok (.iconst 3, 1) := by decide +kernel
theorem dX8_leastRow_113 : decode cX8_leastRow 113 = .ok (.if_icmp .ge 45, 3) := by decide +kernel
theorem dX8_leastRow_116 : decode cX8_leastRow 116 = .ok (.aload_n 0, 1) := by decide +kernel
theorem dX8_leastRow_117 : decode cX8_leastRow 117 = .ok (.iload 5, 2) := by decide +kernel
theorem dX8_leastRow_119 : decode cX8_leastRow 119 = .ok (.iload_n 3, 1) := by decide +kernel
theorem dX8_leastRow_120 : decode cX8_leastRow 120 = .ok (.iload 6, 2) := by decide +kernel
theorem dX8_leastRow_122 : decode cX8_leastRow 122 = .ok (.iload 4, 2) := by decide +kernel
theorem dX8_leastRow_124 : decode cX8_leastRow 124 = .ok (.iload 8, 2) := by decide +kernel
theorem dX8_leastRow_126 : decode cX8_leastRow 126 = .ok (.iload_n 1, 1) := by decide +kernel
theorem dX8_leastRow_127 : decode cX8_leastRow 127 = .ok (.invokevirtual 389, 3) := by decide +kernel
theorem dX8_leastRow_130 : decode cX8_leastRow 130 = .ok (.istore 9, 2) := by decide +kernel
theorem dX8_leastRow_132 : decode cX8_leastRow 132 = .ok (.iload 9, 2) := by decide +kernel
theorem dX8_leastRow_134 : decode cX8_leastRow 134 = .ok (.iload 7, 2) := by decide +kernel
theorem dX8_leastRow_136 : decode cX8_leastRow 136 = .ok (.if_icmp .ge 16, 3) := by decide +kernel
theorem dX8_leastRow_139 : decode cX8_leastRow 139 = .ok (.iload 9, 2) := by decide +kernel
theorem dX8_leastRow_141 : decode cX8_leastRow 141 = .ok (.istore 7, 2) := by decide +kernel
theorem dX8_leastRow_143 : decode cX8_leastRow 143 = .ok (.aload_n 0, 1) := by decide +kernel
theorem dX8_leastRow_144 : decode cX8_leastRow 144 = .ok (.getfield 47, 3) := by decide +kernel
theorem dX8_leastRow_147 : decode cX8_leastRow 147 = .ok (.iload 5, 2) := by decide +kernel
theorem dX8_leastRow_149 : decode cX8_leastRow 149 = .ok (.iload 8, 2) := by decide +kernel
theorem dX8_leastRow_151 : decode cX8_leastRow 151 = .ok (.iastore, 1) := by decide +kernel
theorem dX8_leastRow_152 : decode cX8_leastRow 152 = .ok (.iinc 8 1, 3) := by decide +kernel
theorem dX8_leastRow_155 : decode cX8_leastRow 155 = .ok (.goto (-45), 3) := by decide +kernel
theorem dX8_leastRow_158 : decode cX8_leastRow 158 = .ok (.aload_n 0, 1) := by decide +kernel
theorem dX8_leastRow_159 : decode cX8_leastRow 159 = .ok (.getfield 47, 3) := by decide +kernel
theorem dX8_leastRow_162 : decode cX8_leastRow 162 = .ok (.iload 5, 2) := by decide +kernel
theorem dX8_leastRow_164 : decode cX8_leastRow 164 = .ok (.iaload, 1) := by decide +kernel
theorem dX8_leastRow_165 : decode cX8_leastRow 165 = .ok (.iload 6, 2) := by decide +kernel
theorem dX8_leastRow_167 : decode cX8_leastRow 167 = .ok (.if_icmp .eq 7, 3) := by decide +kernel
theorem dX8_leastRow_170 : decode cX8_leastRow 170 = .ok (.iconst 1, 1) := by decide +kernel
theorem dX8_leastRow_171 : decode cX8_leastRow 171 = .ok (.goto 23, 3) := by decide +kernel
theorem dX8_leastRow_174 : decode cX8_leastRow 174 = .ok (.iload 4, 2) := by decide +kernel
theorem dX8_leastRow_176 : decode cX8_leastRow 176 = .ok (.aload_n 0, 1) := by decide +kernel
theorem dX8_leastRow_177 : decode cX8_leastRow 177 = .ok (.getfield 32, 3) := by decide +kernel
theorem dX8_leastRow_180 : decode cX8_leastRow 180 = .ok (.if_icmp .ge 10, 3) := by decide +kernel
theorem dX8_leastRow_183 : decode cX8_leastRow 183 = .ok (.iload 4, 2) := by decide +kernel
theorem dX8_leastRow_185 : decode cX8_leastRow 185 = .ok (.iconst 1, 1) := by decide +kernel
theorem dX8_leastRow_186 : decode cX8_leastRow 186 = .ok (.iadd, 1) := by decide +kernel
theorem dX8_leastRow_187 : decode cX8_leastRow 187 = .ok (.goto 7, 3) := by decide +kernel
theorem dX8_leastRow_190 : decode cX8_leastRow 190 = .ok (.aload_n 0, 1) := by decide +kernel
theorem dX8_leastRow_191 : decode cX8_leastRow 191 = .ok (.getfield 32, 3) := by decide +kernel
theorem dX8_leastRow_194 : decode cX8_leastRow 194 = .ok (.istore 4, 2) := by decide +kernel
theorem dX8_leastRow_196 : decode cX8_leastRow 196 = .ok (.iinc 5 1, 3) := by decide +kernel
theorem dX8_leastRow_199 : decode cX8_leastRow 199 = .ok (.goto (-127), 3) := by decide +kernel
theorem dX8_leastRow_202 : decode cX8_leastRow 202 = .ok (.iload_n 2, 1) := by decide +kernel
theorem dX8_leastRow_203 : decode cX8_leastRow 203 = .ok (.ireturn, 1) := by decide +kernel
theorem dX8_least_0 : decode cX8_least 0 = .ok (.iload_n 1, 1) := by decide +kernel
theorem dX8_least_1 : decode cX8_least 1 = .ok (.i2l, 1) := by decide +kernel
theorem dX8_least_2 : decode cX8_least 2 = .ok (.lconst 0, 1) := by decide +kernel
theorem dX8_least_3 : decode cX8_least 3 = .ok (.ldc2_w 397, 3) := by decide +kernel
theorem dX8_least_6 : decode cX8_least 6 = .ok (.invokestatic 92, 3) := by decide +kernel
theorem dX8_least_9 : decode cX8_least 9 = .ok (.ifCond .ne 6, 3) := by decide +kernel
theorem dX8_least_12 : decode cX8_least 12 = .ok (.bipush (-2), 2) := by decide +kernel
theorem dX8_least_14 : decode cX8_least 14 = .ok (.ireturn, 1) := by decide +kernel
theorem dX8_least_15 : decode cX8_least 15 = .ok (.aload_n 0, 1) := by decide +kernel
theorem dX8_least_16 : decode cX8_least 16 = .ok (.iconst 1, 1) := by decide +kernel
theorem dX8_least_17 : decode cX8_least 17 = .ok (.invokevirtual 399, 3) := by decide +kernel
theorem dX8_least_20 : decode cX8_least 20 = .ok (.istore_n 2, 1) := by decide +kernel
theorem dX8_least_21 : decode cX8_least 21 = .ok (.iload_n 1, 1) := by decide +kernel
theorem dX8_least_22 : decode cX8_least 22 = .ok (.ifCond .ne 7, 3) := by decide +kernel
theorem dX8_least_25 : decode cX8_least 25 = .ok (.iload_n 2, 1) := by decide +kernel
theorem dX8_least_26 : decode cX8_least 26 = .ok (.goto 23, 3) := by decide +kernel
theorem dX8_least_29 : decode cX8_least 29 = .ok (.iload_n 1, 1) := by decide +kernel
theorem dX8_least_30 : decode cX8_least 30 = .ok (.iconst 1, 1) := by decide +kernel
theorem dX8_least_31 : decode cX8_least 31 = .ok (.if_icmp .ne 10, 3) := by decide +kernel
theorem dX8_least_34 : decode cX8_least 34 = .ok (.aload_n 0, 1) := by decide +kernel
theorem dX8_least_35 : decode cX8_least 35 = .ok (.invokevirtual 362, 3) := by decide +kernel
theorem dX8_least_38 : decode cX8_least 38 = .ok (.goto 11, 3) := by decide +kernel
theorem dX8_least_41 : decode cX8_least 41 = .ok (.aload_n 0, 1) := by decide +kernel
theorem dX8_least_42 : decode cX8_least 42 = .ok (.getfield 47, 3) := by decide +kernel
theorem dX8_least_45 : decode cX8_least 45 = .ok (.iload_n 1, 1) := by decide +kernel
theorem dX8_least_46 : decode cX8_least 46 = .ok (.iconst 2, 1) := by decide +kernel
theorem dX8_least_47 : decode cX8_least 47 = .ok (.isub, 1) := by decide +kernel
theorem dX8_least_48 : decode cX8_least 48 = .ok (.iaload, 1) := by decide +kernel
theorem dX8_least_49 : decode cX8_least 49 = .ok (.ireturn, 1) := by decide +kernel
theorem dX8_lay_0 : decode cX8_lay 0 = .ok (.aload_n 0, 1) := by decide +kernel
theorem dX8_lay_1 : decode cX8_lay 1 = .ok (.iconst 1, 1) := by decide +kernel
theorem dX8_lay_2 : decode cX8_lay 2 = .ok (.invokevirtual 399, 3) := by decide +kernel
theorem dX8_lay_5 : decode cX8_lay 5 = .ok (.istore_n 1, 1) := by decide +kernel
theorem dX8_lay_6 : decode cX8_lay 6 = .ok (.iconst 0, 1) := by decide +kernel
theorem dX8_lay_7 : decode cX8_lay 7 = .ok (.istore_n 2, 1) := by decide +kernel
theorem dX8_lay_8 : decode cX8_lay 8 = .ok (.iload_n 2, 1) := by decide +kernel
theorem dX8_lay_9 : decode cX8_lay 9 = .ok (.bipush 24, 2) := by decide +kernel
theorem dX8_lay_11 : decode cX8_lay 11 = .ok (.if_icmp .ge 21, 3) := by decide +kernel
theorem dX8_lay_14 : decode cX8_lay 14 = .ok (.aload_n 0, 1) := by decide +kernel
theorem dX8_lay_15 : decode cX8_lay 15 = .ok (.getfield 44, 3) := by decide +kernel
theorem dX8_lay_18 : decode cX8_lay 18 = .ok (.iload_n 2, 1) := by decide +kernel
theorem dX8_lay_19 : decode cX8_lay 19 = .ok (.aload_n 0, 1) := by decide +kernel
theorem dX8_lay_20 : decode cX8_lay 20 = .ok (.getfield 47, 3) := by decide +kernel
theorem dX8_lay_23 : decode cX8_lay 23 = .ok (.iload_n 2, 1) := by decide +kernel
theorem dX8_lay_24 : decode cX8_lay 24 = .ok (.iaload, 1) := by decide +kernel
theorem dX8_lay_25 : decode cX8_lay 25 = .ok (.iastore, 1) := by decide +kernel
theorem dX8_lay_26 : decode cX8_lay 26 = .ok (.iinc 2 1, 3) := by decide +kernel
theorem dX8_lay_29 : decode cX8_lay 29 = .ok (.goto (-21), 3) := by decide +kernel
theorem dX8_lay_32 : decode cX8_lay 32 = .ok (.iload_n 1, 1) := by decide +kernel
theorem dX8_lay_33 : decode cX8_lay 33 = .ok (.ireturn, 1) := by decide +kernel
theorem dX8_fewest_0 : decode cX8_fewest 0 = .ok (.aload_n 0, 1) := by decide +kernel
theorem dX8_fewest_1 : decode cX8_fewest 1 = .ok (.iconst 0, 1) := by decide +kernel
theorem dX8_fewest_2 : decode cX8_fewest 2 = .ok (.invokevirtual 399, 3) := by decide +kernel
theorem dX8_fewest_5 : decode cX8_fewest 5 = .ok (.istore_n 1, 1) := by decide +kernel
theorem dX8_fewest_6 : decode cX8_fewest 6 = .ok (.iload_n 1, 1) := by decide +kernel
theorem dX8_fewest_7 : decode cX8_fewest 7 = .ok (.ldc_w 377, 3) := by decide +kernel
theorem dX8_fewest_10 : decode cX8_fewest 10 = .ok (.if_icmp .lt 7, 3) := by decide +kernel
theorem dX8_fewest_13 : decode cX8_fewest 13 = .ok (.iconst (-1), 1) := by decide +kernel
theorem dX8_fewest_14 : decode cX8_fewest 14 = .ok (.goto 4, 3) := by decide +kernel
theorem dX8_fewest_17 : decode cX8_fewest 17 = .ok (.iload_n 1, 1) := by decide +kernel
theorem dX8_fewest_18 : decode cX8_fewest 18 = .ok (.ireturn, 1) := by decide +kernel
theorem dX8_waits_0 : decode cX8_waits 0 = .ok (.iconst 0, 1) := by decide +kernel
theorem dX8_waits_1 : decode cX8_waits 1 = .ok (.istore 4, 2) := by decide +kernel
theorem dX8_waits_3 : decode cX8_waits 3 = .ok (.iconst 4, 1) := by decide +kernel
theorem dX8_waits_4 : decode cX8_waits 4 = .ok (.iload_n 1, 1) := by decide +kernel
theorem dX8_waits_5 : decode cX8_waits 5 = .ok (.imul, 1) := by decide +kernel
theorem dX8_waits_6 : decode cX8_waits 6 = .ok (.istore 5, 2) := by decide +kernel
theorem dX8_waits_8 : decode cX8_waits 8 = .ok (.iload 5, 2) := by decide +kernel
theorem dX8_waits_10 : decode cX8_waits 10 = .ok (.iconst 4, 1) := by decide +kernel
theorem dX8_waits_11 : decode cX8_waits 11 = .ok (.iload_n 1, 1) := by decide +kernel
theorem dX8_waits_12 : decode cX8_waits 12 = .ok (.imul, 1) := by decide +kernel
theorem dX8_waits_13 : decode cX8_waits 13 = .ok (.iconst 4, 1) := by decide +kernel
theorem dX8_waits_14 : decode cX8_waits 14 = .ok (.iadd, 1) := by decide +kernel
theorem dX8_waits_15 : decode cX8_waits 15 = .ok (.if_icmp .ge 113, 3) := by decide +kernel
theorem dX8_waits_18 : decode cX8_waits 18 = .ok (.aload_n 0, 1) := by decide +kernel
theorem dX8_waits_19 : decode cX8_waits 19 = .ok (.iload 5, 2) := by decide +kernel
theorem dX8_waits_21 : decode cX8_waits 21 = .ok (.invokevirtual 342, 3) := by decide +kernel
theorem dX8_waits_24 : decode cX8_waits 24 = .ok (.ifCond .eq 98, 3) := by decide +kernel
theorem dX8_waits_27 : decode cX8_waits 27 = .ok (.aload_n 0, 1) := by decide +kernel
theorem dX8_waits_28 : decode cX8_waits 28 = .ok (.getfield 23, 3) := by decide +kernel
theorem dX8_waits_31 : decode cX8_waits 31 = .ok (.iload 5, 2) := by decide +kernel
theorem dX8_waits_33 : decode cX8_waits 33 = .ok (.iaload, 1) := by decide +kernel
theorem dX8_waits_34 : decode cX8_waits 34 = .ok (.iload_n 2, 1) := by decide +kernel
theorem dX8_waits_35 : decode cX8_waits 35 = .ok (.if_icmp .ne 87, 3) := by decide +kernel
theorem dX8_waits_38 : decode cX8_waits 38 = .ok (.aload_n 0, 1) := by decide +kernel
theorem dX8_waits_39 : decode cX8_waits 39 = .ok (.getfield 26, 3) := by decide +kernel
theorem dX8_waits_42 : decode cX8_waits 42 = .ok (.iload 5, 2) := by decide +kernel
theorem dX8_waits_44 : decode cX8_waits 44 = .ok (.iaload, 1) := by decide +kernel
theorem dX8_waits_45 : decode cX8_waits 45 = .ok (.iload_n 3, 1) := by decide +kernel
theorem dX8_waits_46 : decode cX8_waits 46 = .ok (.if_icmp .gt 76, 3) := by decide +kernel
theorem dX8_waits_49 : decode cX8_waits 49 = .ok (.iconst 1, 1) := by decide +kernel
theorem dX8_waits_50 : decode cX8_waits 50 = .ok (.istore 6, 2) := by decide +kernel
theorem dX8_waits_52 : decode cX8_waits 52 = .ok (.aload_n 0, 1) := by decide +kernel
theorem dX8_waits_53 : decode cX8_waits 53 = .ok (.getfield 26, 3) := by decide +kernel
theorem dX8_waits_56 : decode cX8_waits 56 = .ok (.iload 5, 2) := by decide +kernel
theorem dX8_waits_58 : decode cX8_waits 58 = .ok (.iaload, 1) := by decide +kernel
theorem dX8_waits_59 : decode cX8_waits 59 = .ok (.istore 7, 2) := by decide +kernel
theorem dX8_waits_61 : decode cX8_waits 61 = .ok (.iload 7, 2) := by decide +kernel
theorem dX8_waits_63 : decode cX8_waits 63 = .ok (.iload_n 3, 1) := by decide +kernel
theorem dX8_waits_64 : decode cX8_waits 64 = .ok (.if_icmp .ge 37, 3) := by decide +kernel
theorem dX8_waits_67 : decode cX8_waits 67 = .ok (.iload 6, 2) := by decide +kernel
theorem dX8_waits_69 : decode cX8_waits 69 = .ok (.ifCond .eq 23, 3) := by decide +kernel
theorem dX8_waits_72 : decode cX8_waits 72 = .ok (.aload_n 0, 1) := by decide +kernel
theorem dX8_waits_73 : decode cX8_waits 73 = .ok (.iload 5, 2) := by decide +kernel
theorem dX8_waits_75 : decode cX8_waits 75 = .ok (.aload_n 0, 1) := by decide +kernel
theorem dX8_waits_76 : decode cX8_waits 76 = .ok (.getfield 47, 3) := by decide +kernel
theorem dX8_waits_79 : decode cX8_waits 79 = .ok (.iload 7, 2) := by decide +kernel
theorem dX8_waits_81 : decode cX8_waits 81 = .ok (.iaload, 1) := by decide +kernel
theorem dX8_waits_82 : decode cX8_waits 82 = .ok (.invokevirtual 339, 3) := by decide +kernel
theorem dX8_waits_85 : decode cX8_waits 85 = .ok (.ifCond .ne 7, 3) := by decide +kernel
theorem dX8_waits_88 : decode cX8_waits 88 = .ok (.iconst 1, 1) := by decide +kernel
theorem dX8_waits_89 : decode cX8_waits 89 = .ok (.goto 4, 3) := by decide +kernel
theorem dX8_waits_92 : decode cX8_waits 92 = .ok (.iconst 0, 1) := by decide +kernel
theorem dX8_waits_93 : decode cX8_waits 93 = .ok (.istore 6, 2) := by decide +kernel
theorem dX8_waits_95 : decode cX8_waits 95 = .ok (.iinc 7 1, 3) := by decide +kernel
theorem dX8_waits_98 : decode cX8_waits 98 = .ok (.goto (-37), 3) := by decide +kernel
theorem dX8_waits_101 : decode cX8_waits 101 = .ok (.iload 4, 2) := by decide +kernel
theorem dX8_waits_103 : decode cX8_waits 103 = .ok (.iload 6, 2) := by decide +kernel
theorem dX8_waits_105 : decode cX8_waits 105 = .ok (.ifCond .eq 13, 3) := by decide +kernel
theorem dX8_waits_108 : decode cX8_waits 108 = .ok (.aload_n 0, 1) := by decide +kernel
theorem dX8_waits_109 : decode cX8_waits 109 = .ok (.getfield 29, 3) := by decide +kernel
theorem dX8_waits_112 : decode cX8_waits 112 = .ok (.iload 5, 2) := by decide +kernel
theorem dX8_waits_114 : decode cX8_waits 114 = .ok (.iaload, 1) := by decide +kernel
theorem dX8_waits_115 : decode cX8_waits 115 = .ok (.goto 4, 3) := by decide +kernel
theorem dX8_waits_118 : decode cX8_waits 118 = .ok (.iconst 0, 1) := by decide +kernel
theorem dX8_waits_119 : decode cX8_waits 119 = .ok (.iadd, 1) := by decide +kernel
theorem dX8_waits_120 : decode cX8_waits 120 = .ok (.istore 4, 2) := by decide +kernel
theorem dX8_waits_122 : decode cX8_waits 122 = .ok (.iinc 5 1, 3) := by decide +kernel
theorem dX8_waits_125 : decode cX8_waits 125 = .ok (.goto (-117), 3) := by decide +kernel
theorem dX8_waits_128 : decode cX8_waits 128 = .ok (.iload 4, 2) := by decide +kernel
theorem dX8_waits_130 : decode cX8_waits 130 = .ok (.ireturn, 1) := by decide +kernel
theorem dX8_plainNext_0 : decode cX8_plainNext 0 = .ok (.iload_n 2, 1) := by decide +kernel
theorem dX8_plainNext_1 : decode cX8_plainNext 1 = .ok (.aload_n 0, 1) := by decide +kernel
theorem dX8_plainNext_2 : decode cX8_plainNext 2 = .ok (.getfield 41, 3) := by decide +kernel
theorem dX8_plainNext_5 : decode cX8_plainNext 5 = .ok (.iload_n 1, 1) := by decide +kernel
theorem dX8_plainNext_6 : decode cX8_plainNext 6 = .ok (.iaload, 1) := by decide +kernel
theorem dX8_plainNext_7 : decode cX8_plainNext 7 = .ok (.iconst 1, 1) := by decide +kernel
theorem dX8_plainNext_8 : decode cX8_plainNext 8 = .ok (.iadd, 1) := by decide +kernel
theorem dX8_plainNext_9 : decode cX8_plainNext 9 = .ok (.irem, 1) := by decide +kernel
theorem dX8_plainNext_10 : decode cX8_plainNext 10 = .ok (.ifCond .ne 11, 3) := by decide +kernel
theorem dX8_plainNext_13 : decode cX8_plainNext 13 = .ok (.iload_n 3, 1) := by decide +kernel
theorem dX8_plainNext_14 : decode cX8_plainNext 14 = .ok (.iconst 1, 1) := by decide +kernel
theorem dX8_plainNext_15 : decode cX8_plainNext 15 = .ok (.iadd, 1) := by decide +kernel
theorem dX8_plainNext_16 : decode cX8_plainNext 16 = .ok (.iconst 3, 1) := by decide +kernel
theorem dX8_plainNext_17 : decode cX8_plainNext 17 = .ok (.irem, 1) := by decide +kernel
theorem dX8_plainNext_18 : decode cX8_plainNext 18 = .ok (.goto 4, 3) := by decide +kernel
theorem dX8_plainNext_21 : decode cX8_plainNext 21 = .ok (.iload_n 3, 1) := by decide +kernel
theorem dX8_plainNext_22 : decode cX8_plainNext 22 = .ok (.ireturn, 1) := by decide +kernel
theorem dX8_tideNext_0 : decode cX8_tideNext 0 = .ok (.iconst 0, 1) := by decide +kernel
theorem dX8_tideNext_1 : decode cX8_tideNext 1 = .ok (.istore 4, 2) := by decide +kernel
theorem dX8_tideNext_3 : decode cX8_tideNext 3 = .ok (.iconst 1, 1) := by decide +kernel
theorem dX8_tideNext_4 : decode cX8_tideNext 4 = .ok (.istore 5, 2) := by decide +kernel
theorem dX8_tideNext_6 : decode cX8_tideNext 6 = .ok (.iload 5, 2) := by decide +kernel
theorem dX8_tideNext_8 : decode cX8_tideNext 8 = .ok (.iconst 3, 1) := by decide +kernel
theorem dX8_tideNext_9 : decode cX8_tideNext 9 = .ok (.if_icmp .ge 32, 3) := by decide +kernel
theorem dX8_tideNext_12 : decode cX8_tideNext 12 = .ok (.aload_n 0, 1) := by decide +kernel
theorem dX8_tideNext_13 : decode cX8_tideNext 13 = .ok (.iconst 0, 1) := by decide +kernel
theorem dX8_tideNext_14 : decode cX8_tideNext 14 = .ok (.iload 5, 2) := by decide +kernel
theorem dX8_tideNext_16 : decode cX8_tideNext 16 = .ok (.iload_n 2, 1) := by decide +kernel
theorem dX8_tideNext_17 : decode cX8_tideNext 17 = .ok (.invokevirtual 402, 3) := by decide +kernel
theorem dX8_tideNext_20 : decode cX8_tideNext 20 = .ok (.aload_n 0, 1) := by decide +kernel
theorem dX8_tideNext_21 : decode cX8_tideNext 21 = .ok (.iconst 0, 1) := by decide +kernel
theorem dX8_tideNext_22 : decode cX8_tideNext 22 = .ok (.iload 4, 2) := by decide +kernel
theorem dX8_tideNext_24 : decode cX8_tideNext 24 = .ok (.iload_n 2, 1) := by decide +kernel
theorem dX8_tideNext_25 : decode cX8_tideNext 25 = .ok (.invokevirtual 402, 3) := by decide +kernel
theorem dX8_tideNext_28 : decode cX8_tideNext 28 = .ok (.if_icmp .le 7, 3) := by decide +kernel
theorem dX8_tideNext_31 : decode cX8_tideNext 31 = .ok (.iload 5, 2) := by decide +kernel
theorem dX8_tideNext_33 : decode cX8_tideNext 33 = .ok (.istore 4, 2) := by decide +kernel
theorem dX8_tideNext_35 : decode cX8_tideNext 35 = .ok (.iinc 5 1, 3) := by decide +kernel
theorem dX8_tideNext_38 : decode cX8_tideNext 38 = .ok (.goto (-32), 3) := by decide +kernel
theorem dX8_tideNext_41 : decode cX8_tideNext 41 = .ok (.aload_n 0, 1) := by decide +kernel
theorem dX8_tideNext_42 : decode cX8_tideNext 42 = .ok (.iconst 0, 1) := by decide +kernel
theorem dX8_tideNext_43 : decode cX8_tideNext 43 = .ok (.iload 4, 2) := by decide +kernel
theorem dX8_tideNext_45 : decode cX8_tideNext 45 = .ok (.iload_n 2, 1) := by decide +kernel
theorem dX8_tideNext_46 : decode cX8_tideNext 46 = .ok (.invokevirtual 402, 3) := by decide +kernel
theorem dX8_tideNext_49 : decode cX8_tideNext 49 = .ok (.ifCond .le 8, 3) := by decide +kernel
theorem dX8_tideNext_52 : decode cX8_tideNext 52 = .ok (.iload 4, 2) := by decide +kernel
theorem dX8_tideNext_54 : decode cX8_tideNext 54 = .ok (.goto 10, 3) := by decide +kernel
theorem dX8_tideNext_57 : decode cX8_tideNext 57 = .ok (.aload_n 0, 1) := by decide +kernel
theorem dX8_tideNext_58 : decode cX8_tideNext 58 = .ok (.iload_n 1, 1) := by decide +kernel
theorem dX8_tideNext_59 : decode cX8_tideNext 59 = .ok (.iload_n 2, 1) := by decide +kernel
theorem dX8_tideNext_60 : decode cX8_tideNext 60 = .ok (.iload_n 3, 1) := by decide +kernel
theorem dX8_tideNext_61 : decode cX8_tideNext 61 = .ok (.invokevirtual 405, 3) := by decide +kernel
theorem dX8_tideNext_64 : decode cX8_tideNext 64 = .ok (.ireturn, 1) := by decide +kernel
theorem dX8_marketNext_0 : decode cX8_marketNext 0 = .ok (.iconst 0, 1) := by decide +kernel
theorem dX8_marketNext_1 : decode cX8_marketNext 1 = .ok (.istore_n 2, 1) := by decide +kernel
theorem dX8_marketNext_2 : decode cX8_marketNext 2 = .ok (.iconst 1, 1) := by decide +kernel
theorem dX8_marketNext_3 : decode cX8_marketNext 3 = .ok (.istore_n 3, 1) := by decide +kernel
theorem dX8_marketNext_4 : decode cX8_marketNext 4 = .ok (.iload_n 3, 1) := by decide +kernel
theorem dX8_marketNext_5 : decode cX8_marketNext 5 = .ok (.iconst 3, 1) := by decide +kernel
theorem dX8_marketNext_6 : decode cX8_marketNext 6 = .ok (.if_icmp .ge 28, 3) := by decide +kernel
theorem dX8_marketNext_9 : decode cX8_marketNext 9 = .ok (.aload_n 0, 1) := by decide +kernel
theorem dX8_marketNext_10 : decode cX8_marketNext 10 = .ok (.iconst 1, 1) := by decide +kernel
theorem dX8_marketNext_11 : decode cX8_marketNext 11 = .ok (.iload_n 3, 1) := by decide +kernel
theorem dX8_marketNext_12 : decode cX8_marketNext 12 = .ok (.iload_n 1, 1) := by decide +kernel
theorem dX8_marketNext_13 : decode cX8_marketNext 13 = .ok (.invokevirtual 402, 3) := by decide +kernel
theorem dX8_marketNext_16 : decode cX8_marketNext 16 = .ok (.aload_n 0, 1) := by decide +kernel
theorem dX8_marketNext_17 : decode cX8_marketNext 17 = .ok (.iconst 1, 1) := by decide +kernel
theorem dX8_marketNext_18 : decode cX8_marketNext 18 = .ok (.iload_n 2, 1) := by decide +kernel
theorem dX8_marketNext_19 : decode cX8_marketNext 19 = .ok (.iload_n 1, 1) := by decide +kernel
theorem dX8_marketNext_20 : decode cX8_marketNext 20 = .ok (.invokevirtual 402, 3) := by decide +kernel
theorem dX8_marketNext_23 : decode cX8_marketNext 23 = .ok (.if_icmp .ge 5, 3) := by decide +kernel
theorem dX8_marketNext_26 : decode cX8_marketNext 26 = .ok (.iload_n 3, 1) := by decide +kernel
theorem dX8_marketNext_27 : decode cX8_marketNext 27 = .ok (.istore_n 2, 1) := by decide +kernel
theorem dX8_marketNext_28 : decode cX8_marketNext 28 = .ok (.iinc 3 1, 3) := by decide +kernel
theorem dX8_marketNext_31 : decode cX8_marketNext 31 = .ok (.goto (-27), 3) := by decide +kernel
theorem dX8_marketNext_34 : decode cX8_marketNext 34 = .ok (.iload_n 2, 1) := by decide +kernel
theorem dX8_marketNext_35 : decode cX8_marketNext 35 = .ok (.ireturn, 1) := by decide +kernel
theorem dX8_bestNext_0 : decode cX8_bestNext 0 = .ok (.iconst 0, 1) := by decide +kernel
theorem dX8_bestNext_1 : decode cX8_bestNext 1 = .ok (.istore_n 2, 1) := by decide +kernel
theorem dX8_bestNext_2 : decode cX8_bestNext 2 = .ok (.iconst 1, 1) := by decide +kernel
theorem dX8_bestNext_3 : decode cX8_bestNext 3 = .ok (.istore_n 3, 1) := by decide +kernel
theorem dX8_bestNext_4 : decode cX8_bestNext 4 = .ok (.iload_n 3, 1) := by decide +kernel
theorem dX8_bestNext_5 : decode cX8_bestNext 5 = .ok (.iconst 3, 1) := by decide +kernel
theorem dX8_bestNext_6 : decode cX8_bestNext 6 = .ok (.if_icmp .ge 44, 3) := by decide +kernel
theorem dX8_bestNext_9 : decode cX8_bestNext 9 = .ok (.aload_n 0, 1) := by decide +kernel
theorem dX8_bestNext_10 : decode cX8_bestNext 10 = .ok (.iconst 0, 1) := by decide +kernel
theorem dX8_bestNext_11 : decode cX8_bestNext 11 = .ok (.iload_n 3, 1) := by decide +kernel
theorem dX8_bestNext_12 : decode cX8_bestNext 12 = .ok (.iload_n 1, 1) := by decide +kernel
theorem dX8_bestNext_13 : decode cX8_bestNext 13 = .ok (.invokevirtual 402, 3) := by decide +kernel
theorem dX8_bestNext_16 : decode cX8_bestNext 16 = .ok (.aload_n 0, 1) := by decide +kernel
theorem dX8_bestNext_17 : decode cX8_bestNext 17 = .ok (.iconst 1, 1) := by decide +kernel
theorem dX8_bestNext_18 : decode cX8_bestNext 18 = .ok (.iload_n 3, 1) := by decide +kernel
theorem dX8_bestNext_19 : decode cX8_bestNext 19 = .ok (.iload_n 1, 1) := by decide +kernel
theorem dX8_bestNext_20 : decode cX8_bestNext 20 = .ok (.invokevirtual 402, 3) := by decide +kernel
theorem dX8_bestNext_23 : decode cX8_bestNext 23 = .ok (.isub, 1) := by decide +kernel
theorem dX8_bestNext_24 : decode cX8_bestNext 24 = .ok (.aload_n 0, 1) := by decide +kernel
theorem dX8_bestNext_25 : decode cX8_bestNext 25 = .ok (.iconst 0, 1) := by decide +kernel
theorem dX8_bestNext_26 : decode cX8_bestNext 26 = .ok (.iload_n 2, 1) := by decide +kernel
theorem dX8_bestNext_27 : decode cX8_bestNext 27 = .ok (.iload_n 1, 1) := by decide +kernel
theorem dX8_bestNext_28 : decode cX8_bestNext 28 = .ok (.invokevirtual 402, 3) := by decide +kernel
theorem dX8_bestNext_31 : decode cX8_bestNext 31 = .ok (.aload_n 0, 1) := by decide +kernel
theorem dX8_bestNext_32 : decode cX8_bestNext 32 = .ok (.iconst 1, 1) := by decide +kernel
theorem dX8_bestNext_33 : decode cX8_bestNext 33 = .ok (.iload_n 2, 1) := by decide +kernel
theorem dX8_bestNext_34 : decode cX8_bestNext 34 = .ok (.iload_n 1, 1) := by decide +kernel
theorem dX8_bestNext_35 : decode cX8_bestNext 35 = .ok (.invokevirtual 402, 3) := by decide +kernel
theorem dX8_bestNext_38 : decode cX8_bestNext 38 = .ok (.isub, 1) := by decide +kernel
theorem dX8_bestNext_39 : decode cX8_bestNext 39 = .ok (.if_icmp .le 5, 3) := by decide +kernel
theorem dX8_bestNext_42 : decode cX8_bestNext 42 = .ok (.iload_n 3, 1) := by decide +kernel
theorem dX8_bestNext_43 : decode cX8_bestNext 43 = .ok (.istore_n 2, 1) := by decide +kernel
theorem dX8_bestNext_44 : decode cX8_bestNext 44 = .ok (.iinc 3 1, 3) := by decide +kernel
theorem dX8_bestNext_47 : decode cX8_bestNext 47 = .ok (.goto (-43), 3) := by decide +kernel
theorem dX8_bestNext_50 : decode cX8_bestNext 50 = .ok (.iload_n 2, 1) := by decide +kernel
theorem dX8_bestNext_51 : decode cX8_bestNext 51 = .ok (.ireturn, 1) := by decide +kernel
theorem dX8_nextBy_0 : decode cX8_nextBy 0 = .ok (.aload_n 0, 1) := by decide +kernel
theorem dX8_nextBy_1 : decode cX8_nextBy 1 = .ok (.getfield 38, 3) := by decide +kernel
theorem dX8_nextBy_4 : decode cX8_nextBy 4 = .ok (.iload_n 1, 1) := by decide +kernel
theorem dX8_nextBy_5 : decode cX8_nextBy 5 = .ok (.iaload, 1) := by decide +kernel
theorem dX8_nextBy_6 : decode cX8_nextBy 6 = .ok (.istore 4, 2) := by decide +kernel
theorem dX8_nextBy_8 : decode cX8_nextBy 8 = .ok (.iload 4, 2) := by decide +kernel
theorem dX8_nextBy_10 : decode cX8_nextBy 10 = .ok (.ifCond .ne 11, 3) := by decide +kernel
theorem dX8_nextBy_13 : decode cX8_nextBy 13 = .ok (.aload_n 0, 1) := by decide +kernel
theorem dX8_nextBy_14 : decode cX8_nextBy 14 = .ok (.iload_n 1, 1) := by decide +kernel
theorem dX8_nextBy_15 : decode cX8_nextBy 15 = .ok (.iload_n 2, 1) := by decide +kernel
theorem dX8_nextBy_16 : decode cX8_nextBy 16 = .ok (.iload_n 3, 1) := by decide +kernel
theorem dX8_nextBy_17 : decode cX8_nextBy 17 = .ok (.invokevirtual 405, 3) := by decide +kernel
theorem dX8_nextBy_20 : decode cX8_nextBy 20 = .ok (.ireturn, 1) := by decide +kernel
theorem dX8_nextBy_21 : decode cX8_nextBy 21 = .ok (.iload 4, 2) := by decide +kernel
theorem dX8_nextBy_23 : decode cX8_nextBy 23 = .ok (.iconst 2, 1) := by decide +kernel
theorem dX8_nextBy_24 : decode cX8_nextBy 24 = .ok (.if_icmp .eq 21, 3) := by decide +kernel
theorem dX8_nextBy_27 : decode cX8_nextBy 27 = .ok (.iload 4, 2) := by decide +kernel
theorem dX8_nextBy_29 : decode cX8_nextBy 29 = .ok (.iconst 4, 1) := by decide +kernel
theorem dX8_nextBy_30 : decode cX8_nextBy 30 = .ok (.if_icmp .ne 21, 3) := by decide +kernel
theorem dX8_nextBy_33 : decode cX8_nextBy 33 = .ok (.aload_n 0, 1) := by decide +kernel
theorem dX8_nextBy_34 : decode cX8_nextBy 34 = .ok (.getfield 41, 3) := by decide +kernel
theorem dX8_nextBy_37 : decode cX8_nextBy 37 = .ok (.iload_n 1, 1) := by decide +kernel
theorem dX8_nextBy_38 : decode cX8_nextBy 38 = .ok (.iaload, 1) := by decide +kernel
theorem dX8_nextBy_39 : decode cX8_nextBy 39 = .ok (.iconst 2, 1) := by decide +kernel
theorem dX8_nextBy_40 : decode cX8_nextBy 40 = .ok (.irem, 1) := by decide +kernel
theorem dX8_nextBy_41 : decode cX8_nextBy 41 = .ok (.iconst 1, 1) := by decide +kernel
theorem dX8_nextBy_42 : decode cX8_nextBy 42 = .ok (.if_icmp .ne 9, 3) := by decide +kernel
theorem dX8_nextBy_45 : decode cX8_nextBy 45 = .ok (.aload_n 0, 1) := by decide +kernel
theorem dX8_nextBy_46 : decode cX8_nextBy 46 = .ok (.iload_n 2, 1) := by decide +kernel
theorem dX8_nextBy_47 : decode cX8_nextBy 47 = .ok (.invokevirtual 408, 3) := by decide +kernel
theorem dX8_nextBy_50 : decode cX8_nextBy 50 = .ok (.ireturn, 1) := by decide +kernel
theorem dX8_nextBy_51 : decode cX8_nextBy 51 = .ok (.iload 4, 2) := by decide +kernel
theorem dX8_nextBy_53 : decode cX8_nextBy 53 = .ok (.iconst 4, 1) := by decide +kernel
theorem dX8_nextBy_54 : decode cX8_nextBy 54 = .ok (.if_icmp .ne 9, 3) := by decide +kernel
theorem dX8_nextBy_57 : decode cX8_nextBy 57 = .ok (.aload_n 0, 1) := by decide +kernel
theorem dX8_nextBy_58 : decode cX8_nextBy 58 = .ok (.iload_n 2, 1) := by decide +kernel
theorem dX8_nextBy_59 : decode cX8_nextBy 59 = .ok (.invokevirtual 411, 3) := by decide +kernel
theorem dX8_nextBy_62 : decode cX8_nextBy 62 = .ok (.ireturn, 1) := by decide +kernel
theorem dX8_nextBy_63 : decode cX8_nextBy 63 = .ok (.iload 4, 2) := by decide +kernel
theorem dX8_nextBy_65 : decode cX8_nextBy 65 = .ok (.iconst 3, 1) := by decide +kernel
theorem dX8_nextBy_66 : decode cX8_nextBy 66 = .ok (.if_icmp .ne 21, 3) := by decide +kernel
theorem dX8_nextBy_69 : decode cX8_nextBy 69 = .ok (.aload_n 0, 1) := by decide +kernel
theorem dX8_nextBy_70 : decode cX8_nextBy 70 = .ok (.iconst 0, 1) := by decide +kernel
theorem dX8_nextBy_71 : decode cX8_nextBy 71 = .ok (.iload_n 3, 1) := by decide +kernel
theorem dX8_nextBy_72 : decode cX8_nextBy 72 = .ok (.iload_n 2, 1) := by decide +kernel
theorem dX8_nextBy_73 : decode cX8_nextBy 73 = .ok (.invokevirtual 402, 3) := by decide +kernel
theorem dX8_nextBy_76 : decode cX8_nextBy 76 = .ok (.ifCond .le 7, 3) := by decide +kernel
theorem dX8_nextBy_79 : decode cX8_nextBy 79 = .ok (.iconst 1, 1) := by decide +kernel
theorem dX8_nextBy_80 : decode cX8_nextBy 80 = .ok (.goto 24, 3) := by decide +kernel
theorem dX8_nextBy_83 : decode cX8_nextBy 83 = .ok (.iconst 0, 1) := by decide +kernel
theorem dX8_nextBy_84 : decode cX8_nextBy 84 = .ok (.goto 20, 3) := by decide +kernel
theorem dX8_nextBy_87 : decode cX8_nextBy 87 = .ok (.iload 4, 2) := by decide +kernel
theorem dX8_nextBy_89 : decode cX8_nextBy 89 = .ok (.iconst 5, 1) := by decide +kernel
theorem dX8_nextBy_90 : decode cX8_nextBy 90 = .ok (.if_icmp .ne 13, 3) := by decide +kernel
theorem dX8_nextBy_93 : decode cX8_nextBy 93 = .ok (.iload_n 2, 1) := by decide +kernel
theorem dX8_nextBy_94 : decode cX8_nextBy 94 = .ok (.iconst 3, 1) := by decide +kernel
theorem dX8_nextBy_95 : decode cX8_nextBy 95 = .ok (.irem, 1) := by decide +kernel
theorem dX8_nextBy_96 : decode cX8_nextBy 96 = .ok (.ifCond .eq 7, 3) := by decide +kernel
theorem dX8_nextBy_99 : decode cX8_nextBy 99 = .ok (.iconst 1, 1) := by decide +kernel
theorem dX8_nextBy_100 : decode cX8_nextBy 100 = .ok (.goto 4, 3) := by decide +kernel
theorem dX8_nextBy_103 : decode cX8_nextBy 103 = .ok (.iconst 0, 1) := by decide +kernel
theorem dX8_nextBy_104 : decode cX8_nextBy 104 = .ok (.istore 5, 2) := by decide +kernel
theorem dX8_nextBy_106 : decode cX8_nextBy 106 = .ok (.iload 5, 2) := by decide +kernel
theorem dX8_nextBy_108 : decode cX8_nextBy 108 = .ok (.ifCond .eq 7, 3) := by decide +kernel
theorem dX8_nextBy_111 : decode cX8_nextBy 111 = .ok (.iload_n 3, 1) := by decide +kernel
theorem dX8_nextBy_112 : decode cX8_nextBy 112 = .ok (.goto 10, 3) := by decide +kernel
theorem dX8_nextBy_115 : decode cX8_nextBy 115 = .ok (.aload_n 0, 1) := by decide +kernel
theorem dX8_nextBy_116 : decode cX8_nextBy 116 = .ok (.iload_n 1, 1) := by decide +kernel
theorem dX8_nextBy_117 : decode cX8_nextBy 117 = .ok (.iload_n 2, 1) := by decide +kernel
theorem dX8_nextBy_118 : decode cX8_nextBy 118 = .ok (.iload_n 3, 1) := by decide +kernel
theorem dX8_nextBy_119 : decode cX8_nextBy 119 = .ok (.invokevirtual 414, 3) := by decide +kernel
theorem dX8_nextBy_122 : decode cX8_nextBy 122 = .ok (.ireturn, 1) := by decide +kernel
theorem dX8_runs_0 : decode cX8_runs 0 = .ok (.iconst 0, 1) := by decide +kernel
theorem dX8_runs_1 : decode cX8_runs 1 = .ok (.istore_n 2, 1) := by decide +kernel
theorem dX8_runs_2 : decode cX8_runs 2 = .ok (.iload_n 2, 1) := by decide +kernel
theorem dX8_runs_3 : decode cX8_runs 3 = .ok (.bipush 24, 2) := by decide +kernel
theorem dX8_runs_5 : decode cX8_runs 5 = .ok (.if_icmp .ge 37, 3) := by decide +kernel
theorem dX8_runs_8 : decode cX8_runs 8 = .ok (.aload_n 0, 1) := by decide +kernel
theorem dX8_runs_9 : decode cX8_runs 9 = .ok (.getfield 47, 3) := by decide +kernel
theorem dX8_runs_12 : decode cX8_runs 12 = .ok (.iload_n 2, 1) := by decide +kernel
theorem dX8_runs_13 : decode cX8_runs 13 = .ok (.aload_n 0, 1) := by decide +kernel
theorem dX8_runs_14 : decode cX8_runs 14 = .ok (.iload_n 1, 1) := by decide +kernel
theorem dX8_runs_15 : decode cX8_runs 15 = .ok (.iload_n 2, 1) := by decide +kernel
theorem dX8_runs_16 : decode cX8_runs 16 = .ok (.iload_n 2, 1) := by decide +kernel
theorem dX8_runs_17 : decode cX8_runs 17 = .ok (.ifCond .ne 7, 3) := by decide +kernel
theorem dX8_runs_20 : decode cX8_runs 20 = .ok (.iconst 0, 1) := by decide +kernel
theorem dX8_runs_21 : decode cX8_runs 21 = .ok (.goto 11, 3) := by decide +kernel
theorem dX8_runs_24 : decode cX8_runs 24 = .ok (.aload_n 0, 1) := by decide +kernel
theorem dX8_runs_25 : decode cX8_runs 25 = .ok (.getfield 47, 3) := by decide +kernel
theorem dX8_runs_28 : decode cX8_runs 28 = .ok (.iload_n 2, 1) := by decide +kernel
theorem dX8_runs_29 : decode cX8_runs 29 = .ok (.iconst 1, 1) := by decide +kernel
theorem dX8_runs_30 : decode cX8_runs 30 = .ok (.isub, 1) := by decide +kernel
theorem dX8_runs_31 : decode cX8_runs 31 = .ok (.iaload, 1) := by decide +kernel
theorem dX8_runs_32 : decode cX8_runs 32 = .ok (.invokevirtual 417, 3) := by decide +kernel
theorem dX8_runs_35 : decode cX8_runs 35 = .ok (.iastore, 1) := by decide +kernel
theorem dX8_runs_36 : decode cX8_runs 36 = .ok (.iinc 2 1, 3) := by decide +kernel
theorem dX8_runs_39 : decode cX8_runs 39 = .ok (.goto (-37), 3) := by decide +kernel
theorem dX8_runs_42 : decode cX8_runs 42 = .ok (.return_, 1) := by decide +kernel
theorem dX8_run_0 : decode cX8_run 0 = .ok (.iload_n 1, 1) := by decide +kernel
theorem dX8_run_1 : decode cX8_run 1 = .ok (.i2l, 1) := by decide +kernel
theorem dX8_run_2 : decode cX8_run 2 = .ok (.lconst 0, 1) := by decide +kernel
theorem dX8_run_3 : decode cX8_run 3 = .ok (.aload_n 0, 1) := by decide +kernel
theorem dX8_run_4 : decode cX8_run 4 = .ok (.getfield 114, 3) := by decide +kernel
theorem dX8_run_7 : decode cX8_run 7 = .ok (.iconst 1, 1) := by decide +kernel
theorem dX8_run_8 : decode cX8_run 8 = .ok (.isub, 1) := by decide +kernel
theorem dX8_run_9 : decode cX8_run 9 = .ok (.i2l, 1) := by decide +kernel
theorem dX8_run_10 : decode cX8_run 10 = .ok (.invokestatic 92, 3) := by decide +kernel
theorem dX8_run_13 : decode cX8_run 13 = .ok (.ifCond .eq 17, 3) := by decide +kernel
theorem dX8_run_16 : decode cX8_run 16 = .ok (.iload_n 2, 1) := by decide +kernel
theorem dX8_run_17 : decode cX8_run 17 = .ok (.i2l, 1) := by decide +kernel
theorem dX8_run_18 : decode cX8_run 18 = .ok (.ldc2_w 420, 3) := by decide +kernel
theorem dX8_run_21 : decode cX8_run 21 = .ok (.ldc2_w 112, 3) := by decide +kernel
theorem dX8_run_24 : decode cX8_run 24 = .ok (.invokestatic 92, 3) := by decide +kernel
theorem dX8_run_27 : decode cX8_run 27 = .ok (.ifCond .ne 6, 3) := by decide +kernel
theorem dX8_run_30 : decode cX8_run 30 = .ok (.bipush (-2), 2) := by decide +kernel
theorem dX8_run_32 : decode cX8_run 32 = .ok (.ireturn, 1) := by decide +kernel
theorem dX8_run_33 : decode cX8_run 33 = .ok (.aload_n 0, 1) := by decide +kernel
theorem dX8_run_34 : decode cX8_run 34 = .ok (.iload_n 1, 1) := by decide +kernel
theorem dX8_run_35 : decode cX8_run 35 = .ok (.invokevirtual 422, 3) := by decide +kernel
theorem dX8_run_38 : decode cX8_run 38 = .ok (.iload_n 2, 1) := by decide +kernel
theorem dX8_run_39 : decode cX8_run 39 = .ok (.iconst (-1), 1) := by decide +kernel
theorem dX8_run_40 : decode cX8_run 40 = .ok (.if_icmp .ne 10, 3) := by decide +kernel
theorem dX8_run_43 : decode cX8_run 43 = .ok (.aload_n 0, 1) := by decide +kernel
theorem dX8_run_44 : decode cX8_run 44 = .ok (.invokevirtual 359, 3) := by decide +kernel
theorem dX8_run_47 : decode cX8_run 47 = .ok (.goto 9, 3) := by decide +kernel
theorem dX8_run_50 : decode cX8_run 50 = .ok (.aload_n 0, 1) := by decide +kernel
theorem dX8_run_51 : decode cX8_run 51 = .ok (.getfield 47, 3) := by decide +kernel
theorem dX8_run_54 : decode cX8_run 54 = .ok (.iload_n 2, 1) := by decide +kernel
theorem dX8_run_55 : decode cX8_run 55 = .ok (.iaload, 1) := by decide +kernel
theorem dX8_run_56 : decode cX8_run 56 = .ok (.ireturn, 1) := by decide +kernel
theorem dX8_follow_0 : decode cX8_follow 0 = .ok (.iload_n 1, 1) := by decide +kernel
theorem dX8_follow_1 : decode cX8_follow 1 = .ok (.i2l, 1) := by decide +kernel
theorem dX8_follow_2 : decode cX8_follow 2 = .ok (.lconst 0, 1) := by decide +kernel
theorem dX8_follow_3 : decode cX8_follow 3 = .ok (.aload_n 0, 1) := by decide +kernel
theorem dX8_follow_4 : decode cX8_follow 4 = .ok (.getfield 114, 3) := by decide +kernel
theorem dX8_follow_7 : decode cX8_follow 7 = .ok (.iconst 1, 1) := by decide +kernel
theorem dX8_follow_8 : decode cX8_follow 8 = .ok (.isub, 1) := by decide +kernel
theorem dX8_follow_9 : decode cX8_follow 9 = .ok (.i2l, 1) := by decide +kernel
theorem dX8_follow_10 : decode cX8_follow 10 = .ok (.invokestatic 92, 3) := by decide +kernel
theorem dX8_follow_13 : decode cX8_follow 13 = .ok (.ifCond .ne 6, 3) := by decide +kernel
theorem dX8_follow_16 : decode cX8_follow 16 = .ok (.bipush (-2), 2) := by decide +kernel
theorem dX8_follow_18 : decode cX8_follow 18 = .ok (.ireturn, 1) := by decide +kernel
theorem dX8_follow_19 : decode cX8_follow 19 = .ok (.aload_n 0, 1) := by decide +kernel
theorem dX8_follow_20 : decode cX8_follow 20 = .ok (.iload_n 1, 1) := by decide +kernel
theorem dX8_follow_21 : decode cX8_follow 21 = .ok (.invokevirtual 422, 3) := by decide +kernel
theorem dX8_follow_24 : decode cX8_follow 24 = .ok (.iconst 0, 1) := by decide +kernel
theorem dX8_follow_25 : decode cX8_follow 25 = .ok (.istore_n 2, 1) := by decide +kernel
theorem dX8_follow_26 : decode cX8_follow 26 = .ok (.iload_n 2, 1) := by decide +kernel
theorem dX8_follow_27 : decode cX8_follow 27 = .ok (.bipush 24, 2) := by decide +kernel
theorem dX8_follow_29 : decode cX8_follow 29 = .ok (.if_icmp .ge 21, 3) := by decide +kernel
theorem dX8_follow_32 : decode cX8_follow 32 = .ok (.aload_n 0, 1) := by decide +kernel
theorem dX8_follow_33 : decode cX8_follow 33 = .ok (.getfield 44, 3) := by decide +kernel
theorem dX8_follow_36 : decode cX8_follow 36 = .ok (.iload_n 2, 1) := by decide +kernel
theorem dX8_follow_37 : decode cX8_follow 37 = .ok (.aload_n 0, 1) := by decide +kernel
theorem dX8_follow_38 : decode cX8_follow 38 = .ok (.getfield 47, 3) := by decide +kernel
theorem dX8_follow_41 : decode cX8_follow 41 = .ok (.iload_n 2, 1) := by decide +kernel
theorem dX8_follow_42 : decode cX8_follow 42 = .ok (.iaload, 1) := by decide +kernel
theorem dX8_follow_43 : decode cX8_follow 43 = .ok (.iastore, 1) := by decide +kernel
theorem dX8_follow_44 : decode cX8_follow 44 = .ok (.iinc 2 1, 3) := by decide +kernel
theorem dX8_follow_47 : decode cX8_follow 47 = .ok (.goto (-21), 3) := by decide +kernel
theorem dX8_follow_50 : decode cX8_follow 50 = .ok (.aload_n 0, 1) := by decide +kernel
theorem dX8_follow_51 : decode cX8_follow 51 = .ok (.invokevirtual 359, 3) := by decide +kernel
theorem dX8_follow_54 : decode cX8_follow 54 = .ok (.ireturn, 1) := by decide +kernel
theorem dX8_off_0 : decode cX8_off 0 = .ok (.iload_n 0, 1) := by decide +kernel
theorem dX8_off_1 : decode cX8_off 1 = .ok (.iload_n 1, 1) := by decide +kernel
theorem dX8_off_2 : decode cX8_off 2 = .ok (.if_icmp .ge 9, 3) := by decide +kernel
theorem dX8_off_5 : decode cX8_off 5 = .ok (.iload_n 1, 1) := by decide +kernel
theorem dX8_off_6 : decode cX8_off 6 = .ok (.iload_n 0, 1) := by decide +kernel
theorem dX8_off_7 : decode cX8_off 7 = .ok (.isub, 1) := by decide +kernel
theorem dX8_off_8 : decode cX8_off 8 = .ok (.goto 6, 3) := by decide +kernel
theorem dX8_off_11 : decode cX8_off 11 = .ok (.iload_n 0, 1) := by decide +kernel
theorem dX8_off_12 : decode cX8_off 12 = .ok (.iload_n 1, 1) := by decide +kernel
theorem dX8_off_13 : decode cX8_off 13 = .ok (.isub, 1) := by decide +kernel
theorem dX8_off_14 : decode cX8_off 14 = .ok (.ireturn, 1) := by decide +kernel
theorem dX8_way_0 : decode cX8_way 0 = .ok (.aload_n 0, 1) := by decide +kernel
theorem dX8_way_1 : decode cX8_way 1 = .ok (.iconst 1, 1) := by decide +kernel
theorem dX8_way_2 : decode cX8_way 2 = .ok (.iload_n 1, 1) := by decide +kernel
theorem dX8_way_3 : decode cX8_way 3 = .ok (.invokevirtual 108, 3) := by decide +kernel
theorem dX8_way_6 : decode cX8_way 6 = .ok (.ifCond .eq 13, 3) := by decide +kernel
theorem dX8_way_9 : decode cX8_way 9 = .ok (.iload_n 2, 1) := by decide +kernel
theorem dX8_way_10 : decode cX8_way 10 = .ok (.i2l, 1) := by decide +kernel
theorem dX8_way_11 : decode cX8_way 11 = .ok (.lconst 0, 1) := by decide +kernel
theorem dX8_way_12 : decode cX8_way 12 = .ok (.lconst 1, 1) := by decide +kernel
theorem dX8_way_13 : decode cX8_way 13 = .ok (.invokestatic 92, 3) := by decide +kernel
theorem dX8_way_16 : decode cX8_way 16 = .ok (.ifCond .ne 6, 3) := by decide +kernel
theorem dX8_way_19 : decode cX8_way 19 = .ok (.bipush (-2), 2) := by decide +kernel
theorem dX8_way_21 : decode cX8_way 21 = .ok (.ireturn, 1) := by decide +kernel
theorem dX8_way_22 : decode cX8_way 22 = .ok (.iconst 4, 1) := by decide +kernel
theorem dX8_way_23 : decode cX8_way 23 = .ok (.iload_n 1, 1) := by decide +kernel
theorem dX8_way_24 : decode cX8_way 24 = .ok (.iadd, 1) := by decide +kernel
theorem dX8_way_25 : decode cX8_way 25 = .ok (.istore_n 3, 1) := by decide +kernel
theorem dX8_way_26 : decode cX8_way 26 = .ok (.iconst (-1), 1) := by decide +kernel
theorem dX8_way_27 : decode cX8_way 27 = .ok (.istore 4, 2) := by decide +kernel
theorem dX8_way_29 : decode cX8_way 29 = .ok (.bipush 24, 2) := by decide +kernel
theorem dX8_way_31 : decode cX8_way 31 = .ok (.istore 5, 2) := by decide +kernel
theorem dX8_way_33 : decode cX8_way 33 = .ok (.iconst 0, 1) := by decide +kernel
theorem dX8_way_34 : decode cX8_way 34 = .ok (.istore 6, 2) := by decide +kernel
theorem dX8_way_36 : decode cX8_way 36 = .ok (.iload 6, 2) := by decide +kernel
theorem dX8_way_38 : decode cX8_way 38 = .ok (.iconst 3, 1) := by decide +kernel
theorem dX8_way_39 : decode cX8_way 39 = .ok (.if_icmp .ge 74, 3) := by decide +kernel
theorem dX8_way_42 : decode cX8_way 42 = .ok (.aload_n 0, 1) := by decide +kernel
theorem dX8_way_43 : decode cX8_way 43 = .ok (.getfield 26, 3) := by decide +kernel
theorem dX8_way_46 : decode cX8_way 46 = .ok (.iload_n 3, 1) := by decide +kernel
theorem dX8_way_47 : decode cX8_way 47 = .ok (.iaload, 1) := by decide +kernel
theorem dX8_way_48 : decode cX8_way 48 = .ok (.aload_n 0, 1) := by decide +kernel
theorem dX8_way_49 : decode cX8_way 49 = .ok (.getfield 35, 3) := by decide +kernel
theorem dX8_way_52 : decode cX8_way 52 = .ok (.iload 6, 2) := by decide +kernel
theorem dX8_way_54 : decode cX8_way 54 = .ok (.aload_n 0, 1) := by decide +kernel
theorem dX8_way_55 : decode cX8_way 55 = .ok (.getfield 23, 3) := by decide +kernel
theorem dX8_way_58 : decode cX8_way 58 = .ok (.iload_n 3, 1) := by decide +kernel
theorem dX8_way_59 : decode cX8_way 59 = .ok (.iaload, 1) := by decide +kernel
theorem dX8_way_60 : decode cX8_way 60 = .ok (.invokestatic 426, 3) := by decide +kernel
theorem dX8_way_63 : decode cX8_way 63 = .ok (.imul, 1) := by decide +kernel
theorem dX8_way_64 : decode cX8_way 64 = .ok (.iadd, 1) := by decide +kernel
theorem dX8_way_65 : decode cX8_way 65 = .ok (.istore 7, 2) := by decide +kernel
theorem dX8_way_67 : decode cX8_way 67 = .ok (.iload 7, 2) := by decide +kernel
theorem dX8_way_69 : decode cX8_way 69 = .ok (.bipush 24, 2) := by decide +kernel
theorem dX8_way_71 : decode cX8_way 71 = .ok (.if_icmp .ge 21, 3) := by decide +kernel
theorem dX8_way_74 : decode cX8_way 74 = .ok (.aload_n 0, 1) := by decide +kernel
theorem dX8_way_75 : decode cX8_way 75 = .ok (.getfield 44, 3) := by decide +kernel
theorem dX8_way_78 : decode cX8_way 78 = .ok (.iload 7, 2) := by decide +kernel
theorem dX8_way_80 : decode cX8_way 80 = .ok (.iaload, 1) := by decide +kernel
theorem dX8_way_81 : decode cX8_way 81 = .ok (.iload 6, 2) := by decide +kernel
theorem dX8_way_83 : decode cX8_way 83 = .ok (.if_icmp .ne 9, 3) := by decide +kernel
theorem dX8_way_86 : decode cX8_way 86 = .ok (.iinc 7 1, 3) := by decide +kernel
theorem dX8_way_89 : decode cX8_way 89 = .ok (.goto (-22), 3) := by decide +kernel
theorem dX8_way_92 : decode cX8_way 92 = .ok (.iload 7, 2) := by decide +kernel
theorem dX8_way_94 : decode cX8_way 94 = .ok (.iload 5, 2) := by decide +kernel
theorem dX8_way_96 : decode cX8_way 96 = .ok (.if_icmp .ge 11, 3) := by decide +kernel
theorem dX8_way_99 : decode cX8_way 99 = .ok (.iload 6, 2) := by decide +kernel
theorem dX8_way_101 : decode cX8_way 101 = .ok (.istore 4, 2) := by decide +kernel
theorem dX8_way_103 : decode cX8_way 103 = .ok (.iload 7, 2) := by decide +kernel
theorem dX8_way_105 : decode cX8_way 105 = .ok (.istore 5, 2) := by decide +kernel
theorem dX8_way_107 : decode cX8_way 107 = .ok (.iinc 6 1, 3) := by decide +kernel
theorem dX8_way_110 : decode cX8_way 110 = .ok (.goto (-74), 3) := by decide +kernel
theorem dX8_way_113 : decode cX8_way 113 = .ok (.iload 4, 2) := by decide +kernel
theorem dX8_way_115 : decode cX8_way 115 = .ok (.iconst (-1), 1) := by decide +kernel
theorem dX8_way_116 : decode cX8_way 116 = .ok (.if_icmp .eq 8, 3) := by decide +kernel
theorem dX8_way_119 : decode cX8_way 119 = .ok (.iload_n 2, 1) := by decide +kernel
theorem dX8_way_120 : decode cX8_way 120 = .ok (.iconst 1, 1) := by decide +kernel
theorem dX8_way_121 : decode cX8_way 121 = .ok (.if_icmp .ne 8, 3) := by decide +kernel
theorem dX8_way_124 : decode cX8_way 124 = .ok (.iload 4, 2) := by decide +kernel
theorem dX8_way_126 : decode cX8_way 126 = .ok (.goto 5, 3) := by decide +kernel
theorem dX8_way_129 : decode cX8_way 129 = .ok (.iload 5, 2) := by decide +kernel
theorem dX8_way_131 : decode cX8_way 131 = .ok (.ireturn, 1) := by decide +kernel
theorem dX8_fourth_0 : decode cX8_fourth 0 = .ok (.iload_n 1, 1) := by decide +kernel
theorem dX8_fourth_1 : decode cX8_fourth 1 = .ok (.i2l, 1) := by decide +kernel
theorem dX8_fourth_2 : decode cX8_fourth 2 = .ok (.lconst 0, 1) := by decide +kernel
theorem dX8_fourth_3 : decode cX8_fourth 3 = .ok (.ldc2_w 104, 3) := by decide +kernel
theorem dX8_fourth_6 : decode cX8_fourth 6 = .ok (.invokestatic 92, 3) := by decide +kernel
theorem dX8_fourth_9 : decode cX8_fourth 9 = .ok (.ifCond .ne 6, 3) := by decide +kernel
theorem dX8_fourth_12 : decode cX8_fourth 12 = .ok (.bipush (-2), 2) := by decide +kernel
theorem dX8_fourth_14 : decode cX8_fourth 14 = .ok (.ireturn, 1) := by decide +kernel
theorem dX8_fourth_15 : decode cX8_fourth 15 = .ok (.aload_n 0, 1) := by decide +kernel
theorem dX8_fourth_16 : decode cX8_fourth 16 = .ok (.invokevirtual 354, 3) := by decide +kernel
theorem dX8_fourth_19 : decode cX8_fourth 19 = .ok (.iconst 0, 1) := by decide +kernel
theorem dX8_fourth_20 : decode cX8_fourth 20 = .ok (.istore_n 2, 1) := by decide +kernel
theorem dX8_fourth_21 : decode cX8_fourth 21 = .ok (.iconst 4, 1) := by decide +kernel
theorem dX8_fourth_22 : decode cX8_fourth 22 = .ok (.istore_n 3, 1) := by decide +kernel
theorem dX8_fourth_23 : decode cX8_fourth 23 = .ok (.iload_n 3, 1) := by decide +kernel
theorem dX8_fourth_24 : decode cX8_fourth 24 = .ok (.bipush 8, 2) := by decide +kernel
theorem dX8_fourth_26 : decode cX8_fourth 26 = .ok (.if_icmp .ge 52, 3) := by decide +kernel
theorem dX8_fourth_29 : decode cX8_fourth 29 = .ok (.aload_n 0, 1) := by decide +kernel
theorem dX8_fourth_30 : decode cX8_fourth 30 = .ok (.iload_n 3, 1) := by decide +kernel
theorem dX8_fourth_31 : decode cX8_fourth 31 = .ok (.invokevirtual 342, 3) := by decide +kernel
theorem dX8_fourth_34 : decode cX8_fourth 34 = .ok (.ifCond .eq 38, 3) := by decide +kernel
theorem dX8_fourth_37 : decode cX8_fourth 37 = .ok (.aload_n 0, 1) := by decide +kernel
theorem dX8_fourth_38 : decode cX8_fourth 38 = .ok (.getfield 23, 3) := by decide +kernel
theorem dX8_fourth_41 : decode cX8_fourth 41 = .ok (.iload_n 3, 1) := by decide +kernel
theorem dX8_fourth_42 : decode cX8_fourth 42 = .ok (.iaload, 1) := by decide +kernel
theorem dX8_fourth_43 : decode cX8_fourth 43 = .ok (.iload_n 1, 1) := by decide +kernel
theorem dX8_fourth_44 : decode cX8_fourth 44 = .ok (.if_icmp .ne 28, 3) := by decide +kernel
theorem dX8_fourth_47 : decode cX8_fourth 47 = .ok (.iload_n 2, 1) := by decide +kernel
theorem dX8_fourth_48 : decode cX8_fourth 48 = .ok (.aload_n 0, 1) := by decide +kernel
theorem dX8_fourth_49 : decode cX8_fourth 49 = .ok (.iload_n 3, 1) := by decide +kernel
theorem dX8_fourth_50 : decode cX8_fourth 50 = .ok (.aload_n 0, 1) := by decide +kernel
theorem dX8_fourth_51 : decode cX8_fourth 51 = .ok (.iload_n 3, 1) := by decide +kernel
theorem dX8_fourth_52 : decode cX8_fourth 52 = .ok (.invokevirtual 345, 3) := by decide +kernel
theorem dX8_fourth_55 : decode cX8_fourth 55 = .ok (.invokevirtual 348, 3) := by decide +kernel
theorem dX8_fourth_58 : decode cX8_fourth 58 = .ok (.aload_n 0, 1) := by decide +kernel
theorem dX8_fourth_59 : decode cX8_fourth 59 = .ok (.iload_n 3, 1) := by decide +kernel
theorem dX8_fourth_60 : decode cX8_fourth 60 = .ok (.aload_n 0, 1) := by decide +kernel
theorem dX8_fourth_61 : decode cX8_fourth 61 = .ok (.getfield 26, 3) := by decide +kernel
theorem dX8_fourth_64 : decode cX8_fourth 64 = .ok (.iload_n 3, 1) := by decide +kernel
theorem dX8_fourth_65 : decode cX8_fourth 65 = .ok (.iaload, 1) := by decide +kernel
theorem dX8_fourth_66 : decode cX8_fourth 66 = .ok (.invokevirtual 348, 3) := by decide +kernel
theorem dX8_fourth_69 : decode cX8_fourth 69 = .ok (.isub, 1) := by decide +kernel
theorem dX8_fourth_70 : decode cX8_fourth 70 = .ok (.iadd, 1) := by decide +kernel
theorem dX8_fourth_71 : decode cX8_fourth 71 = .ok (.istore_n 2, 1) := by decide +kernel
theorem dX8_fourth_72 : decode cX8_fourth 72 = .ok (.iinc 3 1, 3) := by decide +kernel
theorem dX8_fourth_75 : decode cX8_fourth 75 = .ok (.goto (-52), 3) := by decide +kernel
theorem dX8_fourth_78 : decode cX8_fourth 78 = .ok (.iload_n 2, 1) := by decide +kernel
theorem dX8_fourth_79 : decode cX8_fourth 79 = .ok (.ireturn, 1) := by decide +kernel
theorem dX8_late_0 : decode cX8_late 0 = .ok (.iload_n 1, 1) := by decide +kernel
theorem dX8_late_1 : decode cX8_late 1 = .ok (.i2l, 1) := by decide +kernel
theorem dX8_late_2 : decode cX8_late 2 = .ok (.lconst 0, 1) := by decide +kernel
theorem dX8_late_3 : decode cX8_late 3 = .ok (.ldc2_w 429, 3) := by decide +kernel
theorem dX8_late_6 : decode cX8_late 6 = .ok (.invokestatic 92, 3) := by decide +kernel
theorem dX8_late_9 : decode cX8_late 9 = .ok (.ifCond .ne 6, 3) := by decide +kernel
theorem dX8_late_12 : decode cX8_late 12 = .ok (.bipush (-2), 2) := by decide +kernel
theorem dX8_late_14 : decode cX8_late 14 = .ok (.ireturn, 1) := by decide +kernel
theorem dX8_late_15 : decode cX8_late 15 = .ok (.aload_n 0, 1) := by decide +kernel
theorem dX8_late_16 : decode cX8_late 16 = .ok (.invokevirtual 354, 3) := by decide +kernel
theorem dX8_late_19 : decode cX8_late 19 = .ok (.iconst 0, 1) := by decide +kernel
theorem dX8_late_20 : decode cX8_late 20 = .ok (.istore_n 2, 1) := by decide +kernel
theorem dX8_late_21 : decode cX8_late 21 = .ok (.iconst 0, 1) := by decide +kernel
theorem dX8_late_22 : decode cX8_late 22 = .ok (.istore_n 3, 1) := by decide +kernel
theorem dX8_late_23 : decode cX8_late 23 = .ok (.iload_n 3, 1) := by decide +kernel
theorem dX8_late_24 : decode cX8_late 24 = .ok (.bipush 8, 2) := by decide +kernel
theorem dX8_late_26 : decode cX8_late 26 = .ok (.if_icmp .ge 43, 3) := by decide +kernel
theorem dX8_late_29 : decode cX8_late 29 = .ok (.iload_n 2, 1) := by decide +kernel
theorem dX8_late_30 : decode cX8_late 30 = .ok (.aload_n 0, 1) := by decide +kernel
theorem dX8_late_31 : decode cX8_late 31 = .ok (.iload_n 3, 1) := by decide +kernel
theorem dX8_late_32 : decode cX8_late 32 = .ok (.invokevirtual 342, 3) := by decide +kernel
theorem dX8_late_35 : decode cX8_late 35 = .ok (.ifCond .eq 23, 3) := by decide +kernel
theorem dX8_late_38 : decode cX8_late 38 = .ok (.aload_n 0, 1) := by decide +kernel
theorem dX8_late_39 : decode cX8_late 39 = .ok (.iload_n 3, 1) := by decide +kernel
theorem dX8_late_40 : decode cX8_late 40 = .ok (.invokevirtual 345, 3) := by decide +kernel
theorem dX8_late_43 : decode cX8_late 43 = .ok (.aload_n 0, 1) := by decide +kernel
theorem dX8_late_44 : decode cX8_late 44 = .ok (.getfield 26, 3) := by decide +kernel
theorem dX8_late_47 : decode cX8_late 47 = .ok (.iload_n 3, 1) := by decide +kernel
theorem dX8_late_48 : decode cX8_late 48 = .ok (.iaload, 1) := by decide +kernel
theorem dX8_late_49 : decode cX8_late 49 = .ok (.isub, 1) := by decide +kernel
theorem dX8_late_50 : decode cX8_late 50 = .ok (.iload_n 1, 1) := by decide +kernel
theorem dX8_late_51 : decode cX8_late 51 = .ok (.if_icmp .le 7, 3) := by decide +kernel
theorem dX8_late_54 : decode cX8_late 54 = .ok (.iconst 1, 1) := by decide +kernel
theorem dX8_late_55 : decode cX8_late 55 = .ok (.goto 4, 3) := by decide +kernel
theorem dX8_late_58 : decode cX8_late 58 = .ok (.iconst 0, 1) := by decide +kernel
theorem dX8_late_59 : decode cX8_late 59 = .ok (.iload_n 3, 1) := by decide +kernel
theorem dX8_late_60 : decode cX8_late 60 = .ok (.ishl, 1) := by decide +kernel
theorem dX8_late_61 : decode cX8_late 61 = .ok (.ior, 1) := by decide +kernel
theorem dX8_late_62 : decode cX8_late 62 = .ok (.istore_n 2, 1) := by decide +kernel
theorem dX8_late_63 : decode cX8_late 63 = .ok (.iinc 3 1, 3) := by decide +kernel
theorem dX8_late_66 : decode cX8_late 66 = .ok (.goto (-43), 3) := by decide +kernel
theorem dX8_late_69 : decode cX8_late 69 = .ok (.iload_n 2, 1) := by decide +kernel
theorem dX8_late_70 : decode cX8_late 70 = .ok (.ireturn, 1) := by decide +kernel
theorem dX8_blame_0 : decode cX8_blame 0 = .ok (.iload_n 1, 1) := by decide +kernel
theorem dX8_blame_1 : decode cX8_blame 1 = .ok (.i2l, 1) := by decide +kernel
theorem dX8_blame_2 : decode cX8_blame 2 = .ok (.lconst 0, 1) := by decide +kernel
theorem dX8_blame_3 : decode cX8_blame 3 = .ok (.ldc2_w 104, 3) := by decide +kernel
theorem dX8_blame_6 : decode cX8_blame 6 = .ok (.invokestatic 92, 3) := by decide +kernel
theorem dX8_blame_9 : decode cX8_blame 9 = .ok (.ifCond .ne 6, 3) := by decide +kernel
theorem dX8_blame_12 : decode cX8_blame 12 = .ok (.bipush (-2), 2) := by decide +kernel
theorem dX8_blame_14 : decode cX8_blame 14 = .ok (.ireturn, 1) := by decide +kernel
theorem dX8_blame_15 : decode cX8_blame 15 = .ok (.aload_n 0, 1) := by decide +kernel
theorem dX8_blame_16 : decode cX8_blame 16 = .ok (.invokevirtual 354, 3) := by decide +kernel
theorem dX8_blame_19 : decode cX8_blame 19 = .ok (.aload_n 0, 1) := by decide +kernel
theorem dX8_blame_20 : decode cX8_blame 20 = .ok (.invokevirtual 359, 3) := by decide +kernel
theorem dX8_blame_23 : decode cX8_blame 23 = .ok (.istore_n 2, 1) := by decide +kernel
theorem dX8_blame_24 : decode cX8_blame 24 = .ok (.iconst (-1), 1) := by decide +kernel
theorem dX8_blame_25 : decode cX8_blame 25 = .ok (.istore_n 3, 1) := by decide +kernel
theorem dX8_blame_26 : decode cX8_blame 26 = .ok (.iconst 0, 1) := by decide +kernel
theorem dX8_blame_27 : decode cX8_blame 27 = .ok (.istore 4, 2) := by decide +kernel
theorem dX8_blame_29 : decode cX8_blame 29 = .ok (.iload 4, 2) := by decide +kernel
theorem dX8_blame_31 : decode cX8_blame 31 = .ok (.bipush 24, 2) := by decide +kernel
theorem dX8_blame_33 : decode cX8_blame 33 = .ok (.if_icmp .ge 83, 3) := by decide +kernel
theorem dX8_blame_36 : decode cX8_blame 36 = .ok (.iconst 0, 1) := by decide +kernel
theorem dX8_blame_37 : decode cX8_blame 37 = .ok (.istore 5, 2) := by decide +kernel
theorem dX8_blame_39 : decode cX8_blame 39 = .ok (.iload 5, 2) := by decide +kernel
theorem dX8_blame_41 : decode cX8_blame 41 = .ok (.iconst 3, 1) := by decide +kernel
theorem dX8_blame_42 : decode cX8_blame 42 = .ok (.if_icmp .ge 54, 3) := by decide +kernel
theorem dX8_blame_45 : decode cX8_blame 45 = .ok (.iload 5, 2) := by decide +kernel
theorem dX8_blame_47 : decode cX8_blame 47 = .ok (.aload_n 0, 1) := by decide +kernel
theorem dX8_blame_48 : decode cX8_blame 48 = .ok (.getfield 44, 3) := by decide +kernel
theorem dX8_blame_51 : decode cX8_blame 51 = .ok (.iload 4, 2) := by decide +kernel
theorem dX8_blame_53 : decode cX8_blame 53 = .ok (.iaload, 1) := by decide +kernel
theorem dX8_blame_54 : decode cX8_blame 54 = .ok (.if_icmp .eq 36, 3) := by decide +kernel
theorem dX8_blame_57 : decode cX8_blame 57 = .ok (.aload_n 0, 1) := by decide +kernel
theorem dX8_blame_58 : decode cX8_blame 58 = .ok (.getfield 47, 3) := by decide +kernel
theorem dX8_blame_61 : decode cX8_blame 61 = .ok (.iload 4, 2) := by decide +kernel
theorem dX8_blame_63 : decode cX8_blame 63 = .ok (.iload 5, 2) := by decide +kernel
theorem dX8_blame_65 : decode cX8_blame 65 = .ok (.iastore, 1) := by decide +kernel
theorem dX8_blame_66 : decode cX8_blame 66 = .ok (.aload_n 0, 1) := by decide +kernel
theorem dX8_blame_67 : decode cX8_blame 67 = .ok (.invokevirtual 359, 3) := by decide +kernel
theorem dX8_blame_70 : decode cX8_blame 70 = .ok (.istore 6, 2) := by decide +kernel
theorem dX8_blame_72 : decode cX8_blame 72 = .ok (.iload 6, 2) := by decide +kernel
theorem dX8_blame_74 : decode cX8_blame 74 = .ok (.iload_n 2, 1) := by decide +kernel
theorem dX8_blame_75 : decode cX8_blame 75 = .ok (.if_icmp .ge 15, 3) := by decide +kernel
theorem dX8_blame_78 : decode cX8_blame 78 = .ok (.bipush 10, 2) := by decide +kernel
theorem dX8_blame_80 : decode cX8_blame 80 = .ok (.iload 4, 2) := by decide +kernel
theorem dX8_blame_82 : decode cX8_blame 82 = .ok (.imul, 1) := by decide +kernel
theorem dX8_blame_83 : decode cX8_blame 83 = .ok (.iload 5, 2) := by decide +kernel
theorem dX8_blame_85 : decode cX8_blame 85 = .ok (.iadd, 1) := by decide +kernel
theorem dX8_blame_86 : decode cX8_blame 86 = .ok (.istore_n 3, 1) := by decide +kernel
theorem dX8_blame_87 : decode cX8_blame 87 = .ok (.iload 6, 2) := by decide +kernel
theorem dX8_blame_89 : decode cX8_blame 89 = .ok (.istore_n 2, 1) := by decide +kernel
theorem dX8_blame_90 : decode cX8_blame 90 = .ok (.iinc 5 1, 3) := by decide +kernel
theorem dX8_blame_93 : decode cX8_blame 93 = .ok (.goto (-54), 3) := by decide +kernel
theorem dX8_blame_96 : decode cX8_blame 96 = .ok (.aload_n 0, 1) := by decide +kernel
theorem dX8_blame_97 : decode cX8_blame 97 = .ok (.getfield 47, 3) := by decide +kernel
theorem dX8_blame_100 : decode cX8_blame 100 = .ok (.iload 4, 2) := by decide +kernel
theorem dX8_blame_102 : decode cX8_blame 102 = .ok (.aload_n 0, 1) := by decide +kernel
theorem dX8_blame_103 : decode cX8_blame 103 = .ok (.getfield 44, 3) := by decide +kernel
theorem dX8_blame_106 : decode cX8_blame 106 = .ok (.iload 4, 2) := by decide +kernel
theorem dX8_blame_108 : decode cX8_blame 108 = .ok (.iaload, 1) := by decide +kernel
theorem dX8_blame_109 : decode cX8_blame 109 = .ok (.iastore, 1) := by decide +kernel
theorem dX8_blame_110 : decode cX8_blame 110 = .ok (.iinc 4 1, 3) := by decide +kernel
theorem dX8_blame_113 : decode cX8_blame 113 = .ok (.goto (-84), 3) := by decide +kernel
theorem dX8_blame_116 : decode cX8_blame 116 = .ok (.iload_n 3, 1) := by decide +kernel
theorem dX8_blame_117 : decode cX8_blame 117 = .ok (.iconst (-1), 1) := by decide +kernel
theorem dX8_blame_118 : decode cX8_blame 118 = .ok (.if_icmp .ne 7, 3) := by decide +kernel
theorem dX8_blame_121 : decode cX8_blame 121 = .ok (.iconst (-1), 1) := by decide +kernel
theorem dX8_blame_122 : decode cX8_blame 122 = .ok (.goto 27, 3) := by decide +kernel
theorem dX8_blame_125 : decode cX8_blame 125 = .ok (.iload_n 1, 1) := by decide +kernel
theorem dX8_blame_126 : decode cX8_blame 126 = .ok (.ifCond .ne 10, 3) := by decide +kernel
theorem dX8_blame_129 : decode cX8_blame 129 = .ok (.iload_n 3, 1) := by decide +kernel
theorem dX8_blame_130 : decode cX8_blame 130 = .ok (.bipush 10, 2) := by decide +kernel
theorem dX8_blame_132 : decode cX8_blame 132 = .ok (.idiv, 1) := by decide +kernel
theorem dX8_blame_133 : decode cX8_blame 133 = .ok (.goto 16, 3) := by decide +kernel
theorem dX8_blame_136 : decode cX8_blame 136 = .ok (.iload_n 1, 1) := by decide +kernel
theorem dX8_blame_137 : decode cX8_blame 137 = .ok (.iconst 1, 1) := by decide +kernel
theorem dX8_blame_138 : decode cX8_blame 138 = .ok (.if_icmp .ne 10, 3) := by decide +kernel
theorem dX8_blame_141 : decode cX8_blame 141 = .ok (.iload_n 3, 1) := by decide +kernel
theorem dX8_blame_142 : decode cX8_blame 142 = .ok (.bipush 10, 2) := by decide +kernel
theorem dX8_blame_144 : decode cX8_blame 144 = .ok (.irem, 1) := by decide +kernel
theorem dX8_blame_145 : decode cX8_blame 145 = .ok (.goto 4, 3) := by decide +kernel
theorem dX8_blame_148 : decode cX8_blame 148 = .ok (.iload_n 2, 1) := by decide +kernel
theorem dX8_blame_149 : decode cX8_blame 149 = .ok (.ireturn, 1) := by decide +kernel
theorem dX8_judge_0 : decode cX8_judge 0 = .ok (.iload_n 1, 1) := by decide +kernel
theorem dX8_judge_1 : decode cX8_judge 1 = .ok (.invokestatic 431, 3) := by decide +kernel
theorem dX8_judge_4 : decode cX8_judge 4 = .ok (.ifCond .ne 6, 3) := by decide +kernel
theorem dX8_judge_7 : decode cX8_judge 7 = .ok (.bipush (-2), 2) := by decide +kernel
theorem dX8_judge_9 : decode cX8_judge 9 = .ok (.ireturn, 1) := by decide +kernel
theorem dX8_judge_10 : decode cX8_judge 10 = .ok (.aload_n 0, 1) := by decide +kernel
theorem dX8_judge_11 : decode cX8_judge 11 = .ok (.getfield 72, 3) := by decide +kernel
theorem dX8_judge_14 : decode cX8_judge 14 = .ok (.iload_n 1, 1) := by decide +kernel
theorem dX8_judge_15 : decode cX8_judge 15 = .ok (.baload, 1) := by decide +kernel
theorem dX8_judge_16 : decode cX8_judge 16 = .ok (.ifCond .ne 6, 3) := by decide +kernel
theorem dX8_judge_19 : decode cX8_judge 19 = .ok (.bipush (-11), 2) := by decide +kernel
theorem dX8_judge_21 : decode cX8_judge 21 = .ok (.ireturn, 1) := by decide +kernel
theorem dX8_judge_22 : decode cX8_judge 22 = .ok (.aload_n 0, 1) := by decide +kernel
theorem dX8_judge_23 : decode cX8_judge 23 = .ok (.getfield 79, 3) := by decide +kernel
theorem dX8_judge_26 : decode cX8_judge 26 = .ok (.iload_n 1, 1) := by decide +kernel
theorem dX8_judge_27 : decode cX8_judge 27 = .ok (.iaload, 1) := by decide +kernel
theorem dX8_judge_28 : decode cX8_judge 28 = .ok (.bipush 24, 2) := by decide +kernel
theorem dX8_judge_30 : decode cX8_judge 30 = .ok (.if_icmp .le 6, 3) := by decide +kernel
theorem dX8_judge_33 : decode cX8_judge 33 = .ok (.bipush (-2), 2) := by decide +kernel
theorem dX8_judge_35 : decode cX8_judge 35 = .ok (.ireturn, 1) := by decide +kernel
theorem dX8_judge_36 : decode cX8_judge 36 = .ok (.iconst 0, 1) := by decide +kernel
theorem dX8_judge_37 : decode cX8_judge 37 = .ok (.istore_n 2, 1) := by decide +kernel
theorem dX8_judge_38 : decode cX8_judge 38 = .ok (.iconst 0, 1) := by decide +kernel
theorem dX8_judge_39 : decode cX8_judge 39 = .ok (.istore_n 3, 1) := by decide +kernel
theorem dX8_judge_40 : decode cX8_judge 40 = .ok (.iload_n 3, 1) := by decide +kernel
theorem dX8_judge_41 : decode cX8_judge 41 = .ok (.aload_n 0, 1) := by decide +kernel
theorem dX8_judge_42 : decode cX8_judge 42 = .ok (.getfield 79, 3) := by decide +kernel
theorem dX8_judge_45 : decode cX8_judge 45 = .ok (.iload_n 1, 1) := by decide +kernel
theorem dX8_judge_46 : decode cX8_judge 46 = .ok (.iaload, 1) := by decide +kernel
theorem dX8_judge_47 : decode cX8_judge 47 = .ok (.if_icmp .ge 98, 3) := by decide +kernel
theorem dX8_judge_50 : decode cX8_judge 50 = .ok (.aload_n 0, 1) := by decide +kernel
theorem dX8_judge_51 : decode cX8_judge 51 = .ok (.getfield 82, 3) := by decide +kernel
theorem dX8_judge_54 : decode cX8_judge 54 = .ok (.bipush 40, 2) := by decide +kernel
theorem dX8_judge_56 : decode cX8_judge 56 = .ok (.iload_n 1, 1) := by decide +kernel
theorem dX8_judge_57 : decode cX8_judge 57 = .ok (.imul, 1) := by decide +kernel
theorem dX8_judge_58 : decode cX8_judge 58 = .ok (.iload_n 3, 1) := by decide +kernel
theorem dX8_judge_59 : decode cX8_judge 59 = .ok (.iadd, 1) := by decide +kernel
theorem dX8_judge_60 : decode cX8_judge 60 = .ok (.iaload, 1) := by decide +kernel
theorem dX8_judge_61 : decode cX8_judge 61 = .ok (.istore 4, 2) := by decide +kernel
theorem dX8_judge_63 : decode cX8_judge 63 = .ok (.iload 4, 2) := by decide +kernel
theorem dX8_judge_65 : decode cX8_judge 65 = .ok (.i2l, 1) := by decide +kernel
theorem dX8_judge_66 : decode cX8_judge 66 = .ok (.lconst 0, 1) := by decide +kernel
theorem dX8_judge_67 : decode cX8_judge 67 = .ok (.ldc2_w 104, 3) := by decide +kernel
theorem dX8_judge_70 : decode cX8_judge 70 = .ok (.invokestatic 92, 3) := by decide +kernel
theorem dX8_judge_73 : decode cX8_judge 73 = .ok (.ifCond .ne 5, 3) := by decide +kernel
theorem dX8_judge_76 : decode cX8_judge 76 = .ok (.iload_n 3, 1) := by decide +kernel
theorem dX8_judge_77 : decode cX8_judge 77 = .ok (.ireturn, 1) := by decide +kernel
theorem dX8_judge_78 : decode cX8_judge 78 = .ok (.iload_n 3, 1) := by decide +kernel
theorem dX8_judge_79 : decode cX8_judge 79 = .ok (.ifCond .le 25, 3) := by decide +kernel
theorem dX8_judge_82 : decode cX8_judge 82 = .ok (.iload 4, 2) := by decide +kernel
theorem dX8_judge_84 : decode cX8_judge 84 = .ok (.aload_n 0, 1) := by decide +kernel
theorem dX8_judge_85 : decode cX8_judge 85 = .ok (.getfield 82, 3) := by decide +kernel
theorem dX8_judge_88 : decode cX8_judge 88 = .ok (.bipush 40, 2) := by decide +kernel
theorem dX8_judge_90 : decode cX8_judge 90 = .ok (.iload_n 1, 1) := by decide +kernel
theorem dX8_judge_91 : decode cX8_judge 91 = .ok (.imul, 1) := by decide +kernel
theorem dX8_judge_92 : decode cX8_judge 92 = .ok (.iload_n 3, 1) := by decide +kernel
theorem dX8_judge_93 : decode cX8_judge 93 = .ok (.iadd, 1) := by decide +kernel
theorem dX8_judge_94 : decode cX8_judge 94 = .ok (.iconst 1, 1) := by decide +kernel
theorem dX8_judge_95 : decode cX8_judge 95 = .ok (.isub, 1) := by decide +kernel
theorem dX8_judge_96 : decode cX8_judge 96 = .ok (.iaload, 1) := by decide +kernel
theorem dX8_judge_97 : decode cX8_judge 97 = .ok (.if_icmp .ne 7, 3) := by decide +kernel
theorem dX8_judge_100 : decode cX8_judge 100 = .ok (.iconst 1, 1) := by decide +kernel
theorem dX8_judge_101 : decode cX8_judge 101 = .ok (.goto 4, 3) := by decide +kernel
theorem dX8_judge_104 : decode cX8_judge 104 = .ok (.iconst 0, 1) := by decide +kernel
theorem dX8_judge_105 : decode cX8_judge 105 = .ok (.istore 5, 2) := by decide +kernel
theorem dX8_judge_107 : decode cX8_judge 107 = .ok (.iload_n 3, 1) := by decide +kernel
theorem dX8_judge_108 : decode cX8_judge 108 = .ok (.ifCond .le 18, 3) := by decide +kernel
theorem dX8_judge_111 : decode cX8_judge 111 = .ok (.iload 5, 2) := by decide +kernel
theorem dX8_judge_113 : decode cX8_judge 113 = .ok (.ifCond .ne 13, 3) := by decide +kernel
theorem dX8_judge_116 : decode cX8_judge 116 = .ok (.iload_n 2, 1) := by decide +kernel
theorem dX8_judge_117 : decode cX8_judge 117 = .ok (.aload_n 0, 1) := by decide +kernel
theorem dX8_judge_118 : decode cX8_judge 118 = .ok (.getfield 32, 3) := by decide +kernel
theorem dX8_judge_121 : decode cX8_judge 121 = .ok (.if_icmp .ge 5, 3) := by decide +kernel
theorem dX8_judge_124 : decode cX8_judge 124 = .ok (.iload_n 3, 1) := by decide +kernel
theorem dX8_judge_125 : decode cX8_judge 125 = .ok (.ireturn, 1) := by decide +kernel
theorem dX8_judge_126 : decode cX8_judge 126 = .ok (.iload 5, 2) := by decide +kernel
theorem dX8_judge_128 : decode cX8_judge 128 = .ok (.ifCond .eq 9, 3) := by decide +kernel
theorem dX8_judge_131 : decode cX8_judge 131 = .ok (.iload_n 2, 1) := by decide +kernel
theorem dX8_judge_132 : decode cX8_judge 132 = .ok (.iconst 1, 1) := by decide +kernel
theorem dX8_judge_133 : decode cX8_judge 133 = .ok (.iadd, 1) := by decide +kernel
theorem dX8_judge_134 : decode cX8_judge 134 = .ok (.goto 4, 3) := by decide +kernel
theorem dX8_judge_137 : decode cX8_judge 137 = .ok (.iconst 1, 1) := by decide +kernel
theorem dX8_judge_138 : decode cX8_judge 138 = .ok (.istore_n 2, 1) := by decide +kernel
theorem dX8_judge_139 : decode cX8_judge 139 = .ok (.iinc 3 1, 3) := by decide +kernel
theorem dX8_judge_142 : decode cX8_judge 142 = .ok (.goto (-102), 3) := by decide +kernel
theorem dX8_judge_145 : decode cX8_judge 145 = .ok (.iconst (-1), 1) := by decide +kernel
theorem dX8_judge_146 : decode cX8_judge 146 = .ok (.ireturn, 1) := by decide +kernel
theorem dX8_who_0 : decode cX8_who 0 = .ok (.iload_n 1, 1) := by decide +kernel
theorem dX8_who_1 : decode cX8_who 1 = .ok (.invokestatic 431, 3) := by decide +kernel
theorem dX8_who_4 : decode cX8_who 4 = .ok (.ifCond .ne 6, 3) := by decide +kernel
theorem dX8_who_7 : decode cX8_who 7 = .ok (.bipush (-2), 2) := by decide +kernel
theorem dX8_who_9 : decode cX8_who 9 = .ok (.ireturn, 1) := by decide +kernel
theorem dX8_who_10 : decode cX8_who 10 = .ok (.aload_n 0, 1) := by decide +kernel
theorem dX8_who_11 : decode cX8_who 11 = .ok (.getfield 72, 3) := by decide +kernel
theorem dX8_who_14 : decode cX8_who 14 = .ok (.iload_n 1, 1) := by decide +kernel
theorem dX8_who_15 : decode cX8_who 15 = .ok (.baload, 1) := by decide +kernel
theorem dX8_who_16 : decode cX8_who 16 = .ok (.ifCond .ne 6, 3) := by decide +kernel
theorem dX8_who_19 : decode cX8_who 19 = .ok (.bipush (-11), 2) := by decide +kernel
theorem dX8_who_21 : decode cX8_who 21 = .ok (.ireturn, 1) := by decide +kernel
theorem dX8_who_22 : decode cX8_who 22 = .ok (.aload_n 0, 1) := by decide +kernel
theorem dX8_who_23 : decode cX8_who 23 = .ok (.getfield 79, 3) := by decide +kernel
theorem dX8_who_26 : decode cX8_who 26 = .ok (.iload_n 1, 1) := by decide +kernel
theorem dX8_who_27 : decode cX8_who 27 = .ok (.iaload, 1) := by decide +kernel
theorem dX8_who_28 : decode cX8_who 28 = .ok (.bipush 24, 2) := by decide +kernel
theorem dX8_who_30 : decode cX8_who 30 = .ok (.if_icmp .le 6, 3) := by decide +kernel
theorem dX8_who_33 : decode cX8_who 33 = .ok (.bipush (-2), 2) := by decide +kernel
theorem dX8_who_35 : decode cX8_who 35 = .ok (.ireturn, 1) := by decide +kernel
theorem dX8_who_36 : decode cX8_who 36 = .ok (.iconst 0, 1) := by decide +kernel
theorem dX8_who_37 : decode cX8_who 37 = .ok (.istore_n 2, 1) := by decide +kernel
theorem dX8_who_38 : decode cX8_who 38 = .ok (.iconst 0, 1) := by decide +kernel
theorem dX8_who_39 : decode cX8_who 39 = .ok (.istore_n 3, 1) := by decide +kernel
theorem dX8_who_40 : decode cX8_who 40 = .ok (.iload_n 3, 1) := by decide +kernel
theorem dX8_who_41 : decode cX8_who 41 = .ok (.aload_n 0, 1) := by decide +kernel
theorem dX8_who_42 : decode cX8_who 42 = .ok (.getfield 114, 3) := by decide +kernel
theorem dX8_who_45 : decode cX8_who 45 = .ok (.if_icmp .ge 86, 3) := by decide +kernel
theorem dX8_who_48 : decode cX8_who 48 = .ok (.aload_n 0, 1) := by decide +kernel
theorem dX8_who_49 : decode cX8_who 49 = .ok (.iload_n 3, 1) := by decide +kernel
theorem dX8_who_50 : decode cX8_who 50 = .ok (.invokevirtual 422, 3) := by decide +kernel
theorem dX8_who_53 : decode cX8_who 53 = .ok (.iconst 1, 1) := by decide +kernel
theorem dX8_who_54 : decode cX8_who 54 = .ok (.istore 4, 2) := by decide +kernel
theorem dX8_who_56 : decode cX8_who 56 = .ok (.iconst 0, 1) := by decide +kernel
theorem dX8_who_57 : decode cX8_who 57 = .ok (.istore 5, 2) := by decide +kernel
theorem dX8_who_59 : decode cX8_who 59 = .ok (.iload 5, 2) := by decide +kernel
theorem dX8_who_61 : decode cX8_who 61 = .ok (.aload_n 0, 1) := by decide +kernel
theorem dX8_who_62 : decode cX8_who 62 = .ok (.getfield 79, 3) := by decide +kernel
theorem dX8_who_65 : decode cX8_who 65 = .ok (.iload_n 1, 1) := by decide +kernel
theorem dX8_who_66 : decode cX8_who 66 = .ok (.iaload, 1) := by decide +kernel
theorem dX8_who_67 : decode cX8_who 67 = .ok (.if_icmp .ge 43, 3) := by decide +kernel
theorem dX8_who_70 : decode cX8_who 70 = .ok (.iload 4, 2) := by decide +kernel
theorem dX8_who_72 : decode cX8_who 72 = .ok (.ifCond .eq 29, 3) := by decide +kernel
theorem dX8_who_75 : decode cX8_who 75 = .ok (.aload_n 0, 1) := by decide +kernel
theorem dX8_who_76 : decode cX8_who 76 = .ok (.getfield 47, 3) := by decide +kernel
theorem dX8_who_79 : decode cX8_who 79 = .ok (.iload 5, 2) := by decide +kernel
theorem dX8_who_81 : decode cX8_who 81 = .ok (.iaload, 1) := by decide +kernel
theorem dX8_who_82 : decode cX8_who 82 = .ok (.aload_n 0, 1) := by decide +kernel
theorem dX8_who_83 : decode cX8_who 83 = .ok (.getfield 82, 3) := by decide +kernel
theorem dX8_who_86 : decode cX8_who 86 = .ok (.bipush 40, 2) := by decide +kernel
theorem dX8_who_88 : decode cX8_who 88 = .ok (.iload_n 1, 1) := by decide +kernel
theorem dX8_who_89 : decode cX8_who 89 = .ok (.imul, 1) := by decide +kernel
theorem dX8_who_90 : decode cX8_who 90 = .ok (.iload 5, 2) := by decide +kernel
theorem dX8_who_92 : decode cX8_who 92 = .ok (.iadd, 1) := by decide +kernel
theorem dX8_who_93 : decode cX8_who 93 = .ok (.iaload, 1) := by decide +kernel
theorem dX8_who_94 : decode cX8_who 94 = .ok (.if_icmp .ne 7, 3) := by decide +kernel
theorem dX8_who_97 : decode cX8_who 97 = .ok (.iconst 1, 1) := by decide +kernel
theorem dX8_who_98 : decode cX8_who 98 = .ok (.goto 4, 3) := by decide +kernel
theorem dX8_who_101 : decode cX8_who 101 = .ok (.iconst 0, 1) := by decide +kernel
theorem dX8_who_102 : decode cX8_who 102 = .ok (.istore 4, 2) := by decide +kernel
theorem dX8_who_104 : decode cX8_who 104 = .ok (.iinc 5 1, 3) := by decide +kernel
theorem dX8_who_107 : decode cX8_who 107 = .ok (.goto (-48), 3) := by decide +kernel
theorem dX8_who_110 : decode cX8_who 110 = .ok (.iload_n 2, 1) := by decide +kernel
theorem dX8_who_111 : decode cX8_who 111 = .ok (.iload 4, 2) := by decide +kernel
theorem dX8_who_113 : decode cX8_who 113 = .ok (.ifCond .eq 7, 3) := by decide +kernel
theorem dX8_who_116 : decode cX8_who 116 = .ok (.iconst 1, 1) := by decide +kernel
theorem dX8_who_117 : decode cX8_who 117 = .ok (.goto 4, 3) := by decide +kernel
theorem dX8_who_120 : decode cX8_who 120 = .ok (.iconst 0, 1) := by decide +kernel
theorem dX8_who_121 : decode cX8_who 121 = .ok (.iload_n 3, 1) := by decide +kernel
theorem dX8_who_122 : decode cX8_who 122 = .ok (.ishl, 1) := by decide +kernel
theorem dX8_who_123 : decode cX8_who 123 = .ok (.ior, 1) := by decide +kernel
theorem dX8_who_124 : decode cX8_who 124 = .ok (.istore_n 2, 1) := by decide +kernel
theorem dX8_who_125 : decode cX8_who 125 = .ok (.iinc 3 1, 3) := by decide +kernel
theorem dX8_who_128 : decode cX8_who 128 = .ok (.goto (-88), 3) := by decide +kernel
theorem dX8_who_131 : decode cX8_who 131 = .ok (.iload_n 2, 1) := by decide +kernel
theorem dX8_who_132 : decode cX8_who 132 = .ok (.ireturn, 1) := by decide +kernel
theorem dX8_draws_0 : decode cX8_draws 0 = .ok (.iload_n 1, 1) := by decide +kernel
theorem dX8_draws_1 : decode cX8_draws 1 = .ok (.istore_n 2, 1) := by decide +kernel
theorem dX8_draws_2 : decode cX8_draws 2 = .ok (.iconst 0, 1) := by decide +kernel
theorem dX8_draws_3 : decode cX8_draws 3 = .ok (.istore_n 3, 1) := by decide +kernel
theorem dX8_draws_4 : decode cX8_draws 4 = .ok (.iload_n 3, 1) := by decide +kernel
theorem dX8_draws_5 : decode cX8_draws 5 = .ok (.bipush 24, 2) := by decide +kernel
theorem dX8_draws_7 : decode cX8_draws 7 = .ok (.if_icmp .ge 31, 3) := by decide +kernel
theorem dX8_draws_10 : decode cX8_draws 10 = .ok (.iload_n 2, 1) := by decide +kernel
theorem dX8_draws_11 : decode cX8_draws 11 = .ok (.ldc_w 434, 3) := by decide +kernel
theorem dX8_draws_14 : decode cX8_draws 14 = .ok (.imul, 1) := by decide +kernel
theorem dX8_draws_15 : decode cX8_draws 15 = .ok (.sipush 12345, 3) := by decide +kernel
theorem dX8_draws_18 : decode cX8_draws 18 = .ok (.iadd, 1) := by decide +kernel
theorem dX8_draws_19 : decode cX8_draws 19 = .ok (.istore_n 2, 1) := by decide +kernel
theorem dX8_draws_20 : decode cX8_draws 20 = .ok (.aload_n 0, 1) := by decide +kernel
theorem dX8_draws_21 : decode cX8_draws 21 = .ok (.getfield 47, 3) := by decide +kernel
theorem dX8_draws_24 : decode cX8_draws 24 = .ok (.iload_n 3, 1) := by decide +kernel
theorem dX8_draws_25 : decode cX8_draws 25 = .ok (.iload_n 2, 1) := by decide +kernel
theorem dX8_draws_26 : decode cX8_draws 26 = .ok (.bipush 8, 2) := by decide +kernel
theorem dX8_draws_28 : decode cX8_draws 28 = .ok (.iushr, 1) := by decide +kernel
theorem dX8_draws_29 : decode cX8_draws 29 = .ok (.iconst 3, 1) := by decide +kernel
theorem dX8_draws_30 : decode cX8_draws 30 = .ok (.irem, 1) := by decide +kernel
theorem dX8_draws_31 : decode cX8_draws 31 = .ok (.iastore, 1) := by decide +kernel
theorem dX8_draws_32 : decode cX8_draws 32 = .ok (.iinc 3 1, 3) := by decide +kernel
theorem dX8_draws_35 : decode cX8_draws 35 = .ok (.goto (-31), 3) := by decide +kernel
theorem dX8_draws_38 : decode cX8_draws 38 = .ok (.return_, 1) := by decide +kernel
theorem dX8_drawn_0 : decode cX8_drawn 0 = .ok (.aload_n 0, 1) := by decide +kernel
theorem dX8_drawn_1 : decode cX8_drawn 1 = .ok (.iload_n 1, 1) := by decide +kernel
theorem dX8_drawn_2 : decode cX8_drawn 2 = .ok (.invokevirtual 435, 3) := by decide +kernel
theorem dX8_drawn_5 : decode cX8_drawn 5 = .ok (.aload_n 0, 1) := by decide +kernel
theorem dX8_drawn_6 : decode cX8_drawn 6 = .ok (.invokevirtual 359, 3) := by decide +kernel
theorem dX8_drawn_9 : decode cX8_drawn 9 = .ok (.ireturn, 1) := by decide +kernel
theorem dX8_chance_0 : decode cX8_chance 0 = .ok (.iload_n 2, 1) := by decide +kernel
theorem dX8_chance_1 : decode cX8_chance 1 = .ok (.i2l, 1) := by decide +kernel
theorem dX8_chance_2 : decode cX8_chance 2 = .ok (.lconst 1, 1) := by decide +kernel
theorem dX8_chance_3 : decode cX8_chance 3 = .ok (.ldc2_w 438, 3) := by decide +kernel
theorem dX8_chance_6 : decode cX8_chance 6 = .ok (.invokestatic 92, 3) := by decide +kernel
theorem dX8_chance_9 : decode cX8_chance 9 = .ok (.ifCond .eq 13, 3) := by decide +kernel
theorem dX8_chance_12 : decode cX8_chance 12 = .ok (.iload_n 3, 1) := by decide +kernel
theorem dX8_chance_13 : decode cX8_chance 13 = .ok (.i2l, 1) := by decide +kernel
theorem dX8_chance_14 : decode cX8_chance 14 = .ok (.lconst 0, 1) := by decide +kernel
theorem dX8_chance_15 : decode cX8_chance 15 = .ok (.lconst 1, 1) := by decide +kernel
theorem dX8_chance_16 : decode cX8_chance 16 = .ok (.invokestatic 92, 3) := by decide +kernel
theorem dX8_chance_19 : decode cX8_chance 19 = .ok (.ifCond .ne 7, 3) := by decide +kernel
theorem dX8_chance_22 : decode cX8_chance 22 = .ok (.ldc2_w 440, 3) := by decide +kernel
theorem dX8_chance_25 : decode cX8_chance 25 = .ok (.lreturn, 1) := by decide +kernel
theorem dX8_chance_26 : decode cX8_chance 26 = .ok (.lconst 0, 1) := by decide +kernel
theorem dX8_chance_27 : decode cX8_chance 27 = .ok (.lstore 4, 2) := by decide +kernel
theorem dX8_chance_29 : decode cX8_chance 29 = .ok (.iconst 0, 1) := by decide +kernel
theorem dX8_chance_30 : decode cX8_chance 30 = .ok (.istore 6, 2) := by decide +kernel
theorem dX8_chance_32 : decode cX8_chance 32 = .ok (.iload 6, 2) := by decide +kernel
theorem dX8_chance_34 : decode cX8_chance 34 = .ok (.iload_n 2, 1) := by decide +kernel
theorem dX8_chance_35 : decode cX8_chance 35 = .ok (.if_icmp .ge 43, 3) := by decide +kernel
theorem dX8_chance_38 : decode cX8_chance 38 = .ok (.aload_n 0, 1) := by decide +kernel
theorem dX8_chance_39 : decode cX8_chance 39 = .ok (.iload_n 1, 1) := by decide +kernel
theorem dX8_chance_40 : decode cX8_chance 40 = .ok (.iload 6, 2) := by decide +kernel
theorem dX8_chance_42 : decode cX8_chance 42 = .ok (.iadd, 1) := by decide +kernel
theorem dX8_chance_43 : decode cX8_chance 43 = .ok (.invokevirtual 435, 3) := by decide +kernel
theorem dX8_chance_46 : decode cX8_chance 46 = .ok (.lload 4, 2) := by decide +kernel
theorem dX8_chance_48 : decode cX8_chance 48 = .ok (.aload_n 0, 1) := by decide +kernel
theorem dX8_chance_49 : decode cX8_chance 49 = .ok (.invokevirtual 365, 3) := by decide +kernel
theorem dX8_chance_52 : decode cX8_chance 52 = .ok (.aload_n 0, 1) := by decide +kernel
theorem dX8_chance_53 : decode cX8_chance 53 = .ok (.getfield 96, 3) := by decide +kernel
theorem dX8_chance_56 : decode cX8_chance 56 = .ok (.aload_n 0, 1) := by decide +kernel
theorem dX8_chance_57 : decode cX8_chance 57 = .ok (.getfield 99, 3) := by decide +kernel
theorem dX8_chance_60 : decode cX8_chance 60 = .ok (.iadd, 1) := by decide +kernel
theorem dX8_chance_61 : decode cX8_chance 61 = .ok (.if_icmp .ne 7, 3) := by decide +kernel
theorem dX8_chance_64 : decode cX8_chance 64 = .ok (.lconst 1, 1) := by decide +kernel
theorem dX8_chance_65 : decode cX8_chance 65 = .ok (.goto 4, 3) := by decide +kernel
theorem dX8_chance_68 : decode cX8_chance 68 = .ok (.lconst 0, 1) := by decide +kernel
theorem dX8_chance_69 : decode cX8_chance 69 = .ok (.ladd, 1) := by decide +kernel
theorem dX8_chance_70 : decode cX8_chance 70 = .ok (.lstore 4, 2) := by decide +kernel
theorem dX8_chance_72 : decode cX8_chance 72 = .ok (.iinc 6 1, 3) := by decide +kernel
theorem dX8_chance_75 : decode cX8_chance 75 = .ok (.goto (-43), 3) := by decide +kernel
theorem dX8_chance_78 : decode cX8_chance 78 = .ok (.lload 4, 2) := by decide +kernel
theorem dX8_chance_80 : decode cX8_chance 80 = .ok (.lstore 6, 2) := by decide +kernel
theorem dX8_chance_82 : decode cX8_chance 82 = .ok (.iload_n 2, 1) := by decide +kernel
theorem dX8_chance_83 : decode cX8_chance 83 = .ok (.i2l, 1) := by decide +kernel
theorem dX8_chance_84 : decode cX8_chance 84 = .ok (.lstore 8, 2) := by decide +kernel
theorem dX8_chance_86 : decode cX8_chance 86 = .ok (.lload 8, 2) := by decide +kernel
theorem dX8_chance_88 : decode cX8_chance 88 = .ok (.lconst 0, 1) := by decide +kernel
theorem dX8_chance_89 : decode cX8_chance 89 = .ok (.lcmp, 1) := by decide +kernel
theorem dX8_chance_90 : decode cX8_chance 90 = .ok (.ifCond .eq 21, 3) := by decide +kernel
theorem dX8_chance_93 : decode cX8_chance 93 = .ok (.lload 6, 2) := by decide +kernel
theorem dX8_chance_95 : decode cX8_chance 95 = .ok (.lload 8, 2) := by decide +kernel
theorem dX8_chance_97 : decode cX8_chance 97 = .ok (.lrem, 1) := by decide +kernel
theorem dX8_chance_98 : decode cX8_chance 98 = .ok (.lstore 10, 2) := by decide +kernel
theorem dX8_chance_100 : decode cX8_chance 100 = .ok (.lload 8, 2) := by decide +kernel
theorem dX8_chance_102 : decode cX8_chance 102 = .ok (.lstore 6, 2) := by decide +kernel
theorem dX8_chance_104 : decode cX8_chance 104 = .ok (.lload 10, 2) := by decide +kernel
theorem dX8_chance_106 : decode cX8_chance 106 = .ok (.lstore 8, 2) := by decide +kernel
theorem dX8_chance_108 : decode cX8_chance 108 = .ok (.goto (-22), 3) := by decide +kernel
theorem dX8_chance_111 : decode cX8_chance 111 = .ok (.iload_n 3, 1) := by decide +kernel
theorem dX8_chance_112 : decode cX8_chance 112 = .ok (.ifCond .ne 11, 3) := by decide +kernel
theorem dX8_chance_115 : decode cX8_chance 115 = .ok (.lload 4, 2) := by decide +kernel
theorem dX8_chance_117 : decode cX8_chance 117 = .ok (.lload 6, 2) := by decide +kernel
theorem dX8_chance_119 : decode cX8_chance 119 = .ok (.ldiv, 1) := by decide +kernel
theorem dX8_chance_120 : decode cX8_chance 120 = .ok (.goto 8, 3) := by decide +kernel
theorem dX8_chance_123 : decode cX8_chance 123 = .ok (.iload_n 2, 1) := by decide +kernel
theorem dX8_chance_124 : decode cX8_chance 124 = .ok (.i2l, 1) := by decide +kernel
theorem dX8_chance_125 : decode cX8_chance 125 = .ok (.lload 6, 2) := by decide +kernel
theorem dX8_chance_127 : decode cX8_chance 127 = .ok (.ldiv, 1) := by decide +kernel
theorem dX8_chance_128 : decode cX8_chance 128 = .ok (.lreturn, 1) := by decide +kernel
theorem dX8_image_0 : decode cX8_image 0 = .ok (.iconst 0, 1) := by decide +kernel
theorem dX8_image_1 : decode cX8_image 1 = .ok (.istore_n 1, 1) := by decide +kernel
theorem dX8_image_2 : decode cX8_image 2 = .ok (.iload_n 1, 1) := by decide +kernel
theorem dX8_image_3 : decode cX8_image 3 = .ok (.bipush 24, 2) := by decide +kernel
theorem dX8_image_5 : decode cX8_image 5 = .ok (.if_icmp .ge 21, 3) := by decide +kernel
theorem dX8_image_8 : decode cX8_image 8 = .ok (.aload_n 0, 1) := by decide +kernel
theorem dX8_image_9 : decode cX8_image 9 = .ok (.getfield 60, 3) := by decide +kernel
theorem dX8_image_12 : decode cX8_image 12 = .ok (.iload_n 1, 1) := by decide +kernel
theorem dX8_image_13 : decode cX8_image 13 = .ok (.aload_n 0, 1) := by decide +kernel
theorem dX8_image_14 : decode cX8_image 14 = .ok (.getfield 44, 3) := by decide +kernel
theorem dX8_image_17 : decode cX8_image 17 = .ok (.iload_n 1, 1) := by decide +kernel
theorem dX8_image_18 : decode cX8_image 18 = .ok (.iaload, 1) := by decide +kernel
theorem dX8_image_19 : decode cX8_image 19 = .ok (.iastore, 1) := by decide +kernel
theorem dX8_image_20 : decode cX8_image 20 = .ok (.iinc 1 1, 3) := by decide +kernel
theorem dX8_image_23 : decode cX8_image 23 = .ok (.goto (-21), 3) := by decide +kernel
theorem dX8_image_26 : decode cX8_image 26 = .ok (.iconst 0, 1) := by decide +kernel
theorem dX8_image_27 : decode cX8_image 27 = .ok (.istore_n 1, 1) := by decide +kernel
theorem dX8_image_28 : decode cX8_image 28 = .ok (.iload_n 1, 1) := by decide +kernel
theorem dX8_image_29 : decode cX8_image 29 = .ok (.bipush 8, 2) := by decide +kernel
theorem dX8_image_31 : decode cX8_image 31 = .ok (.if_icmp .ge 51, 3) := by decide +kernel
theorem dX8_image_34 : decode cX8_image 34 = .ok (.aload_n 0, 1) := by decide +kernel
theorem dX8_image_35 : decode cX8_image 35 = .ok (.getfield 63, 3) := by decide +kernel
theorem dX8_image_38 : decode cX8_image 38 = .ok (.iload_n 1, 1) := by decide +kernel
theorem dX8_image_39 : decode cX8_image 39 = .ok (.aload_n 0, 1) := by decide +kernel
theorem dX8_image_40 : decode cX8_image 40 = .ok (.getfield 23, 3) := by decide +kernel
theorem dX8_image_43 : decode cX8_image 43 = .ok (.iload_n 1, 1) := by decide +kernel
theorem dX8_image_44 : decode cX8_image 44 = .ok (.iaload, 1) := by decide +kernel
theorem dX8_image_45 : decode cX8_image 45 = .ok (.iastore, 1) := by decide +kernel
theorem dX8_image_46 : decode cX8_image 46 = .ok (.aload_n 0, 1) := by decide +kernel
theorem dX8_image_47 : decode cX8_image 47 = .ok (.getfield 63, 3) := by decide +kernel
theorem dX8_image_50 : decode cX8_image 50 = .ok (.bipush 8, 2) := by decide +kernel
theorem dX8_image_52 : decode cX8_image 52 = .ok (.iload_n 1, 1) := by decide +kernel
theorem dX8_image_53 : decode cX8_image 53 = .ok (.iadd, 1) := by decide +kernel
theorem dX8_image_54 : decode cX8_image 54 = .ok (.aload_n 0, 1) := by decide +kernel
theorem dX8_image_55 : decode cX8_image 55 = .ok (.getfield 26, 3) := by decide +kernel
theorem dX8_image_58 : decode cX8_image 58 = .ok (.iload_n 1, 1) := by decide +kernel
theorem dX8_image_59 : decode cX8_image 59 = .ok (.iaload, 1) := by decide +kernel
theorem dX8_image_60 : decode cX8_image 60 = .ok (.iastore, 1) := by decide +kernel
theorem dX8_image_61 : decode cX8_image 61 = .ok (.aload_n 0, 1) := by decide +kernel
theorem dX8_image_62 : decode cX8_image 62 = .ok (.getfield 63, 3) := by decide +kernel
theorem dX8_image_65 : decode cX8_image 65 = .ok (.bipush 16, 2) := by decide +kernel
theorem dX8_image_67 : decode cX8_image 67 = .ok (.iload_n 1, 1) := by decide +kernel
theorem dX8_image_68 : decode cX8_image 68 = .ok (.iadd, 1) := by decide +kernel
theorem dX8_image_69 : decode cX8_image 69 = .ok (.aload_n 0, 1) := by decide +kernel
theorem dX8_image_70 : decode cX8_image 70 = .ok (.getfield 29, 3) := by decide +kernel
theorem dX8_image_73 : decode cX8_image 73 = .ok (.iload_n 1, 1) := by decide +kernel
theorem dX8_image_74 : decode cX8_image 74 = .ok (.iaload, 1) := by decide +kernel
theorem dX8_image_75 : decode cX8_image 75 = .ok (.iastore, 1) := by decide +kernel
theorem dX8_image_76 : decode cX8_image 76 = .ok (.iinc 1 1, 3) := by decide +kernel
theorem dX8_image_79 : decode cX8_image 79 = .ok (.goto (-51), 3) := by decide +kernel
theorem dX8_image_82 : decode cX8_image 82 = .ok (.iconst 0, 1) := by decide +kernel
theorem dX8_image_83 : decode cX8_image 83 = .ok (.istore_n 1, 1) := by decide +kernel
theorem dX8_image_84 : decode cX8_image 84 = .ok (.iload_n 1, 1) := by decide +kernel
theorem dX8_image_85 : decode cX8_image 85 = .ok (.iconst 4, 1) := by decide +kernel
theorem dX8_image_86 : decode cX8_image 86 = .ok (.if_icmp .ge 21, 3) := by decide +kernel
theorem dX8_image_89 : decode cX8_image 89 = .ok (.aload_n 0, 1) := by decide +kernel
theorem dX8_image_90 : decode cX8_image 90 = .ok (.getfield 66, 3) := by decide +kernel
theorem dX8_image_93 : decode cX8_image 93 = .ok (.iload_n 1, 1) := by decide +kernel
theorem dX8_image_94 : decode cX8_image 94 = .ok (.aload_n 0, 1) := by decide +kernel
theorem dX8_image_95 : decode cX8_image 95 = .ok (.getfield 41, 3) := by decide +kernel
theorem dX8_image_98 : decode cX8_image 98 = .ok (.iload_n 1, 1) := by decide +kernel
theorem dX8_image_99 : decode cX8_image 99 = .ok (.iaload, 1) := by decide +kernel
theorem dX8_image_100 : decode cX8_image 100 = .ok (.iastore, 1) := by decide +kernel
theorem dX8_image_101 : decode cX8_image 101 = .ok (.iinc 1 1, 3) := by decide +kernel
theorem dX8_image_104 : decode cX8_image 104 = .ok (.goto (-20), 3) := by decide +kernel
theorem dX8_image_107 : decode cX8_image 107 = .ok (.aload_n 0, 1) := by decide +kernel
theorem dX8_image_108 : decode cX8_image 108 = .ok (.aload_n 0, 1) := by decide +kernel
theorem dX8_image_109 : decode cX8_image 109 = .ok (.getfield 96, 3) := by decide +kernel
theorem dX8_image_112 : decode cX8_image 112 = .ok (.putfield 69, 3) := by decide +kernel
theorem dX8_image_115 : decode cX8_image 115 = .ok (.aload_n 0, 1) := by decide +kernel
theorem dX8_image_116 : decode cX8_image 116 = .ok (.aload_n 0, 1) := by decide +kernel
theorem dX8_image_117 : decode cX8_image 117 = .ok (.getfield 99, 3) := by decide +kernel
theorem dX8_image_120 : decode cX8_image 120 = .ok (.putfield 442, 3) := by decide +kernel
theorem dX8_image_123 : decode cX8_image 123 = .ok (.aload_n 0, 1) := by decide +kernel
theorem dX8_image_124 : decode cX8_image 124 = .ok (.aload_n 0, 1) := by decide +kernel
theorem dX8_image_125 : decode cX8_image 125 = .ok (.getfield 114, 3) := by decide +kernel
theorem dX8_image_128 : decode cX8_image 128 = .ok (.putfield 445, 3) := by decide +kernel
theorem dX8_image_131 : decode cX8_image 131 = .ok (.aload_n 0, 1) := by decide +kernel
theorem dX8_image_132 : decode cX8_image 132 = .ok (.aload_n 0, 1) := by decide +kernel
theorem dX8_image_133 : decode cX8_image 133 = .ok (.getfield 32, 3) := by decide +kernel
theorem dX8_image_136 : decode cX8_image 136 = .ok (.putfield 448, 3) := by decide +kernel
theorem dX8_image_139 : decode cX8_image 139 = .ok (.aload_n 0, 1) := by decide +kernel
theorem dX8_image_140 : decode cX8_image 140 = .ok (.aload_n 0, 1) := by decide +kernel
theorem dX8_image_141 : decode cX8_image 141 = .ok (.getfield 35, 3) := by decide +kernel
theorem dX8_image_144 : decode cX8_image 144 = .ok (.putfield 451, 3) := by decide +kernel
theorem dX8_image_147 : decode cX8_image 147 = .ok (.aload_n 0, 1) := by decide +kernel
theorem dX8_image_148 : decode cX8_image 148 = .ok (.aload_n 0, 1) := by decide +kernel
theorem dX8_image_149 : decode cX8_image 149 = .ok (.getfield 332, 3) := by decide +kernel
theorem dX8_image_152 : decode cX8_image 152 = .ok (.putfield 454, 3) := by decide +kernel
theorem dX8_image_155 : decode cX8_image 155 = .ok (.aload_n 0, 1) := by decide +kernel
theorem dX8_image_156 : decode cX8_image 156 = .ok (.getfield 96, 3) := by decide +kernel
theorem dX8_image_159 : decode cX8_image 159 = .ok (.aload_n 0, 1) := by decide +kernel
theorem dX8_image_160 : decode cX8_image 160 = .ok (.getfield 99, 3) := by decide +kernel
theorem dX8_image_163 : decode cX8_image 163 = .ok (.iadd, 1) := by decide +kernel
theorem dX8_image_164 : decode cX8_image 164 = .ok (.ireturn, 1) := by decide +kernel
theorem dX8_back_0 : decode cX8_back 0 = .ok (.aload_n 0, 1) := by decide +kernel
theorem dX8_back_1 : decode cX8_back 1 = .ok (.getfield 69, 3) := by decide +kernel
theorem dX8_back_4 : decode cX8_back 4 = .ok (.iconst (-1), 1) := by decide +kernel
theorem dX8_back_5 : decode cX8_back 5 = .ok (.if_icmp .ne 6, 3) := by decide +kernel
theorem dX8_back_8 : decode cX8_back 8 = .ok (.bipush (-3), 2) := by decide +kernel
theorem dX8_back_10 : decode cX8_back 10 = .ok (.ireturn, 1) := by decide +kernel
theorem dX8_back_11 : decode cX8_back 11 = .ok (.iconst 0, 1) := by decide +kernel
theorem dX8_back_12 : decode cX8_back 12 = .ok (.istore_n 1, 1) := by decide +kernel
theorem dX8_back_13 : decode cX8_back 13 = .ok (.iload_n 1, 1) := by decide +kernel
theorem dX8_back_14 : decode cX8_back 14 = .ok (.bipush 24, 2) := by decide +kernel
theorem dX8_back_16 : decode cX8_back 16 = .ok (.if_icmp .ge 21, 3) := by decide +kernel
theorem dX8_back_19 : decode cX8_back 19 = .ok (.aload_n 0, 1) := by decide +kernel
theorem dX8_back_20 : decode cX8_back 20 = .ok (.getfield 44, 3) := by decide +kernel
theorem dX8_back_23 : decode cX8_back 23 = .ok (.iload_n 1, 1) := by decide +kernel
theorem dX8_back_24 : decode cX8_back 24 = .ok (.aload_n 0, 1) := by decide +kernel
theorem dX8_back_25 : decode cX8_back 25 = .ok (.getfield 60, 3) := by decide +kernel
theorem dX8_back_28 : decode cX8_back 28 = .ok (.iload_n 1, 1) := by decide +kernel
theorem dX8_back_29 : decode cX8_back 29 = .ok (.iaload, 1) := by decide +kernel
theorem dX8_back_30 : decode cX8_back 30 = .ok (.iastore, 1) := by decide +kernel
theorem dX8_back_31 : decode cX8_back 31 = .ok (.iinc 1 1, 3) := by decide +kernel
theorem dX8_back_34 : decode cX8_back 34 = .ok (.goto (-21), 3) := by decide +kernel
theorem dX8_back_37 : decode cX8_back 37 = .ok (.iconst 0, 1) := by decide +kernel
theorem dX8_back_38 : decode cX8_back 38 = .ok (.istore_n 1, 1) := by decide +kernel
theorem dX8_back_39 : decode cX8_back 39 = .ok (.iload_n 1, 1) := by decide +kernel
theorem dX8_back_40 : decode cX8_back 40 = .ok (.bipush 8, 2) := by decide +kernel
theorem dX8_back_42 : decode cX8_back 42 = .ok (.if_icmp .ge 51, 3) := by decide +kernel
theorem dX8_back_45 : decode cX8_back 45 = .ok (.aload_n 0, 1) := by decide +kernel
theorem dX8_back_46 : decode cX8_back 46 = .ok (.getfield 23, 3) := by decide +kernel
theorem dX8_back_49 : decode cX8_back 49 = .ok (.iload_n 1, 1) := by decide +kernel
theorem dX8_back_50 : decode cX8_back 50 = .ok (.aload_n 0, 1) := by decide +kernel
theorem dX8_back_51 : decode cX8_back 51 = .ok (.getfield 63, 3) := by decide +kernel
theorem dX8_back_54 : decode cX8_back 54 = .ok (.iload_n 1, 1) := by decide +kernel
theorem dX8_back_55 : decode cX8_back 55 = .ok (.iaload, 1) := by decide +kernel
theorem dX8_back_56 : decode cX8_back 56 = .ok (.iastore, 1) := by decide +kernel
theorem dX8_back_57 : decode cX8_back 57 = .ok (.aload_n 0, 1) := by decide +kernel
theorem dX8_back_58 : decode cX8_back 58 = .ok (.getfield 26, 3) := by decide +kernel
theorem dX8_back_61 : decode cX8_back 61 = .ok (.iload_n 1, 1) := by decide +kernel
theorem dX8_back_62 : decode cX8_back 62 = .ok (.aload_n 0, 1) := by decide +kernel
theorem dX8_back_63 : decode cX8_back 63 = .ok (.getfield 63, 3) := by decide +kernel
theorem dX8_back_66 : decode cX8_back 66 = .ok (.bipush 8, 2) := by decide +kernel
theorem dX8_back_68 : decode cX8_back 68 = .ok (.iload_n 1, 1) := by decide +kernel
theorem dX8_back_69 : decode cX8_back 69 = .ok (.iadd, 1) := by decide +kernel
theorem dX8_back_70 : decode cX8_back 70 = .ok (.iaload, 1) := by decide +kernel
theorem dX8_back_71 : decode cX8_back 71 = .ok (.iastore, 1) := by decide +kernel
theorem dX8_back_72 : decode cX8_back 72 = .ok (.aload_n 0, 1) := by decide +kernel
theorem dX8_back_73 : decode cX8_back 73 = .ok (.getfield 29, 3) := by decide +kernel
theorem dX8_back_76 : decode cX8_back 76 = .ok (.iload_n 1, 1) := by decide +kernel
theorem dX8_back_77 : decode cX8_back 77 = .ok (.aload_n 0, 1) := by decide +kernel
theorem dX8_back_78 : decode cX8_back 78 = .ok (.getfield 63, 3) := by decide +kernel
theorem dX8_back_81 : decode cX8_back 81 = .ok (.bipush 16, 2) := by decide +kernel
theorem dX8_back_83 : decode cX8_back 83 = .ok (.iload_n 1, 1) := by decide +kernel
theorem dX8_back_84 : decode cX8_back 84 = .ok (.iadd, 1) := by decide +kernel
theorem dX8_back_85 : decode cX8_back 85 = .ok (.iaload, 1) := by decide +kernel
theorem dX8_back_86 : decode cX8_back 86 = .ok (.iastore, 1) := by decide +kernel
theorem dX8_back_87 : decode cX8_back 87 = .ok (.iinc 1 1, 3) := by decide +kernel
theorem dX8_back_90 : decode cX8_back 90 = .ok (.goto (-51), 3) := by decide +kernel
theorem dX8_back_93 : decode cX8_back 93 = .ok (.iconst 0, 1) := by decide +kernel
theorem dX8_back_94 : decode cX8_back 94 = .ok (.istore_n 1, 1) := by decide +kernel
theorem dX8_back_95 : decode cX8_back 95 = .ok (.iload_n 1, 1) := by decide +kernel
theorem dX8_back_96 : decode cX8_back 96 = .ok (.iconst 4, 1) := by decide +kernel
theorem dX8_back_97 : decode cX8_back 97 = .ok (.if_icmp .ge 21, 3) := by decide +kernel
theorem dX8_back_100 : decode cX8_back 100 = .ok (.aload_n 0, 1) := by decide +kernel
theorem dX8_back_101 : decode cX8_back 101 = .ok (.getfield 41, 3) := by decide +kernel
theorem dX8_back_104 : decode cX8_back 104 = .ok (.iload_n 1, 1) := by decide +kernel
theorem dX8_back_105 : decode cX8_back 105 = .ok (.aload_n 0, 1) := by decide +kernel
theorem dX8_back_106 : decode cX8_back 106 = .ok (.getfield 66, 3) := by decide +kernel
theorem dX8_back_109 : decode cX8_back 109 = .ok (.iload_n 1, 1) := by decide +kernel
theorem dX8_back_110 : decode cX8_back 110 = .ok (.iaload, 1) := by decide +kernel
theorem dX8_back_111 : decode cX8_back 111 = .ok (.iastore, 1) := by decide +kernel
theorem dX8_back_112 : decode cX8_back 112 = .ok (.iinc 1 1, 3) := by decide +kernel
theorem dX8_back_115 : decode cX8_back 115 = .ok (.goto (-20), 3) := by decide +kernel
theorem dX8_back_118 : decode cX8_back 118 = .ok (.aload_n 0, 1) := by decide +kernel
theorem dX8_back_119 : decode cX8_back 119 = .ok (.aload_n 0, 1) := by decide +kernel
theorem dX8_back_120 : decode cX8_back 120 = .ok (.getfield 69, 3) := by decide +kernel
theorem dX8_back_123 : decode cX8_back 123 = .ok (.putfield 96, 3) := by decide +kernel
theorem dX8_back_126 : decode cX8_back 126 = .ok (.aload_n 0, 1) := by decide +kernel
theorem dX8_back_127 : decode cX8_back 127 = .ok (.aload_n 0, 1) := by decide +kernel
theorem dX8_back_128 : decode cX8_back 128 = .ok (.getfield 442, 3) := by decide +kernel
theorem dX8_back_131 : decode cX8_back 131 = .ok (.putfield 99, 3) := by decide +kernel
theorem dX8_back_134 : decode cX8_back 134 = .ok (.aload_n 0, 1) := by decide +kernel
theorem dX8_back_135 : decode cX8_back 135 = .ok (.aload_n 0, 1) := by decide +kernel
theorem dX8_back_136 : decode cX8_back 136 = .ok (.getfield 445, 3) := by decide +kernel
theorem dX8_back_139 : decode cX8_back 139 = .ok (.putfield 114, 3) := by decide +kernel
theorem dX8_back_142 : decode cX8_back 142 = .ok (.aload_n 0, 1) := by decide +kernel
theorem dX8_back_143 : decode cX8_back 143 = .ok (.aload_n 0, 1) := by decide +kernel
theorem dX8_back_144 : decode cX8_back 144 = .ok (.getfield 448, 3) := by decide +kernel
theorem dX8_back_147 : decode cX8_back 147 = .ok (.putfield 32, 3) := by decide +kernel
theorem dX8_back_150 : decode cX8_back 150 = .ok (.aload_n 0, 1) := by decide +kernel
theorem dX8_back_151 : decode cX8_back 151 = .ok (.aload_n 0, 1) := by decide +kernel
theorem dX8_back_152 : decode cX8_back 152 = .ok (.getfield 451, 3) := by decide +kernel
theorem dX8_back_155 : decode cX8_back 155 = .ok (.putfield 35, 3) := by decide +kernel
theorem dX8_back_158 : decode cX8_back 158 = .ok (.aload_n 0, 1) := by decide +kernel
theorem dX8_back_159 : decode cX8_back 159 = .ok (.aload_n 0, 1) := by decide +kernel
theorem dX8_back_160 : decode cX8_back 160 = .ok (.getfield 454, 3) := by decide +kernel
theorem dX8_back_163 : decode cX8_back 163 = .ok (.putfield 332, 3) := by decide +kernel
theorem dX8_back_166 : decode cX8_back 166 = .ok (.aload_n 0, 1) := by decide +kernel
theorem dX8_back_167 : decode cX8_back 167 = .ok (.getfield 96, 3) := by decide +kernel
theorem dX8_back_170 : decode cX8_back 170 = .ok (.aload_n 0, 1) := by decide +kernel
theorem dX8_back_171 : decode cX8_back 171 = .ok (.getfield 99, 3) := by decide +kernel
theorem dX8_back_174 : decode cX8_back 174 = .ok (.iadd, 1) := by decide +kernel
theorem dX8_back_175 : decode cX8_back 175 = .ok (.ireturn, 1) := by decide +kernel
theorem dX8_count_0 : decode cX8_count 0 = .ok (.iload_n 1, 1) := by decide +kernel
theorem dX8_count_1 : decode cX8_count 1 = .ok (.i2l, 1) := by decide +kernel
theorem dX8_count_2 : decode cX8_count 2 = .ok (.lconst 0, 1) := by decide +kernel
theorem dX8_count_3 : decode cX8_count 3 = .ok (.ldc2_w 457, 3) := by decide +kernel
theorem dX8_count_6 : decode cX8_count 6 = .ok (.invokestatic 92, 3) := by decide +kernel
theorem dX8_count_9 : decode cX8_count 9 = .ok (.ifCond .ne 6, 3) := by decide +kernel
theorem dX8_count_12 : decode cX8_count 12 = .ok (.bipush (-2), 2) := by decide +kernel
theorem dX8_count_14 : decode cX8_count 14 = .ok (.ireturn, 1) := by decide +kernel
theorem dX8_count_15 : decode cX8_count 15 = .ok (.iload_n 1, 1) := by decide +kernel
theorem dX8_count_16 : decode cX8_count 16 = .ok (.iconst 3, 1) := by decide +kernel
theorem dX8_count_17 : decode cX8_count 17 = .ok (.if_icmp .ge 31, 3) := by decide +kernel
theorem dX8_count_20 : decode cX8_count 20 = .ok (.iload_n 1, 1) := by decide +kernel
theorem dX8_count_21 : decode cX8_count 21 = .ok (.ifCond .ne 10, 3) := by decide +kernel
theorem dX8_count_24 : decode cX8_count 24 = .ok (.aload_n 0, 1) := by decide +kernel
theorem dX8_count_25 : decode cX8_count 25 = .ok (.getfield 96, 3) := by decide +kernel
theorem dX8_count_28 : decode cX8_count 28 = .ok (.goto 19, 3) := by decide +kernel
theorem dX8_count_31 : decode cX8_count 31 = .ok (.iload_n 1, 1) := by decide +kernel
theorem dX8_count_32 : decode cX8_count 32 = .ok (.iconst 1, 1) := by decide +kernel
theorem dX8_count_33 : decode cX8_count 33 = .ok (.if_icmp .ne 10, 3) := by decide +kernel
theorem dX8_count_36 : decode cX8_count 36 = .ok (.aload_n 0, 1) := by decide +kernel
theorem dX8_count_37 : decode cX8_count 37 = .ok (.getfield 99, 3) := by decide +kernel
theorem dX8_count_40 : decode cX8_count 40 = .ok (.goto 7, 3) := by decide +kernel
theorem dX8_count_43 : decode cX8_count 43 = .ok (.aload_n 0, 1) := by decide +kernel
theorem dX8_count_44 : decode cX8_count 44 = .ok (.getfield 114, 3) := by decide +kernel
theorem dX8_count_47 : decode cX8_count 47 = .ok (.ireturn, 1) := by decide +kernel
theorem dX8_count_48 : decode cX8_count 48 = .ok (.iload_n 1, 1) := by decide +kernel
theorem dX8_count_49 : decode cX8_count 49 = .ok (.iconst 5, 1) := by decide +kernel
theorem dX8_count_50 : decode cX8_count 50 = .ok (.if_icmp .ge 20, 3) := by decide +kernel
theorem dX8_count_53 : decode cX8_count 53 = .ok (.iload_n 1, 1) := by decide +kernel
theorem dX8_count_54 : decode cX8_count 54 = .ok (.iconst 3, 1) := by decide +kernel
theorem dX8_count_55 : decode cX8_count 55 = .ok (.if_icmp .ne 10, 3) := by decide +kernel
theorem dX8_count_58 : decode cX8_count 58 = .ok (.aload_n 0, 1) := by decide +kernel
theorem dX8_count_59 : decode cX8_count 59 = .ok (.getfield 32, 3) := by decide +kernel
theorem dX8_count_62 : decode cX8_count 62 = .ok (.goto 7, 3) := by decide +kernel
theorem dX8_count_65 : decode cX8_count 65 = .ok (.aload_n 0, 1) := by decide +kernel
theorem dX8_count_66 : decode cX8_count 66 = .ok (.getfield 35, 3) := by decide +kernel
theorem dX8_count_69 : decode cX8_count 69 = .ok (.ireturn, 1) := by decide +kernel
theorem dX8_count_70 : decode cX8_count 70 = .ok (.iload_n 1, 1) := by decide +kernel
theorem dX8_count_71 : decode cX8_count 71 = .ok (.iconst 5, 1) := by decide +kernel
theorem dX8_count_72 : decode cX8_count 72 = .ok (.if_icmp .ne 10, 3) := by decide +kernel
theorem dX8_count_75 : decode cX8_count 75 = .ok (.aload_n 0, 1) := by decide +kernel
theorem dX8_count_76 : decode cX8_count 76 = .ok (.getfield 89, 3) := by decide +kernel
theorem dX8_count_79 : decode cX8_count 79 = .ok (.goto 20, 3) := by decide +kernel
theorem dX8_count_82 : decode cX8_count 82 = .ok (.iload_n 1, 1) := by decide +kernel
theorem dX8_count_83 : decode cX8_count 83 = .ok (.bipush 6, 2) := by decide +kernel
theorem dX8_count_85 : decode cX8_count 85 = .ok (.if_icmp .ne 10, 3) := by decide +kernel
theorem dX8_count_88 : decode cX8_count 88 = .ok (.aload_n 0, 1) := by decide +kernel
theorem dX8_count_89 : decode cX8_count 89 = .ok (.getfield 123, 3) := by decide +kernel
theorem dX8_count_92 : decode cX8_count 92 = .ok (.goto 7, 3) := by decide +kernel
theorem dX8_count_95 : decode cX8_count 95 = .ok (.aload_n 0, 1) := by decide +kernel
theorem dX8_count_96 : decode cX8_count 96 = .ok (.getfield 332, 3) := by decide +kernel
theorem dX8_count_99 : decode cX8_count 99 = .ok (.ireturn, 1) := by decide +kernel
theorem dX8_isSheet_0 : decode cX8_isSheet 0 = .ok (.iload_n 0, 1) := by decide +kernel
theorem dX8_isSheet_1 : decode cX8_isSheet 1 = .ok (.i2l, 1) := by decide +kernel
theorem dX8_isSheet_2 : decode cX8_isSheet 2 = .ok (.lconst 0, 1) := by decide +kernel
theorem dX8_isSheet_3 : decode cX8_isSheet 3 = .ok (.ldc2_w 357, 3) := by decide +kernel
theorem dX8_isSheet_6 : decode cX8_isSheet 6 = .ok (.invokestatic 92, 3) := by decide +kernel
theorem dX8_isSheet_9 : decode cX8_isSheet 9 = .ok (.ireturn, 1) := by decide +kernel
theorem dX8_sheet_0 : decode cX8_sheet 0 = .ok (.iload_n 1, 1) := by decide +kernel
theorem dX8_sheet_1 : decode cX8_sheet 1 = .ok (.invokestatic 431, 3) := by decide +kernel
theorem dX8_sheet_4 : decode cX8_sheet 4 = .ok (.ifCond .eq 27, 3) := by decide +kernel
theorem dX8_sheet_7 : decode cX8_sheet 7 = .ok (.iload_n 2, 1) := by decide +kernel
theorem dX8_sheet_8 : decode cX8_sheet 8 = .ok (.i2l, 1) := by decide +kernel
theorem dX8_sheet_9 : decode cX8_sheet 9 = .ok (.ldc2_w 420, 3) := by decide +kernel
theorem dX8_sheet_12 : decode cX8_sheet 12 = .ok (.ldc2_w 104, 3) := by decide +kernel
theorem dX8_sheet_15 : decode cX8_sheet 15 = .ok (.invokestatic 92, 3) := by decide +kernel
theorem dX8_sheet_18 : decode cX8_sheet 18 = .ok (.ifCond .eq 13, 3) := by decide +kernel
theorem dX8_sheet_21 : decode cX8_sheet 21 = .ok (.iload_n 2, 1) := by decide +kernel
theorem dX8_sheet_22 : decode cX8_sheet 22 = .ok (.ifCond .lt 12, 3) := by decide +kernel
theorem dX8_sheet_25 : decode cX8_sheet 25 = .ok (.iload_n 3, 1) := by decide +kernel
theorem dX8_sheet_26 : decode cX8_sheet 26 = .ok (.bipush 40, 2) := by decide +kernel
theorem dX8_sheet_28 : decode cX8_sheet 28 = .ok (.if_icmp .le 6, 3) := by decide +kernel
theorem dX8_sheet_31 : decode cX8_sheet 31 = .ok (.bipush (-2), 2) := by decide +kernel
theorem dX8_sheet_33 : decode cX8_sheet 33 = .ok (.ireturn, 1) := by decide +kernel
theorem dX8_sheet_34 : decode cX8_sheet 34 = .ok (.iload_n 2, 1) := by decide +kernel
theorem dX8_sheet_35 : decode cX8_sheet 35 = .ok (.ifCond .lt 10, 3) := by decide +kernel
theorem dX8_sheet_38 : decode cX8_sheet 38 = .ok (.iload_n 3, 1) := by decide +kernel
theorem dX8_sheet_39 : decode cX8_sheet 39 = .ok (.ifCond .ge 6, 3) := by decide +kernel
theorem dX8_sheet_42 : decode cX8_sheet 42 = .ok (.bipush (-14), 2) := by decide +kernel
theorem dX8_sheet_44 : decode cX8_sheet 44 = .ok (.ireturn, 1) := by decide +kernel
theorem dX8_sheet_45 : decode cX8_sheet 45 = .ok (.aload_n 0, 1) := by decide +kernel
theorem dX8_sheet_46 : decode cX8_sheet 46 = .ok (.getfield 72, 3) := by decide +kernel
theorem dX8_sheet_49 : decode cX8_sheet 49 = .ok (.iload_n 1, 1) := by decide +kernel
theorem dX8_sheet_50 : decode cX8_sheet 50 = .ok (.iload_n 2, 1) := by decide +kernel
theorem dX8_sheet_51 : decode cX8_sheet 51 = .ok (.ifCond .lt 7, 3) := by decide +kernel
theorem dX8_sheet_54 : decode cX8_sheet 54 = .ok (.iconst 1, 1) := by decide +kernel
theorem dX8_sheet_55 : decode cX8_sheet 55 = .ok (.goto 4, 3) := by decide +kernel
theorem dX8_sheet_58 : decode cX8_sheet 58 = .ok (.iconst 0, 1) := by decide +kernel
theorem dX8_sheet_59 : decode cX8_sheet 59 = .ok (.bastore, 1) := by decide +kernel
theorem dX8_sheet_60 : decode cX8_sheet 60 = .ok (.aload_n 0, 1) := by decide +kernel
theorem dX8_sheet_61 : decode cX8_sheet 61 = .ok (.getfield 76, 3) := by decide +kernel
theorem dX8_sheet_64 : decode cX8_sheet 64 = .ok (.iload_n 1, 1) := by decide +kernel
theorem dX8_sheet_65 : decode cX8_sheet 65 = .ok (.iload_n 2, 1) := by decide +kernel
theorem dX8_sheet_66 : decode cX8_sheet 66 = .ok (.iastore, 1) := by decide +kernel
theorem dX8_sheet_67 : decode cX8_sheet 67 = .ok (.aload_n 0, 1) := by decide +kernel
theorem dX8_sheet_68 : decode cX8_sheet 68 = .ok (.getfield 79, 3) := by decide +kernel
theorem dX8_sheet_71 : decode cX8_sheet 71 = .ok (.iload_n 1, 1) := by decide +kernel
theorem dX8_sheet_72 : decode cX8_sheet 72 = .ok (.iload_n 3, 1) := by decide +kernel
theorem dX8_sheet_73 : decode cX8_sheet 73 = .ok (.iastore, 1) := by decide +kernel
theorem dX8_sheet_74 : decode cX8_sheet 74 = .ok (.iconst 0, 1) := by decide +kernel
theorem dX8_sheet_75 : decode cX8_sheet 75 = .ok (.istore 4, 2) := by decide +kernel
theorem dX8_sheet_77 : decode cX8_sheet 77 = .ok (.iload 4, 2) := by decide +kernel
theorem dX8_sheet_79 : decode cX8_sheet 79 = .ok (.iload_n 3, 1) := by decide +kernel
theorem dX8_sheet_80 : decode cX8_sheet 80 = .ok (.if_icmp .ge 26, 3) := by decide +kernel
theorem dX8_sheet_83 : decode cX8_sheet 83 = .ok (.iload_n 2, 1) := by decide +kernel
theorem dX8_sheet_84 : decode cX8_sheet 84 = .ok (.ifCond .lt 22, 3) := by decide +kernel
theorem dX8_sheet_87 : decode cX8_sheet 87 = .ok (.aload_n 0, 1) := by decide +kernel
theorem dX8_sheet_88 : decode cX8_sheet 88 = .ok (.getfield 82, 3) := by decide +kernel
theorem dX8_sheet_91 : decode cX8_sheet 91 = .ok (.bipush 40, 2) := by decide +kernel
theorem dX8_sheet_93 : decode cX8_sheet 93 = .ok (.iload_n 1, 1) := by decide +kernel
theorem dX8_sheet_94 : decode cX8_sheet 94 = .ok (.imul, 1) := by decide +kernel
theorem dX8_sheet_95 : decode cX8_sheet 95 = .ok (.iload 4, 2) := by decide +kernel
theorem dX8_sheet_97 : decode cX8_sheet 97 = .ok (.iadd, 1) := by decide +kernel
theorem dX8_sheet_98 : decode cX8_sheet 98 = .ok (.iconst 0, 1) := by decide +kernel
theorem dX8_sheet_99 : decode cX8_sheet 99 = .ok (.iastore, 1) := by decide +kernel
theorem dX8_sheet_100 : decode cX8_sheet 100 = .ok (.iinc 4 1, 3) := by decide +kernel
theorem dX8_sheet_103 : decode cX8_sheet 103 = .ok (.goto (-26), 3) := by decide +kernel
theorem dX8_sheet_106 : decode cX8_sheet 106 = .ok (.iconst 1, 1) := by decide +kernel
theorem dX8_sheet_107 : decode cX8_sheet 107 = .ok (.ireturn, 1) := by decide +kernel
theorem dX8_cell_0 : decode cX8_cell 0 = .ok (.iload_n 1, 1) := by decide +kernel
theorem dX8_cell_1 : decode cX8_cell 1 = .ok (.invokestatic 431, 3) := by decide +kernel
theorem dX8_cell_4 : decode cX8_cell 4 = .ok (.ifCond .ne 6, 3) := by decide +kernel
theorem dX8_cell_7 : decode cX8_cell 7 = .ok (.bipush (-2), 2) := by decide +kernel
theorem dX8_cell_9 : decode cX8_cell 9 = .ok (.ireturn, 1) := by decide +kernel
theorem dX8_cell_10 : decode cX8_cell 10 = .ok (.aload_n 0, 1) := by decide +kernel
theorem dX8_cell_11 : decode cX8_cell 11 = .ok (.getfield 72, 3) := by decide +kernel
theorem dX8_cell_14 : decode cX8_cell 14 = .ok (.iload_n 1, 1) := by decide +kernel
theorem dX8_cell_15 : decode cX8_cell 15 = .ok (.baload, 1) := by decide +kernel
theorem dX8_cell_16 : decode cX8_cell 16 = .ok (.ifCond .ne 6, 3) := by decide +kernel
theorem dX8_cell_19 : decode cX8_cell 19 = .ok (.bipush (-11), 2) := by decide +kernel
theorem dX8_cell_21 : decode cX8_cell 21 = .ok (.ireturn, 1) := by decide +kernel
theorem dX8_cell_22 : decode cX8_cell 22 = .ok (.iload_n 2, 1) := by decide +kernel
theorem dX8_cell_23 : decode cX8_cell 23 = .ok (.i2l, 1) := by decide +kernel
theorem dX8_cell_24 : decode cX8_cell 24 = .ok (.lconst 0, 1) := by decide +kernel
theorem dX8_cell_25 : decode cX8_cell 25 = .ok (.aload_n 0, 1) := by decide +kernel
theorem dX8_cell_26 : decode cX8_cell 26 = .ok (.getfield 79, 3) := by decide +kernel
theorem dX8_cell_29 : decode cX8_cell 29 = .ok (.iload_n 1, 1) := by decide +kernel
theorem dX8_cell_30 : decode cX8_cell 30 = .ok (.iaload, 1) := by decide +kernel
theorem dX8_cell_31 : decode cX8_cell 31 = .ok (.iconst 1, 1) := by decide +kernel
theorem dX8_cell_32 : decode cX8_cell 32 = .ok (.isub, 1) := by decide +kernel
theorem dX8_cell_33 : decode cX8_cell 33 = .ok (.i2l, 1) := by decide +kernel
theorem dX8_cell_34 : decode cX8_cell 34 = .ok (.invokestatic 92, 3) := by decide +kernel
theorem dX8_cell_37 : decode cX8_cell 37 = .ok (.ifCond .ne 6, 3) := by decide +kernel
theorem dX8_cell_40 : decode cX8_cell 40 = .ok (.bipush (-12), 2) := by decide +kernel
theorem dX8_cell_42 : decode cX8_cell 42 = .ok (.ireturn, 1) := by decide +kernel
theorem dX8_cell_43 : decode cX8_cell 43 = .ok (.aload_n 0, 1) := by decide +kernel
theorem dX8_cell_44 : decode cX8_cell 44 = .ok (.getfield 82, 3) := by decide +kernel
theorem dX8_cell_47 : decode cX8_cell 47 = .ok (.bipush 40, 2) := by decide +kernel
theorem dX8_cell_49 : decode cX8_cell 49 = .ok (.iload_n 1, 1) := by decide +kernel
theorem dX8_cell_50 : decode cX8_cell 50 = .ok (.imul, 1) := by decide +kernel
theorem dX8_cell_51 : decode cX8_cell 51 = .ok (.iload_n 2, 1) := by decide +kernel
theorem dX8_cell_52 : decode cX8_cell 52 = .ok (.iadd, 1) := by decide +kernel
theorem dX8_cell_53 : decode cX8_cell 53 = .ok (.aload_n 0, 1) := by decide +kernel
theorem dX8_cell_54 : decode cX8_cell 54 = .ok (.getfield 76, 3) := by decide +kernel
theorem dX8_cell_57 : decode cX8_cell 57 = .ok (.iload_n 1, 1) := by decide +kernel
theorem dX8_cell_58 : decode cX8_cell 58 = .ok (.iaload, 1) := by decide +kernel
theorem dX8_cell_59 : decode cX8_cell 59 = .ok (.ifCond .ne 8, 3) := by decide +kernel
theorem dX8_cell_62 : decode cX8_cell 62 = .ok (.iload_n 3, 1) := by decide +kernel
theorem dX8_cell_63 : decode cX8_cell 63 = .ok (.i2b, 1) := by decide +kernel
theorem dX8_cell_64 : decode cX8_cell 64 = .ok (.goto 19, 3) := by decide +kernel
theorem dX8_cell_67 : decode cX8_cell 67 = .ok (.aload_n 0, 1) := by decide +kernel
theorem dX8_cell_68 : decode cX8_cell 68 = .ok (.getfield 76, 3) := by decide +kernel
theorem dX8_cell_71 : decode cX8_cell 71 = .ok (.iload_n 1, 1) := by decide +kernel
theorem dX8_cell_72 : decode cX8_cell 72 = .ok (.iaload, 1) := by decide +kernel
theorem dX8_cell_73 : decode cX8_cell 73 = .ok (.iconst 1, 1) := by decide +kernel
theorem dX8_cell_74 : decode cX8_cell 74 = .ok (.if_icmp .ne 8, 3) := by decide +kernel
theorem dX8_cell_77 : decode cX8_cell 77 = .ok (.iload_n 3, 1) := by decide +kernel
theorem dX8_cell_78 : decode cX8_cell 78 = .ok (.i2s, 1) := by decide +kernel
theorem dX8_cell_79 : decode cX8_cell 79 = .ok (.goto 4, 3) := by decide +kernel
theorem dX8_cell_82 : decode cX8_cell 82 = .ok (.iload_n 3, 1) := by decide +kernel
theorem dX8_cell_83 : decode cX8_cell 83 = .ok (.iastore, 1) := by decide +kernel
theorem dX8_cell_84 : decode cX8_cell 84 = .ok (.iconst 1, 1) := by decide +kernel
theorem dX8_cell_85 : decode cX8_cell 85 = .ok (.ireturn, 1) := by decide +kernel
theorem dX8_copy_0 : decode cX8_copy 0 = .ok (.iload_n 1, 1) := by decide +kernel
theorem dX8_copy_1 : decode cX8_copy 1 = .ok (.invokestatic 431, 3) := by decide +kernel
theorem dX8_copy_4 : decode cX8_copy 4 = .ok (.ifCond .eq 10, 3) := by decide +kernel
theorem dX8_copy_7 : decode cX8_copy 7 = .ok (.iload_n 3, 1) := by decide +kernel
theorem dX8_copy_8 : decode cX8_copy 8 = .ok (.invokestatic 431, 3) := by decide +kernel
theorem dX8_copy_11 : decode cX8_copy 11 = .ok (.ifCond .ne 6, 3) := by decide +kernel
theorem dX8_copy_14 : decode cX8_copy 14 = .ok (.bipush (-2), 2) := by decide +kernel
theorem dX8_copy_16 : decode cX8_copy 16 = .ok (.ireturn, 1) := by decide +kernel
theorem dX8_copy_17 : decode cX8_copy 17 = .ok (.aload_n 0, 1) := by decide +kernel
theorem dX8_copy_18 : decode cX8_copy 18 = .ok (.getfield 72, 3) := by decide +kernel
theorem dX8_copy_21 : decode cX8_copy 21 = .ok (.iload_n 1, 1) := by decide +kernel
theorem dX8_copy_22 : decode cX8_copy 22 = .ok (.baload, 1) := by decide +kernel
theorem dX8_copy_23 : decode cX8_copy 23 = .ok (.ifCond .eq 12, 3) := by decide +kernel
theorem dX8_copy_26 : decode cX8_copy 26 = .ok (.aload_n 0, 1) := by decide +kernel
theorem dX8_copy_27 : decode cX8_copy 27 = .ok (.getfield 72, 3) := by decide +kernel
theorem dX8_copy_30 : decode cX8_copy 30 = .ok (.iload_n 3, 1) := by decide +kernel
theorem dX8_copy_31 : decode cX8_copy 31 = .ok (.baload, 1) := by decide +kernel
theorem dX8_copy_32 : decode cX8_copy 32 = .ok (.ifCond .ne 6, 3) := by decide +kernel
theorem dX8_copy_35 : decode cX8_copy 35 = .ok (.bipush (-11), 2) := by decide +kernel
theorem dX8_copy_37 : decode cX8_copy 37 = .ok (.ireturn, 1) := by decide +kernel
theorem dX8_copy_38 : decode cX8_copy 38 = .ok (.aload_n 0, 1) := by decide +kernel
theorem dX8_copy_39 : decode cX8_copy 39 = .ok (.getfield 76, 3) := by decide +kernel
theorem dX8_copy_42 : decode cX8_copy 42 = .ok (.iload_n 1, 1) := by decide +kernel
theorem dX8_copy_43 : decode cX8_copy 43 = .ok (.iaload, 1) := by decide +kernel
theorem dX8_copy_44 : decode cX8_copy 44 = .ok (.aload_n 0, 1) := by decide +kernel
theorem dX8_copy_45 : decode cX8_copy 45 = .ok (.getfield 76, 3) := by decide +kernel
theorem dX8_copy_48 : decode cX8_copy 48 = .ok (.iload_n 3, 1) := by decide +kernel
theorem dX8_copy_49 : decode cX8_copy 49 = .ok (.iaload, 1) := by decide +kernel
theorem dX8_copy_50 : decode cX8_copy 50 = .ok (.if_icmp .eq 6, 3) := by decide +kernel
theorem dX8_copy_53 : decode cX8_copy 53 = .ok (.bipush (-13), 2) := by decide +kernel
theorem dX8_copy_55 : decode cX8_copy 55 = .ok (.ireturn, 1) := by decide +kernel
theorem dX8_copy_56 : decode cX8_copy 56 = .ok (.iload 5, 2) := by decide +kernel
theorem dX8_copy_58 : decode cX8_copy 58 = .ok (.ifCond .lt 39, 3) := by decide +kernel
theorem dX8_copy_61 : decode cX8_copy 61 = .ok (.iload_n 2, 1) := by decide +kernel
theorem dX8_copy_62 : decode cX8_copy 62 = .ok (.ifCond .lt 35, 3) := by decide +kernel
theorem dX8_copy_65 : decode cX8_copy 65 = .ok (.iload 4, 2) := by decide +kernel
theorem dX8_copy_67 : decode cX8_copy 67 = .ok (.ifCond .lt 30, 3) := by decide +kernel
theorem dX8_copy_70 : decode cX8_copy 70 = .ok (.iload_n 2, 1) := by decide +kernel
theorem dX8_copy_71 : decode cX8_copy 71 = .ok (.aload_n 0, 1) := by decide +kernel
theorem dX8_copy_72 : decode cX8_copy 72 = .ok (.getfield 79, 3) := by decide +kernel
theorem dX8_copy_75 : decode cX8_copy 75 = .ok (.iload_n 1, 1) := by decide +kernel
theorem dX8_copy_76 : decode cX8_copy 76 = .ok (.iaload, 1) := by decide +kernel
theorem dX8_copy_77 : decode cX8_copy 77 = .ok (.iload 5, 2) := by decide +kernel
theorem dX8_copy_79 : decode cX8_copy 79 = .ok (.isub, 1) := by decide +kernel
theorem dX8_copy_80 : decode cX8_copy 80 = .ok (.if_icmp .gt 17, 3) := by decide +kernel
theorem dX8_copy_83 : decode cX8_copy 83 = .ok (.iload 4, 2) := by decide +kernel
theorem dX8_copy_85 : decode cX8_copy 85 = .ok (.aload_n 0, 1) := by decide +kernel
theorem dX8_copy_86 : decode cX8_copy 86 = .ok (.getfield 79, 3) := by decide +kernel
theorem dX8_copy_89 : decode cX8_copy 89 = .ok (.iload_n 3, 1) := by decide +kernel
theorem dX8_copy_90 : decode cX8_copy 90 = .ok (.iaload, 1) := by decide +kernel
theorem dX8_copy_91 : decode cX8_copy 91 = .ok (.iload 5, 2) := by decide +kernel
theorem dX8_copy_93 : decode cX8_copy 93 = .ok (.isub, 1) := by decide +kernel
theorem dX8_copy_94 : decode cX8_copy 94 = .ok (.if_icmp .le 6, 3) := by decide +kernel
theorem dX8_copy_97 : decode cX8_copy 97 = .ok (.bipush (-12), 2) := by decide +kernel
theorem dX8_copy_99 : decode cX8_copy 99 = .ok (.ireturn, 1) := by decide +kernel
theorem dX8_copy_100 : decode cX8_copy 100 = .ok (.iload_n 1, 1) := by decide +kernel
theorem dX8_copy_101 : decode cX8_copy 101 = .ok (.iload_n 3, 1) := by decide +kernel
theorem dX8_copy_102 : decode cX8_copy 102 = .ok (.if_icmp .ne 13, 3) := by decide +kernel
theorem dX8_copy_105 : decode cX8_copy 105 = .ok (.iload_n 2, 1) := by decide +kernel
theorem dX8_copy_106 : decode cX8_copy 106 = .ok (.iload 4, 2) := by decide +kernel
theorem dX8_copy_108 : decode cX8_copy 108 = .ok (.if_icmp .ge 7, 3) := by decide +kernel
theorem dX8_copy_111 : decode cX8_copy 111 = .ok (.iconst 1, 1) := by decide +kernel
theorem dX8_copy_112 : decode cX8_copy 112 = .ok (.goto 4, 3) := by decide +kernel
theorem dX8_copy_115 : decode cX8_copy 115 = .ok (.iconst 0, 1) := by decide +kernel
theorem dX8_copy_116 : decode cX8_copy 116 = .ok (.istore 6, 2) := by decide +kernel
theorem dX8_copy_118 : decode cX8_copy 118 = .ok (.iconst 0, 1) := by decide +kernel
theorem dX8_copy_119 : decode cX8_copy 119 = .ok (.istore 7, 2) := by decide +kernel
theorem dX8_copy_121 : decode cX8_copy 121 = .ok (.iload 7, 2) := by decide +kernel
theorem dX8_copy_123 : decode cX8_copy 123 = .ok (.iload 5, 2) := by decide +kernel
theorem dX8_copy_125 : decode cX8_copy 125 = .ok (.if_icmp .ge 57, 3) := by decide +kernel
theorem dX8_copy_128 : decode cX8_copy 128 = .ok (.iload 6, 2) := by decide +kernel
theorem dX8_copy_130 : decode cX8_copy 130 = .ok (.ifCond .eq 13, 3) := by decide +kernel
theorem dX8_copy_133 : decode cX8_copy 133 = .ok (.iload 5, 2) := by decide +kernel
theorem dX8_copy_135 : decode cX8_copy 135 = .ok (.iconst 1, 1) := by decide +kernel
theorem dX8_copy_136 : decode cX8_copy 136 = .ok (.isub, 1) := by decide +kernel
theorem dX8_copy_137 : decode cX8_copy 137 = .ok (.iload 7, 2) := by decide +kernel
theorem dX8_copy_139 : decode cX8_copy 139 = .ok (.isub, 1) := by decide +kernel
theorem dX8_copy_140 : decode cX8_copy 140 = .ok (.goto 5, 3) := by decide +kernel
theorem dX8_copy_143 : decode cX8_copy 143 = .ok (.iload 7, 2) := by decide +kernel
theorem dX8_copy_145 : decode cX8_copy 145 = .ok (.istore 8, 2) := by decide +kernel
theorem dX8_copy_147 : decode cX8_copy 147 = .ok (.aload_n 0, 1) := by decide +kernel
theorem dX8_copy_148 : decode cX8_copy 148 = .ok (.getfield 82, 3) := by decide +kernel
theorem dX8_copy_151 : decode cX8_copy 151 = .ok (.bipush 40, 2) := by decide +kernel
theorem dX8_copy_153 : decode cX8_copy 153 = .ok (.iload_n 3, 1) := by decide +kernel
theorem dX8_copy_154 : decode cX8_copy 154 = .ok (.imul, 1) := by decide +kernel
theorem dX8_copy_155 : decode cX8_copy 155 = .ok (.iload 4, 2) := by decide +kernel
theorem dX8_copy_157 : decode cX8_copy 157 = .ok (.iadd, 1) := by decide +kernel
theorem dX8_copy_158 : decode cX8_copy 158 = .ok (.iload 8, 2) := by decide +kernel
theorem dX8_copy_160 : decode cX8_copy 160 = .ok (.iadd, 1) := by decide +kernel
theorem dX8_copy_161 : decode cX8_copy 161 = .ok (.aload_n 0, 1) := by decide +kernel
theorem dX8_copy_162 : decode cX8_copy 162 = .ok (.getfield 82, 3) := by decide +kernel
theorem dX8_copy_165 : decode cX8_copy 165 = .ok (.bipush 40, 2) := by decide +kernel
theorem dX8_copy_167 : decode cX8_copy 167 = .ok (.iload_n 1, 1) := by decide +kernel
theorem dX8_copy_168 : decode cX8_copy 168 = .ok (.imul, 1) := by decide +kernel
theorem dX8_copy_169 : decode cX8_copy 169 = .ok (.iload_n 2, 1) := by decide +kernel
theorem dX8_copy_170 : decode cX8_copy 170 = .ok (.iadd, 1) := by decide +kernel
theorem dX8_copy_171 : decode cX8_copy 171 = .ok (.iload 8, 2) := by decide +kernel
theorem dX8_copy_173 : decode cX8_copy 173 = .ok (.iadd, 1) := by decide +kernel
theorem dX8_copy_174 : decode cX8_copy 174 = .ok (.iaload, 1) := by decide +kernel
theorem dX8_copy_175 : decode cX8_copy 175 = .ok (.iastore, 1) := by decide +kernel
theorem dX8_copy_176 : decode cX8_copy 176 = .ok (.iinc 7 1, 3) := by decide +kernel
theorem dX8_copy_179 : decode cX8_copy 179 = .ok (.goto (-58), 3) := by decide +kernel
theorem dX8_copy_182 : decode cX8_copy 182 = .ok (.iload 5, 2) := by decide +kernel
theorem dX8_copy_184 : decode cX8_copy 184 = .ok (.ireturn, 1) := by decide +kernel
theorem dX8_comes_0 : decode cX8_comes 0 = .ok (.iload_n 1, 1) := by decide +kernel
theorem dX8_comes_1 : decode cX8_comes 1 = .ok (.invokestatic 431, 3) := by decide +kernel
theorem dX8_comes_4 : decode cX8_comes 4 = .ok (.ifCond .eq 28, 3) := by decide +kernel
theorem dX8_comes_7 : decode cX8_comes 7 = .ok (.iload_n 2, 1) := by decide +kernel
theorem dX8_comes_8 : decode cX8_comes 8 = .ok (.i2l, 1) := by decide +kernel
theorem dX8_comes_9 : decode cX8_comes 9 = .ok (.lconst 0, 1) := by decide +kernel
theorem dX8_comes_10 : decode cX8_comes 10 = .ok (.ldc2_w 104, 3) := by decide +kernel
theorem dX8_comes_13 : decode cX8_comes 13 = .ok (.invokestatic 92, 3) := by decide +kernel
theorem dX8_comes_16 : decode cX8_comes 16 = .ok (.ifCond .eq 16, 3) := by decide +kernel
theorem dX8_comes_19 : decode cX8_comes 19 = .ok (.iload 4, 2) := by decide +kernel
theorem dX8_comes_21 : decode cX8_comes 21 = .ok (.i2l, 1) := by decide +kernel
theorem dX8_comes_22 : decode cX8_comes 22 = .ok (.lconst 0, 1) := by decide +kernel
theorem dX8_comes_23 : decode cX8_comes 23 = .ok (.ldc2_w 459, 3) := by decide +kernel
theorem dX8_comes_26 : decode cX8_comes 26 = .ok (.invokestatic 92, 3) := by decide +kernel
theorem dX8_comes_29 : decode cX8_comes 29 = .ok (.ifCond .ne 6, 3) := by decide +kernel
theorem dX8_comes_32 : decode cX8_comes 32 = .ok (.bipush (-2), 2) := by decide +kernel
theorem dX8_comes_34 : decode cX8_comes 34 = .ok (.ireturn, 1) := by decide +kernel
theorem dX8_comes_35 : decode cX8_comes 35 = .ok (.aload_n 0, 1) := by decide +kernel
theorem dX8_comes_36 : decode cX8_comes 36 = .ok (.getfield 72, 3) := by decide +kernel
theorem dX8_comes_39 : decode cX8_comes 39 = .ok (.iload_n 1, 1) := by decide +kernel
theorem dX8_comes_40 : decode cX8_comes 40 = .ok (.baload, 1) := by decide +kernel
theorem dX8_comes_41 : decode cX8_comes 41 = .ok (.ifCond .eq 16, 3) := by decide +kernel
theorem dX8_comes_44 : decode cX8_comes 44 = .ok (.aload_n 0, 1) := by decide +kernel
theorem dX8_comes_45 : decode cX8_comes 45 = .ok (.getfield 76, 3) := by decide +kernel
theorem dX8_comes_48 : decode cX8_comes 48 = .ok (.iload_n 1, 1) := by decide +kernel
theorem dX8_comes_49 : decode cX8_comes 49 = .ok (.iaload, 1) := by decide +kernel
theorem dX8_comes_50 : decode cX8_comes 50 = .ok (.iload_n 2, 1) := by decide +kernel
theorem dX8_comes_51 : decode cX8_comes 51 = .ok (.if_icmp .eq 6, 3) := by decide +kernel
theorem dX8_comes_54 : decode cX8_comes 54 = .ok (.bipush (-13), 2) := by decide +kernel
theorem dX8_comes_56 : decode cX8_comes 56 = .ok (.ireturn, 1) := by decide +kernel
theorem dX8_comes_57 : decode cX8_comes 57 = .ok (.aload_n 0, 1) := by decide +kernel
theorem dX8_comes_58 : decode cX8_comes 58 = .ok (.getfield 72, 3) := by decide +kernel
theorem dX8_comes_61 : decode cX8_comes 61 = .ok (.iload_n 1, 1) := by decide +kernel
theorem dX8_comes_62 : decode cX8_comes 62 = .ok (.baload, 1) := by decide +kernel
theorem dX8_comes_63 : decode cX8_comes 63 = .ok (.ifCond .ne 6, 3) := by decide +kernel
theorem dX8_comes_66 : decode cX8_comes 66 = .ok (.bipush (-11), 2) := by decide +kernel
theorem dX8_comes_68 : decode cX8_comes 68 = .ok (.ireturn, 1) := by decide +kernel
theorem dX8_comes_69 : decode cX8_comes 69 = .ok (.iconst 0, 1) := by decide +kernel
theorem dX8_comes_70 : decode cX8_comes 70 = .ok (.istore 5, 2) := by decide +kernel
theorem dX8_comes_72 : decode cX8_comes 72 = .ok (.iconst 0, 1) := by decide +kernel
theorem dX8_comes_73 : decode cX8_comes 73 = .ok (.istore 6, 2) := by decide +kernel
theorem dX8_comes_75 : decode cX8_comes 75 = .ok (.iload 6, 2) := by decide +kernel
theorem dX8_comes_77 : decode cX8_comes 77 = .ok (.iload 4, 2) := by decide +kernel
theorem dX8_comes_79 : decode cX8_comes 79 = .ok (.if_icmp .ge 88, 3) := by decide +kernel
theorem dX8_comes_82 : decode cX8_comes 82 = .ok (.iload_n 3, 1) := by decide +kernel
theorem dX8_comes_83 : decode cX8_comes 83 = .ok (.ifCond .lt 20, 3) := by decide +kernel
theorem dX8_comes_86 : decode cX8_comes 86 = .ok (.iload_n 3, 1) := by decide +kernel
theorem dX8_comes_87 : decode cX8_comes 87 = .ok (.aload_n 0, 1) := by decide +kernel
theorem dX8_comes_88 : decode cX8_comes 88 = .ok (.getfield 79, 3) := by decide +kernel
theorem dX8_comes_91 : decode cX8_comes 91 = .ok (.iload_n 1, 1) := by decide +kernel
theorem dX8_comes_92 : decode cX8_comes 92 = .ok (.iaload, 1) := by decide +kernel
theorem dX8_comes_93 : decode cX8_comes 93 = .ok (.iconst 3, 1) := by decide +kernel
theorem dX8_comes_94 : decode cX8_comes 94 = .ok (.iload 6, 2) := by decide +kernel
theorem dX8_comes_96 : decode cX8_comes 96 = .ok (.imul, 1) := by decide +kernel
theorem dX8_comes_97 : decode cX8_comes 97 = .ok (.isub, 1) := by decide +kernel
theorem dX8_comes_98 : decode cX8_comes 98 = .ok (.iconst 3, 1) := by decide +kernel
theorem dX8_comes_99 : decode cX8_comes 99 = .ok (.isub, 1) := by decide +kernel
theorem dX8_comes_100 : decode cX8_comes 100 = .ok (.if_icmp .le 6, 3) := by decide +kernel
theorem dX8_comes_103 : decode cX8_comes 103 = .ok (.bipush (-12), 2) := by decide +kernel
theorem dX8_comes_105 : decode cX8_comes 105 = .ok (.ireturn, 1) := by decide +kernel
theorem dX8_comes_106 : decode cX8_comes 106 = .ok (.bipush 40, 2) := by decide +kernel
theorem dX8_comes_108 : decode cX8_comes 108 = .ok (.iload_n 1, 1) := by decide +kernel
theorem dX8_comes_109 : decode cX8_comes 109 = .ok (.imul, 1) := by decide +kernel
theorem dX8_comes_110 : decode cX8_comes 110 = .ok (.iload_n 3, 1) := by decide +kernel
theorem dX8_comes_111 : decode cX8_comes 111 = .ok (.iadd, 1) := by decide +kernel
theorem dX8_comes_112 : decode cX8_comes 112 = .ok (.iconst 3, 1) := by decide +kernel
theorem dX8_comes_113 : decode cX8_comes 113 = .ok (.iload 6, 2) := by decide +kernel
theorem dX8_comes_115 : decode cX8_comes 115 = .ok (.imul, 1) := by decide +kernel
theorem dX8_comes_116 : decode cX8_comes 116 = .ok (.iadd, 1) := by decide +kernel
theorem dX8_comes_117 : decode cX8_comes 117 = .ok (.istore 7, 2) := by decide +kernel
theorem dX8_comes_119 : decode cX8_comes 119 = .ok (.iload 5, 2) := by decide +kernel
theorem dX8_comes_121 : decode cX8_comes 121 = .ok (.aload_n 0, 1) := by decide +kernel
theorem dX8_comes_122 : decode cX8_comes 122 = .ok (.aload_n 0, 1) := by decide +kernel
theorem dX8_comes_123 : decode cX8_comes 123 = .ok (.getfield 82, 3) := by decide +kernel
theorem dX8_comes_126 : decode cX8_comes 126 = .ok (.iload 7, 2) := by decide +kernel
theorem dX8_comes_128 : decode cX8_comes 128 = .ok (.iaload, 1) := by decide +kernel
theorem dX8_comes_129 : decode cX8_comes 129 = .ok (.aload_n 0, 1) := by decide +kernel
theorem dX8_comes_130 : decode cX8_comes 130 = .ok (.getfield 82, 3) := by decide +kernel
theorem dX8_comes_133 : decode cX8_comes 133 = .ok (.iload 7, 2) := by decide +kernel
theorem dX8_comes_135 : decode cX8_comes 135 = .ok (.iconst 1, 1) := by decide +kernel
theorem dX8_comes_136 : decode cX8_comes 136 = .ok (.iadd, 1) := by decide +kernel
theorem dX8_comes_137 : decode cX8_comes 137 = .ok (.iaload, 1) := by decide +kernel
theorem dX8_comes_138 : decode cX8_comes 138 = .ok (.aload_n 0, 1) := by decide +kernel
theorem dX8_comes_139 : decode cX8_comes 139 = .ok (.getfield 82, 3) := by decide +kernel
theorem dX8_comes_142 : decode cX8_comes 142 = .ok (.iload 7, 2) := by decide +kernel
theorem dX8_comes_144 : decode cX8_comes 144 = .ok (.iconst 2, 1) := by decide +kernel
theorem dX8_comes_145 : decode cX8_comes 145 = .ok (.iadd, 1) := by decide +kernel
theorem dX8_comes_146 : decode cX8_comes 146 = .ok (.iaload, 1) := by decide +kernel
theorem dX8_comes_147 : decode cX8_comes 147 = .ok (.invokevirtual 461, 3) := by decide +kernel
theorem dX8_comes_150 : decode cX8_comes 150 = .ok (.ifCond .lt 7, 3) := by decide +kernel
theorem dX8_comes_153 : decode cX8_comes 153 = .ok (.iconst 1, 1) := by decide +kernel
theorem dX8_comes_154 : decode cX8_comes 154 = .ok (.goto 4, 3) := by decide +kernel
theorem dX8_comes_157 : decode cX8_comes 157 = .ok (.iconst 0, 1) := by decide +kernel
theorem dX8_comes_158 : decode cX8_comes 158 = .ok (.iadd, 1) := by decide +kernel
theorem dX8_comes_159 : decode cX8_comes 159 = .ok (.istore 5, 2) := by decide +kernel
theorem dX8_comes_161 : decode cX8_comes 161 = .ok (.iinc 6 1, 3) := by decide +kernel
theorem dX8_comes_164 : decode cX8_comes 164 = .ok (.goto (-89), 3) := by decide +kernel
theorem dX8_comes_167 : decode cX8_comes 167 = .ok (.iload 5, 2) := by decide +kernel
theorem dX8_comes_169 : decode cX8_comes 169 = .ok (.ireturn, 1) := by decide +kernel
theorem dX8_over_0 : decode cX8_over 0 = .ok (.iload_n 0, 1) := by decide +kernel
theorem dX8_over_1 : decode cX8_over 1 = .ok (.ifCond .ne 7, 3) := by decide +kernel
theorem dX8_over_4 : decode cX8_over 4 = .ok (.iconst (-1), 1) := by decide +kernel
theorem dX8_over_5 : decode cX8_over 5 = .ok (.goto 27, 3) := by decide +kernel
theorem dX8_over_8 : decode cX8_over 8 = .ok (.iload_n 0, 1) := by decide +kernel
theorem dX8_over_9 : decode cX8_over 9 = .ok (.iconst 1, 1) := by decide +kernel
theorem dX8_over_10 : decode cX8_over 10 = .ok (.if_icmp .eq 8, 3) := by decide +kernel
theorem dX8_over_13 : decode cX8_over 13 = .ok (.iload_n 0, 1) := by decide +kernel
theorem dX8_over_14 : decode cX8_over 14 = .ok (.iconst 2, 1) := by decide +kernel
theorem dX8_over_15 : decode cX8_over 15 = .ok (.if_icmp .ne 7, 3) := by decide +kernel
theorem dX8_over_18 : decode cX8_over 18 = .ok (.iconst 0, 1) := by decide +kernel
theorem dX8_over_19 : decode cX8_over 19 = .ok (.goto 13, 3) := by decide +kernel
theorem dX8_over_22 : decode cX8_over 22 = .ok (.iload_n 0, 1) := by decide +kernel
theorem dX8_over_23 : decode cX8_over 23 = .ok (.iconst 4, 1) := by decide +kernel
theorem dX8_over_24 : decode cX8_over 24 = .ok (.if_icmp .ne 7, 3) := by decide +kernel
theorem dX8_over_27 : decode cX8_over 27 = .ok (.iconst 2, 1) := by decide +kernel
theorem dX8_over_28 : decode cX8_over 28 = .ok (.goto 4, 3) := by decide +kernel
theorem dX8_over_31 : decode cX8_over 31 = .ok (.iconst 1, 1) := by decide +kernel
theorem dX8_over_32 : decode cX8_over 32 = .ok (.ireturn, 1) := by decide +kernel
theorem dX8_taken_0 : decode cX8_taken 0 = .ok (.iload_n 2, 1) := by decide +kernel
theorem dX8_taken_1 : decode cX8_taken 1 = .ok (.i2l, 1) := by decide +kernel
theorem dX8_taken_2 : decode cX8_taken 2 = .ok (.lconst 0, 1) := by decide +kernel
theorem dX8_taken_3 : decode cX8_taken 3 = .ok (.ldc2_w 119, 3) := by decide +kernel
theorem dX8_taken_6 : decode cX8_taken 6 = .ok (.invokestatic 92, 3) := by decide +kernel
theorem dX8_taken_9 : decode cX8_taken 9 = .ok (.ifCond .ne 6, 3) := by decide +kernel
theorem dX8_taken_12 : decode cX8_taken 12 = .ok (.bipush (-2), 2) := by decide +kernel
theorem dX8_taken_14 : decode cX8_taken 14 = .ok (.ireturn, 1) := by decide +kernel
theorem dX8_taken_15 : decode cX8_taken 15 = .ok (.iload_n 1, 1) := by decide +kernel
theorem dX8_taken_16 : decode cX8_taken 16 = .ok (.i2l, 1) := by decide +kernel
theorem dX8_taken_17 : decode cX8_taken 17 = .ok (.lconst 0, 1) := by decide +kernel
theorem dX8_taken_18 : decode cX8_taken 18 = .ok (.aload_n 0, 1) := by decide +kernel
theorem dX8_taken_19 : decode cX8_taken 19 = .ok (.getfield 114, 3) := by decide +kernel
theorem dX8_taken_22 : decode cX8_taken 22 = .ok (.iconst 1, 1) := by decide +kernel
theorem dX8_taken_23 : decode cX8_taken 23 = .ok (.isub, 1) := by decide +kernel
theorem dX8_taken_24 : decode cX8_taken 24 = .ok (.i2l, 1) := by decide +kernel
theorem dX8_taken_25 : decode cX8_taken 25 = .ok (.invokestatic 92, 3) := by decide +kernel
theorem dX8_taken_28 : decode cX8_taken 28 = .ok (.ifCond .ne 6, 3) := by decide +kernel
theorem dX8_taken_31 : decode cX8_taken 31 = .ok (.bipush (-11), 2) := by decide +kernel
theorem dX8_taken_33 : decode cX8_taken 33 = .ok (.ireturn, 1) := by decide +kernel
theorem dX8_taken_34 : decode cX8_taken 34 = .ok (.aload_n 0, 1) := by decide +kernel
theorem dX8_taken_35 : decode cX8_taken 35 = .ok (.getfield 38, 3) := by decide +kernel
theorem dX8_taken_38 : decode cX8_taken 38 = .ok (.iload_n 1, 1) := by decide +kernel
theorem dX8_taken_39 : decode cX8_taken 39 = .ok (.iaload, 1) := by decide +kernel
theorem dX8_taken_40 : decode cX8_taken 40 = .ok (.istore_n 3, 1) := by decide +kernel
theorem dX8_taken_41 : decode cX8_taken 41 = .ok (.iload_n 3, 1) := by decide +kernel
theorem dX8_taken_42 : decode cX8_taken 42 = .ok (.iconst (-1), 1) := by decide +kernel
theorem dX8_taken_43 : decode cX8_taken 43 = .ok (.if_icmp .eq 16, 3) := by decide +kernel
theorem dX8_taken_46 : decode cX8_taken 46 = .ok (.iload_n 3, 1) := by decide +kernel
theorem dX8_taken_47 : decode cX8_taken 47 = .ok (.iload_n 2, 1) := by decide +kernel
theorem dX8_taken_48 : decode cX8_taken 48 = .ok (.if_icmp .eq 11, 3) := by decide +kernel
theorem dX8_taken_51 : decode cX8_taken 51 = .ok (.iload_n 3, 1) := by decide +kernel
theorem dX8_taken_52 : decode cX8_taken 52 = .ok (.invokestatic 464, 3) := by decide +kernel
theorem dX8_taken_55 : decode cX8_taken 55 = .ok (.istore_n 3, 1) := by decide +kernel
theorem dX8_taken_56 : decode cX8_taken 56 = .ok (.goto (-15), 3) := by decide +kernel
theorem dX8_taken_59 : decode cX8_taken 59 = .ok (.iload_n 3, 1) := by decide +kernel
theorem dX8_taken_60 : decode cX8_taken 60 = .ok (.iload_n 2, 1) := by decide +kernel
theorem dX8_taken_61 : decode cX8_taken 61 = .ok (.if_icmp .ne 12, 3) := by decide +kernel
theorem dX8_taken_64 : decode cX8_taken 64 = .ok (.aload_n 0, 1) := by decide +kernel
theorem dX8_taken_65 : decode cX8_taken 65 = .ok (.getfield 41, 3) := by decide +kernel
theorem dX8_taken_68 : decode cX8_taken 68 = .ok (.iload_n 1, 1) := by decide +kernel
theorem dX8_taken_69 : decode cX8_taken 69 = .ok (.iaload, 1) := by decide +kernel
theorem dX8_taken_70 : decode cX8_taken 70 = .ok (.goto 5, 3) := by decide +kernel
theorem dX8_taken_73 : decode cX8_taken 73 = .ok (.bipush (-13), 2) := by decide +kernel
theorem dX8_taken_75 : decode cX8_taken 75 = .ok (.ireturn, 1) := by decide +kernel

theorem dX8_in_0 : decode cX8_in 0 = .ok (.lload_n 0, 1) := by decide +kernel
theorem dX8_in_1 : decode cX8_in 1 = .ok (.lload_n 2, 1) := by decide +kernel
theorem dX8_in_2 : decode cX8_in 2 = .ok (.lcmp, 1) := by decide +kernel
theorem dX8_in_3 : decode cX8_in 3 = .ok (.ifCond .lt 14, 3) := by decide +kernel
theorem dX8_in_6 : decode cX8_in 6 = .ok (.lload_n 0, 1) := by decide +kernel
theorem dX8_in_7 : decode cX8_in 7 = .ok (.lload 4, 2) := by decide +kernel
theorem dX8_in_9 : decode cX8_in 9 = .ok (.lcmp, 1) := by decide +kernel
theorem dX8_in_10 : decode cX8_in 10 = .ok (.ifCond .gt 7, 3) := by decide +kernel
theorem dX8_in_13 : decode cX8_in 13 = .ok (.iconst 1, 1) := by decide +kernel
theorem dX8_in_14 : decode cX8_in 14 = .ok (.goto 4, 3) := by decide +kernel
theorem dX8_in_17 : decode cX8_in 17 = .ok (.iconst 0, 1) := by decide +kernel
theorem dX8_in_18 : decode cX8_in 18 = .ok (.ireturn, 1) := by decide +kernel
theorem dX8_within_0 : decode cX8_within 0 = .ok (.iload_n 0, 1) := by decide +kernel
theorem dX8_within_1 : decode cX8_within 1 = .ok (.iload_n 1, 1) := by decide +kernel
theorem dX8_within_2 : decode cX8_within 2 = .ok (.if_icmp .ge 7, 3) := by decide +kernel
theorem dX8_within_5 : decode cX8_within 5 = .ok (.iload_n 1, 1) := by decide +kernel
theorem dX8_within_6 : decode cX8_within 6 = .ok (.goto 13, 3) := by decide +kernel
theorem dX8_within_9 : decode cX8_within 9 = .ok (.iload_n 0, 1) := by decide +kernel
theorem dX8_within_10 : decode cX8_within 10 = .ok (.iload_n 2, 1) := by decide +kernel
theorem dX8_within_11 : decode cX8_within 11 = .ok (.if_icmp .le 7, 3) := by decide +kernel
theorem dX8_within_14 : decode cX8_within 14 = .ok (.iload_n 2, 1) := by decide +kernel
theorem dX8_within_15 : decode cX8_within 15 = .ok (.goto 4, 3) := by decide +kernel
theorem dX8_within_18 : decode cX8_within 18 = .ok (.iload_n 0, 1) := by decide +kernel
theorem dX8_within_19 : decode cX8_within 19 = .ok (.ireturn, 1) := by decide +kernel
theorem dX8_init_0 : decode cX8_init 0 = .ok (.aload_n 0, 1) := by decide +kernel
theorem dX8_init_1 : decode cX8_init 1 = .ok (.invokespecial 7, 3) := by decide +kernel
theorem dX8_init_4 : decode cX8_init 4 = .ok (.aload_n 0, 1) := by decide +kernel
theorem dX8_init_5 : decode cX8_init 5 = .ok (.sipush 960, 3) := by decide +kernel
theorem dX8_init_8 : decode cX8_init 8 = .ok (.newarray .int, 2) := by decide +kernel
theorem dX8_init_10 : decode cX8_init 10 = .ok (.putfield 13, 3) := by decide +kernel
theorem dX8_init_13 : decode cX8_init 13 = .ok (.aload_n 0, 1) := by decide +kernel
theorem dX8_init_14 : decode cX8_init 14 = .ok (.bipush 6, 2) := by decide +kernel
theorem dX8_init_16 : decode cX8_init 16 = .ok (.newarray .int, 2) := by decide +kernel
theorem dX8_init_18 : decode cX8_init 18 = .ok (.putfield 17, 3) := by decide +kernel
theorem dX8_init_21 : decode cX8_init 21 = .ok (.aload_n 0, 1) := by decide +kernel
theorem dX8_init_22 : decode cX8_init 22 = .ok (.sipush 160, 3) := by decide +kernel
theorem dX8_init_25 : decode cX8_init 25 = .ok (.newarray .int, 2) := by decide +kernel
theorem dX8_init_27 : decode cX8_init 27 = .ok (.putfield 20, 3) := by decide +kernel
theorem dX8_init_30 : decode cX8_init 30 = .ok (.aload_n 0, 1) := by decide +kernel
theorem dX8_init_31 : decode cX8_init 31 = .ok (.bipush 8, 2) := by decide +kernel
theorem dX8_init_33 : decode cX8_init 33 = .ok (.newarray .int, 2) := by decide +kernel
theorem dX8_init_35 : decode cX8_init 35 = .ok (.putfield 23, 3) := by decide +kernel
theorem dX8_init_38 : decode cX8_init 38 = .ok (.aload_n 0, 1) := by decide +kernel
theorem dX8_init_39 : decode cX8_init 39 = .ok (.bipush 8, 2) := by decide +kernel
theorem dX8_init_41 : decode cX8_init 41 = .ok (.newarray .int, 2) := by decide +kernel
theorem dX8_init_43 : decode cX8_init 43 = .ok (.putfield 26, 3) := by decide +kernel
theorem dX8_init_46 : decode cX8_init 46 = .ok (.aload_n 0, 1) := by decide +kernel
theorem dX8_init_47 : decode cX8_init 47 = .ok (.bipush 8, 2) := by decide +kernel
theorem dX8_init_49 : decode cX8_init 49 = .ok (.newarray .int, 2) := by decide +kernel
theorem dX8_init_51 : decode cX8_init 51 = .ok (.putfield 29, 3) := by decide +kernel
theorem dX8_init_54 : decode cX8_init 54 = .ok (.aload_n 0, 1) := by decide +kernel
theorem dX8_init_55 : decode cX8_init 55 = .ok (.iconst 1, 1) := by decide +kernel
theorem dX8_init_56 : decode cX8_init 56 = .ok (.putfield 32, 3) := by decide +kernel
theorem dX8_init_59 : decode cX8_init 59 = .ok (.aload_n 0, 1) := by decide +kernel
theorem dX8_init_60 : decode cX8_init 60 = .ok (.iconst 3, 1) := by decide +kernel
theorem dX8_init_61 : decode cX8_init 61 = .ok (.putfield 35, 3) := by decide +kernel
theorem dX8_init_64 : decode cX8_init 64 = .ok (.aload_n 0, 1) := by decide +kernel
theorem dX8_init_65 : decode cX8_init 65 = .ok (.iconst 4, 1) := by decide +kernel
theorem dX8_init_66 : decode cX8_init 66 = .ok (.newarray .int, 2) := by decide +kernel
theorem dX8_init_68 : decode cX8_init 68 = .ok (.putfield 38, 3) := by decide +kernel
theorem dX8_init_71 : decode cX8_init 71 = .ok (.aload_n 0, 1) := by decide +kernel
theorem dX8_init_72 : decode cX8_init 72 = .ok (.iconst 4, 1) := by decide +kernel
theorem dX8_init_73 : decode cX8_init 73 = .ok (.newarray .int, 2) := by decide +kernel
theorem dX8_init_75 : decode cX8_init 75 = .ok (.putfield 41, 3) := by decide +kernel
theorem dX8_init_78 : decode cX8_init 78 = .ok (.aload_n 0, 1) := by decide +kernel
theorem dX8_init_79 : decode cX8_init 79 = .ok (.bipush 24, 2) := by decide +kernel
theorem dX8_init_81 : decode cX8_init 81 = .ok (.newarray .int, 2) := by decide +kernel
theorem dX8_init_83 : decode cX8_init 83 = .ok (.putfield 44, 3) := by decide +kernel
theorem dX8_init_86 : decode cX8_init 86 = .ok (.aload_n 0, 1) := by decide +kernel
theorem dX8_init_87 : decode cX8_init 87 = .ok (.bipush 24, 2) := by decide +kernel
theorem dX8_init_89 : decode cX8_init 89 = .ok (.newarray .int, 2) := by decide +kernel
theorem dX8_init_91 : decode cX8_init 91 = .ok (.putfield 47, 3) := by decide +kernel
theorem dX8_init_94 : decode cX8_init 94 = .ok (.aload_n 0, 1) := by decide +kernel
theorem dX8_init_95 : decode cX8_init 95 = .ok (.ldc 50, 2) := by decide +kernel
theorem dX8_init_97 : decode cX8_init 97 = .ok (.newarray .int, 2) := by decide +kernel
theorem dX8_init_99 : decode cX8_init 99 = .ok (.putfield 51, 3) := by decide +kernel
theorem dX8_init_102 : decode cX8_init 102 = .ok (.aload_n 0, 1) := by decide +kernel
theorem dX8_init_103 : decode cX8_init 103 = .ok (.sipush 200, 3) := by decide +kernel
theorem dX8_init_106 : decode cX8_init 106 = .ok (.newarray .int, 2) := by decide +kernel
theorem dX8_init_108 : decode cX8_init 108 = .ok (.putfield 54, 3) := by decide +kernel
theorem dX8_init_111 : decode cX8_init 111 = .ok (.aload_n 0, 1) := by decide +kernel
theorem dX8_init_112 : decode cX8_init 112 = .ok (.sipush 216, 3) := by decide +kernel
theorem dX8_init_115 : decode cX8_init 115 = .ok (.newarray .int, 2) := by decide +kernel
theorem dX8_init_117 : decode cX8_init 117 = .ok (.putfield 57, 3) := by decide +kernel
theorem dX8_init_120 : decode cX8_init 120 = .ok (.aload_n 0, 1) := by decide +kernel
theorem dX8_init_121 : decode cX8_init 121 = .ok (.bipush 24, 2) := by decide +kernel
theorem dX8_init_123 : decode cX8_init 123 = .ok (.newarray .int, 2) := by decide +kernel
theorem dX8_init_125 : decode cX8_init 125 = .ok (.putfield 60, 3) := by decide +kernel
theorem dX8_init_128 : decode cX8_init 128 = .ok (.aload_n 0, 1) := by decide +kernel
theorem dX8_init_129 : decode cX8_init 129 = .ok (.bipush 24, 2) := by decide +kernel
theorem dX8_init_131 : decode cX8_init 131 = .ok (.newarray .int, 2) := by decide +kernel
theorem dX8_init_133 : decode cX8_init 133 = .ok (.putfield 63, 3) := by decide +kernel
theorem dX8_init_136 : decode cX8_init 136 = .ok (.aload_n 0, 1) := by decide +kernel
theorem dX8_init_137 : decode cX8_init 137 = .ok (.iconst 4, 1) := by decide +kernel
theorem dX8_init_138 : decode cX8_init 138 = .ok (.newarray .int, 2) := by decide +kernel
theorem dX8_init_140 : decode cX8_init 140 = .ok (.putfield 66, 3) := by decide +kernel
theorem dX8_init_143 : decode cX8_init 143 = .ok (.aload_n 0, 1) := by decide +kernel
theorem dX8_init_144 : decode cX8_init 144 = .ok (.iconst (-1), 1) := by decide +kernel
theorem dX8_init_145 : decode cX8_init 145 = .ok (.putfield 69, 3) := by decide +kernel
theorem dX8_init_148 : decode cX8_init 148 = .ok (.aload_n 0, 1) := by decide +kernel
theorem dX8_init_149 : decode cX8_init 149 = .ok (.iconst 4, 1) := by decide +kernel
theorem dX8_init_150 : decode cX8_init 150 = .ok (.newarray .boolean, 2) := by decide +kernel
theorem dX8_init_152 : decode cX8_init 152 = .ok (.putfield 72, 3) := by decide +kernel
theorem dX8_init_155 : decode cX8_init 155 = .ok (.aload_n 0, 1) := by decide +kernel
theorem dX8_init_156 : decode cX8_init 156 = .ok (.iconst 4, 1) := by decide +kernel
theorem dX8_init_157 : decode cX8_init 157 = .ok (.newarray .int, 2) := by decide +kernel
theorem dX8_init_159 : decode cX8_init 159 = .ok (.putfield 76, 3) := by decide +kernel
theorem dX8_init_162 : decode cX8_init 162 = .ok (.aload_n 0, 1) := by decide +kernel
theorem dX8_init_163 : decode cX8_init 163 = .ok (.iconst 4, 1) := by decide +kernel
theorem dX8_init_164 : decode cX8_init 164 = .ok (.newarray .int, 2) := by decide +kernel
theorem dX8_init_166 : decode cX8_init 166 = .ok (.putfield 79, 3) := by decide +kernel
theorem dX8_init_169 : decode cX8_init 169 = .ok (.aload_n 0, 1) := by decide +kernel
theorem dX8_init_170 : decode cX8_init 170 = .ok (.sipush 160, 3) := by decide +kernel
theorem dX8_init_173 : decode cX8_init 173 = .ok (.newarray .int, 2) := by decide +kernel
theorem dX8_init_175 : decode cX8_init 175 = .ok (.putfield 82, 3) := by decide +kernel
theorem dX8_init_178 : decode cX8_init 178 = .ok (.aload_n 0, 1) := by decide +kernel
theorem dX8_init_179 : decode cX8_init 179 = .ok (.iconst 0, 1) := by decide +kernel
theorem dX8_init_180 : decode cX8_init 180 = .ok (.bipush 115, 2) := by decide +kernel
theorem dX8_init_182 : decode cX8_init 182 = .ok (.bipush 104, 2) := by decide +kernel
theorem dX8_init_184 : decode cX8_init 184 = .ok (.bipush 105, 2) := by decide +kernel
theorem dX8_init_186 : decode cX8_init 186 = .ok (.bipush 112, 2) := by decide +kernel
theorem dX8_init_188 : decode cX8_init 188 = .ok (.bipush 32, 2) := by decide +kernel
theorem dX8_init_190 : decode cX8_init 190 = .ok (.bipush 119, 2) := by decide +kernel
theorem dX8_init_192 : decode cX8_init 192 = .ok (.bipush 97, 2) := by decide +kernel
theorem dX8_init_194 : decode cX8_init 194 = .ok (.bipush 105, 2) := by decide +kernel
theorem dX8_init_196 : decode cX8_init 196 = .ok (.invokevirtual 85, 3) := by decide +kernel
theorem dX8_init_199 : decode cX8_init 199 = .ok (.aload_n 0, 1) := by decide +kernel
theorem dX8_init_200 : decode cX8_init 200 = .ok (.bipush 8, 2) := by decide +kernel
theorem dX8_init_202 : decode cX8_init 202 = .ok (.bipush 116, 2) := by decide +kernel
theorem dX8_init_204 : decode cX8_init 204 = .ok (.bipush 101, 2) := by decide +kernel
theorem dX8_init_206 : decode cX8_init 206 = .ok (.bipush 100, 2) := by decide +kernel
theorem dX8_init_208 : decode cX8_init 208 = .ok (.bipush 32, 2) := by decide +kernel
theorem dX8_init_210 : decode cX8_init 210 = .ok (.bipush 42, 2) := by decide +kernel
theorem dX8_init_212 : decode cX8_init 212 = .ok (.bipush 32, 2) := by decide +kernel
theorem dX8_init_214 : decode cX8_init 214 = .ok (.bipush 112, 2) := by decide +kernel
theorem dX8_init_216 : decode cX8_init 216 = .ok (.bipush 114, 2) := by decide +kernel
theorem dX8_init_218 : decode cX8_init 218 = .ok (.invokevirtual 85, 3) := by decide +kernel
theorem dX8_init_221 : decode cX8_init 221 = .ok (.aload_n 0, 1) := by decide +kernel
theorem dX8_init_222 : decode cX8_init 222 = .ok (.bipush 16, 2) := by decide +kernel
theorem dX8_init_224 : decode cX8_init 224 = .ok (.bipush 105, 2) := by decide +kernel
theorem dX8_init_226 : decode cX8_init 226 = .ok (.bipush 99, 2) := by decide +kernel
theorem dX8_init_228 : decode cX8_init 228 = .ok (.bipush 101, 2) := by decide +kernel
theorem dX8_init_230 : decode cX8_init 230 = .ok (.bipush 32, 2) := by decide +kernel
theorem dX8_init_232 : decode cX8_init 232 = .ok (.bipush 59, 2) := by decide +kernel
theorem dX8_init_234 : decode cX8_init 234 = .ok (.bipush 32, 2) := by decide +kernel
theorem dX8_init_236 : decode cX8_init 236 = .ok (.bipush 99, 2) := by decide +kernel
theorem dX8_init_238 : decode cX8_init 238 = .ok (.bipush 97, 2) := by decide +kernel
theorem dX8_init_240 : decode cX8_init 240 = .ok (.invokevirtual 85, 3) := by decide +kernel
theorem dX8_init_243 : decode cX8_init 243 = .ok (.aload_n 0, 1) := by decide +kernel
theorem dX8_init_244 : decode cX8_init 244 = .ok (.bipush 24, 2) := by decide +kernel
theorem dX8_init_246 : decode cX8_init 246 = .ok (.bipush 114, 2) := by decide +kernel
theorem dX8_init_248 : decode cX8_init 248 = .ok (.bipush 116, 2) := by decide +kernel
theorem dX8_init_250 : decode cX8_init 250 = .ok (.bipush 32, 2) := by decide +kernel
theorem dX8_init_252 : decode cX8_init 252 = .ok (.bipush 119, 2) := by decide +kernel
theorem dX8_init_254 : decode cX8_init 254 = .ok (.bipush 97, 2) := by decide +kernel
theorem dX8_init_256 : decode cX8_init 256 = .ok (.bipush 105, 2) := by decide +kernel
theorem dX8_init_258 : decode cX8_init 258 = .ok (.bipush 116, 2) := by decide +kernel
theorem dX8_init_260 : decode cX8_init 260 = .ok (.bipush 101, 2) := by decide +kernel
theorem dX8_init_262 : decode cX8_init 262 = .ok (.invokevirtual 85, 3) := by decide +kernel
theorem dX8_init_265 : decode cX8_init 265 = .ok (.aload_n 0, 1) := by decide +kernel
theorem dX8_init_266 : decode cX8_init 266 = .ok (.bipush 32, 2) := by decide +kernel
theorem dX8_init_268 : decode cX8_init 268 = .ok (.bipush 100, 2) := by decide +kernel
theorem dX8_init_270 : decode cX8_init 270 = .ok (.bipush 32, 2) := by decide +kernel
theorem dX8_init_272 : decode cX8_init 272 = .ok (.bipush 42, 2) := by decide +kernel
theorem dX8_init_274 : decode cX8_init 274 = .ok (.bipush 32, 2) := by decide +kernel
theorem dX8_init_276 : decode cX8_init 276 = .ok (.bipush 112, 2) := by decide +kernel
theorem dX8_init_278 : decode cX8_init 278 = .ok (.bipush 114, 2) := by decide +kernel
theorem dX8_init_280 : decode cX8_init 280 = .ok (.bipush 105, 2) := by decide +kernel
theorem dX8_init_282 : decode cX8_init 282 = .ok (.bipush 99, 2) := by decide +kernel
theorem dX8_init_284 : decode cX8_init 284 = .ok (.invokevirtual 85, 3) := by decide +kernel
theorem dX8_init_287 : decode cX8_init 287 = .ok (.aload_n 0, 1) := by decide +kernel
theorem dX8_init_288 : decode cX8_init 288 = .ok (.bipush 40, 2) := by decide +kernel
theorem dX8_init_290 : decode cX8_init 290 = .ok (.bipush 101, 2) := by decide +kernel
theorem dX8_init_292 : decode cX8_init 292 = .ok (.bipush 32, 2) := by decide +kernel
theorem dX8_init_294 : decode cX8_init 294 = .ok (.bipush 59, 2) := by decide +kernel
theorem dX8_init_296 : decode cX8_init 296 = .ok (.bipush 32, 2) := by decide +kernel
theorem dX8_init_298 : decode cX8_init 298 = .ok (.bipush 99, 2) := by decide +kernel
theorem dX8_init_300 : decode cX8_init 300 = .ok (.bipush 104, 2) := by decide +kernel
theorem dX8_init_302 : decode cX8_init 302 = .ok (.bipush 97, 2) := by decide +kernel
theorem dX8_init_304 : decode cX8_init 304 = .ok (.bipush 110, 2) := by decide +kernel
theorem dX8_init_306 : decode cX8_init 306 = .ok (.invokevirtual 85, 3) := by decide +kernel
theorem dX8_init_309 : decode cX8_init 309 = .ok (.aload_n 0, 1) := by decide +kernel
theorem dX8_init_310 : decode cX8_init 310 = .ok (.bipush 48, 2) := by decide +kernel
theorem dX8_init_312 : decode cX8_init 312 = .ok (.bipush 103, 2) := by decide +kernel
theorem dX8_init_314 : decode cX8_init 314 = .ok (.bipush 101, 2) := by decide +kernel
theorem dX8_init_316 : decode cX8_init 316 = .ok (.bipush 32, 2) := by decide +kernel
theorem dX8_init_318 : decode cX8_init 318 = .ok (.bipush 49, 2) := by decide +kernel
theorem dX8_init_320 : decode cX8_init 320 = .ok (.bipush 32, 2) := by decide +kernel
theorem dX8_init_322 : decode cX8_init 322 = .ok (.bipush 59, 2) := by decide +kernel
theorem dX8_init_324 : decode cX8_init 324 = .ok (.bipush 32, 2) := by decide +kernel
theorem dX8_init_326 : decode cX8_init 326 = .ok (.bipush 32, 2) := by decide +kernel
theorem dX8_init_328 : decode cX8_init 328 = .ok (.invokevirtual 85, 3) := by decide +kernel
theorem dX8_init_331 : decode cX8_init 331 = .ok (.aload_n 0, 1) := by decide +kernel
theorem dX8_init_332 : decode cX8_init 332 = .ok (.getfield 17, 3) := by decide +kernel
theorem dX8_init_335 : decode cX8_init 335 = .ok (.iconst 0, 1) := by decide +kernel
theorem dX8_init_336 : decode cX8_init 336 = .ok (.bipush 56, 2) := by decide +kernel
theorem dX8_init_338 : decode cX8_init 338 = .ok (.iastore, 1) := by decide +kernel
theorem dX8_init_339 : decode cX8_init 339 = .ok (.aload_n 0, 1) := by decide +kernel
theorem dX8_init_340 : decode cX8_init 340 = .ok (.iconst 1, 1) := by decide +kernel
theorem dX8_init_341 : decode cX8_init 341 = .ok (.putfield 89, 3) := by decide +kernel
theorem dX8_init_344 : decode cX8_init 344 = .ok (.return_, 1) := by decide +kernel
theorem dX8_spell_0 : decode cX8_spell 0 = .ok (.aload_n 0, 1) := by decide +kernel
theorem dX8_spell_1 : decode cX8_spell 1 = .ok (.getfield 13, 3) := by decide +kernel
theorem dX8_spell_4 : decode cX8_spell 4 = .ok (.iload_n 1, 1) := by decide +kernel
theorem dX8_spell_5 : decode cX8_spell 5 = .ok (.iload_n 2, 1) := by decide +kernel
theorem dX8_spell_6 : decode cX8_spell 6 = .ok (.iastore, 1) := by decide +kernel
theorem dX8_spell_7 : decode cX8_spell 7 = .ok (.aload_n 0, 1) := by decide +kernel
theorem dX8_spell_8 : decode cX8_spell 8 = .ok (.getfield 13, 3) := by decide +kernel
theorem dX8_spell_11 : decode cX8_spell 11 = .ok (.iload_n 1, 1) := by decide +kernel
theorem dX8_spell_12 : decode cX8_spell 12 = .ok (.iconst 1, 1) := by decide +kernel
theorem dX8_spell_13 : decode cX8_spell 13 = .ok (.iadd, 1) := by decide +kernel
theorem dX8_spell_14 : decode cX8_spell 14 = .ok (.iload_n 3, 1) := by decide +kernel
theorem dX8_spell_15 : decode cX8_spell 15 = .ok (.iastore, 1) := by decide +kernel
theorem dX8_spell_16 : decode cX8_spell 16 = .ok (.aload_n 0, 1) := by decide +kernel
theorem dX8_spell_17 : decode cX8_spell 17 = .ok (.getfield 13, 3) := by decide +kernel
theorem dX8_spell_20 : decode cX8_spell 20 = .ok (.iload_n 1, 1) := by decide +kernel
theorem dX8_spell_21 : decode cX8_spell 21 = .ok (.iconst 2, 1) := by decide +kernel
theorem dX8_spell_22 : decode cX8_spell 22 = .ok (.iadd, 1) := by decide +kernel
theorem dX8_spell_23 : decode cX8_spell 23 = .ok (.iload 4, 2) := by decide +kernel
theorem dX8_spell_25 : decode cX8_spell 25 = .ok (.iastore, 1) := by decide +kernel
theorem dX8_spell_26 : decode cX8_spell 26 = .ok (.aload_n 0, 1) := by decide +kernel
theorem dX8_spell_27 : decode cX8_spell 27 = .ok (.getfield 13, 3) := by decide +kernel
theorem dX8_spell_30 : decode cX8_spell 30 = .ok (.iload_n 1, 1) := by decide +kernel
theorem dX8_spell_31 : decode cX8_spell 31 = .ok (.iconst 3, 1) := by decide +kernel
theorem dX8_spell_32 : decode cX8_spell 32 = .ok (.iadd, 1) := by decide +kernel
theorem dX8_spell_33 : decode cX8_spell 33 = .ok (.iload 5, 2) := by decide +kernel
theorem dX8_spell_35 : decode cX8_spell 35 = .ok (.iastore, 1) := by decide +kernel
theorem dX8_spell_36 : decode cX8_spell 36 = .ok (.aload_n 0, 1) := by decide +kernel
theorem dX8_spell_37 : decode cX8_spell 37 = .ok (.getfield 13, 3) := by decide +kernel
theorem dX8_spell_40 : decode cX8_spell 40 = .ok (.iload_n 1, 1) := by decide +kernel
theorem dX8_spell_41 : decode cX8_spell 41 = .ok (.iconst 4, 1) := by decide +kernel
theorem dX8_spell_42 : decode cX8_spell 42 = .ok (.iadd, 1) := by decide +kernel
theorem dX8_spell_43 : decode cX8_spell 43 = .ok (.iload 6, 2) := by decide +kernel
theorem dX8_spell_45 : decode cX8_spell 45 = .ok (.iastore, 1) := by decide +kernel
theorem dX8_spell_46 : decode cX8_spell 46 = .ok (.aload_n 0, 1) := by decide +kernel
theorem dX8_spell_47 : decode cX8_spell 47 = .ok (.getfield 13, 3) := by decide +kernel
theorem dX8_spell_50 : decode cX8_spell 50 = .ok (.iload_n 1, 1) := by decide +kernel
theorem dX8_spell_51 : decode cX8_spell 51 = .ok (.iconst 5, 1) := by decide +kernel
theorem dX8_spell_52 : decode cX8_spell 52 = .ok (.iadd, 1) := by decide +kernel
theorem dX8_spell_53 : decode cX8_spell 53 = .ok (.iload 7, 2) := by decide +kernel
theorem dX8_spell_55 : decode cX8_spell 55 = .ok (.iastore, 1) := by decide +kernel
theorem dX8_spell_56 : decode cX8_spell 56 = .ok (.aload_n 0, 1) := by decide +kernel
theorem dX8_spell_57 : decode cX8_spell 57 = .ok (.getfield 13, 3) := by decide +kernel
theorem dX8_spell_60 : decode cX8_spell 60 = .ok (.iload_n 1, 1) := by decide +kernel
theorem dX8_spell_61 : decode cX8_spell 61 = .ok (.bipush 6, 2) := by decide +kernel
theorem dX8_spell_63 : decode cX8_spell 63 = .ok (.iadd, 1) := by decide +kernel
theorem dX8_spell_64 : decode cX8_spell 64 = .ok (.iload 8, 2) := by decide +kernel
theorem dX8_spell_66 : decode cX8_spell 66 = .ok (.iastore, 1) := by decide +kernel
theorem dX8_spell_67 : decode cX8_spell 67 = .ok (.aload_n 0, 1) := by decide +kernel
theorem dX8_spell_68 : decode cX8_spell 68 = .ok (.getfield 13, 3) := by decide +kernel
theorem dX8_spell_71 : decode cX8_spell 71 = .ok (.iload_n 1, 1) := by decide +kernel
theorem dX8_spell_72 : decode cX8_spell 72 = .ok (.bipush 7, 2) := by decide +kernel
theorem dX8_spell_74 : decode cX8_spell 74 = .ok (.iadd, 1) := by decide +kernel
theorem dX8_spell_75 : decode cX8_spell 75 = .ok (.iload 9, 2) := by decide +kernel
theorem dX8_spell_77 : decode cX8_spell 77 = .ok (.iastore, 1) := by decide +kernel
theorem dX8_spell_78 : decode cX8_spell 78 = .ok (.return_, 1) := by decide +kernel
theorem dX8_isHere_0 : decode cX8_isHere 0 = .ok (.iload_n 1, 1) := by decide +kernel
theorem dX8_isHere_1 : decode cX8_isHere 1 = .ok (.i2l, 1) := by decide +kernel
theorem dX8_isHere_2 : decode cX8_isHere 2 = .ok (.lconst 0, 1) := by decide +kernel
theorem dX8_isHere_3 : decode cX8_isHere 3 = .ok (.lconst 1, 1) := by decide +kernel
theorem dX8_isHere_4 : decode cX8_isHere 4 = .ok (.invokestatic 92, 3) := by decide +kernel
theorem dX8_isHere_7 : decode cX8_isHere 7 = .ok (.ifCond .eq 34, 3) := by decide +kernel
theorem dX8_isHere_10 : decode cX8_isHere 10 = .ok (.iload_n 2, 1) := by decide +kernel
theorem dX8_isHere_11 : decode cX8_isHere 11 = .ok (.i2l, 1) := by decide +kernel
theorem dX8_isHere_12 : decode cX8_isHere 12 = .ok (.lconst 0, 1) := by decide +kernel
theorem dX8_isHere_13 : decode cX8_isHere 13 = .ok (.iload_n 1, 1) := by decide +kernel
theorem dX8_isHere_14 : decode cX8_isHere 14 = .ok (.ifCond .ne 10, 3) := by decide +kernel
theorem dX8_isHere_17 : decode cX8_isHere 17 = .ok (.aload_n 0, 1) := by decide +kernel
theorem dX8_isHere_18 : decode cX8_isHere 18 = .ok (.getfield 96, 3) := by decide +kernel
theorem dX8_isHere_21 : decode cX8_isHere 21 = .ok (.goto 7, 3) := by decide +kernel
theorem dX8_isHere_24 : decode cX8_isHere 24 = .ok (.aload_n 0, 1) := by decide +kernel
theorem dX8_isHere_25 : decode cX8_isHere 25 = .ok (.getfield 99, 3) := by decide +kernel
theorem dX8_isHere_28 : decode cX8_isHere 28 = .ok (.iconst 1, 1) := by decide +kernel
theorem dX8_isHere_29 : decode cX8_isHere 29 = .ok (.isub, 1) := by decide +kernel
theorem dX8_isHere_30 : decode cX8_isHere 30 = .ok (.i2l, 1) := by decide +kernel
theorem dX8_isHere_31 : decode cX8_isHere 31 = .ok (.invokestatic 92, 3) := by decide +kernel
theorem dX8_isHere_34 : decode cX8_isHere 34 = .ok (.ifCond .eq 7, 3) := by decide +kernel
theorem dX8_isHere_37 : decode cX8_isHere 37 = .ok (.iconst 1, 1) := by decide +kernel
theorem dX8_isHere_38 : decode cX8_isHere 38 = .ok (.goto 4, 3) := by decide +kernel
theorem dX8_isHere_41 : decode cX8_isHere 41 = .ok (.iconst 0, 1) := by decide +kernel
theorem dX8_isHere_42 : decode cX8_isHere 42 = .ok (.ireturn, 1) := by decide +kernel
theorem dX8_isOne_0 : decode cX8_isOne 0 = .ok (.iload_n 1, 1) := by decide +kernel
theorem dX8_isOne_1 : decode cX8_isOne 1 = .ok (.iconst 4, 1) := by decide +kernel
theorem dX8_isOne_2 : decode cX8_isOne 2 = .ok (.if_icmp .ge 19, 3) := by decide +kernel
theorem dX8_isOne_5 : decode cX8_isOne 5 = .ok (.iload_n 1, 1) := by decide +kernel
theorem dX8_isOne_6 : decode cX8_isOne 6 = .ok (.aload_n 0, 1) := by decide +kernel
theorem dX8_isOne_7 : decode cX8_isOne 7 = .ok (.getfield 96, 3) := by decide +kernel
theorem dX8_isOne_10 : decode cX8_isOne 10 = .ok (.if_icmp .ge 7, 3) := by decide +kernel
theorem dX8_isOne_13 : decode cX8_isOne 13 = .ok (.iconst 1, 1) := by decide +kernel
theorem dX8_isOne_14 : decode cX8_isOne 14 = .ok (.goto 22, 3) := by decide +kernel
theorem dX8_isOne_17 : decode cX8_isOne 17 = .ok (.iconst 0, 1) := by decide +kernel
theorem dX8_isOne_18 : decode cX8_isOne 18 = .ok (.goto 18, 3) := by decide +kernel
theorem dX8_isOne_21 : decode cX8_isOne 21 = .ok (.iload_n 1, 1) := by decide +kernel
theorem dX8_isOne_22 : decode cX8_isOne 22 = .ok (.iconst 4, 1) := by decide +kernel
theorem dX8_isOne_23 : decode cX8_isOne 23 = .ok (.isub, 1) := by decide +kernel
theorem dX8_isOne_24 : decode cX8_isOne 24 = .ok (.aload_n 0, 1) := by decide +kernel
theorem dX8_isOne_25 : decode cX8_isOne 25 = .ok (.getfield 99, 3) := by decide +kernel
theorem dX8_isOne_28 : decode cX8_isOne 28 = .ok (.if_icmp .ge 7, 3) := by decide +kernel
theorem dX8_isOne_31 : decode cX8_isOne 31 = .ok (.iconst 1, 1) := by decide +kernel
theorem dX8_isOne_32 : decode cX8_isOne 32 = .ok (.goto 4, 3) := by decide +kernel
theorem dX8_isOne_35 : decode cX8_isOne 35 = .ok (.iconst 0, 1) := by decide +kernel
theorem dX8_isOne_36 : decode cX8_isOne 36 = .ok (.ireturn, 1) := by decide +kernel
theorem dX8_come_0 : decode cX8_come 0 = .ok (.iload_n 1, 1) := by decide +kernel
theorem dX8_come_1 : decode cX8_come 1 = .ok (.i2l, 1) := by decide +kernel
theorem dX8_come_2 : decode cX8_come 2 = .ok (.lconst 0, 1) := by decide +kernel
theorem dX8_come_3 : decode cX8_come 3 = .ok (.lconst 1, 1) := by decide +kernel
theorem dX8_come_4 : decode cX8_come 4 = .ok (.invokestatic 92, 3) := by decide +kernel
theorem dX8_come_7 : decode cX8_come 7 = .ok (.ifCond .eq 51, 3) := by decide +kernel
theorem dX8_come_10 : decode cX8_come 10 = .ok (.iload_n 2, 1) := by decide +kernel
theorem dX8_come_11 : decode cX8_come 11 = .ok (.i2l, 1) := by decide +kernel
theorem dX8_come_12 : decode cX8_come 12 = .ok (.lconst 0, 1) := by decide +kernel
theorem dX8_come_13 : decode cX8_come 13 = .ok (.ldc2_w 102, 3) := by decide +kernel
theorem dX8_come_16 : decode cX8_come 16 = .ok (.invokestatic 92, 3) := by decide +kernel
theorem dX8_come_19 : decode cX8_come 19 = .ok (.ifCond .eq 39, 3) := by decide +kernel
theorem dX8_come_22 : decode cX8_come 22 = .ok (.iload_n 2, 1) := by decide +kernel
theorem dX8_come_23 : decode cX8_come 23 = .ok (.bipush 100, 2) := by decide +kernel
theorem dX8_come_25 : decode cX8_come 25 = .ok (.idiv, 1) := by decide +kernel
theorem dX8_come_26 : decode cX8_come 26 = .ok (.i2l, 1) := by decide +kernel
theorem dX8_come_27 : decode cX8_come 27 = .ok (.lconst 0, 1) := by decide +kernel
theorem dX8_come_28 : decode cX8_come 28 = .ok (.ldc2_w 104, 3) := by decide +kernel
theorem dX8_come_31 : decode cX8_come 31 = .ok (.invokestatic 92, 3) := by decide +kernel
theorem dX8_come_34 : decode cX8_come 34 = .ok (.ifCond .eq 24, 3) := by decide +kernel
theorem dX8_come_37 : decode cX8_come 37 = .ok (.iload_n 2, 1) := by decide +kernel
theorem dX8_come_38 : decode cX8_come 38 = .ok (.bipush 100, 2) := by decide +kernel
theorem dX8_come_40 : decode cX8_come 40 = .ok (.irem, 1) := by decide +kernel
theorem dX8_come_41 : decode cX8_come 41 = .ok (.bipush 24, 2) := by decide +kernel
theorem dX8_come_43 : decode cX8_come 43 = .ok (.if_icmp .ge 15, 3) := by decide +kernel
theorem dX8_come_46 : decode cX8_come 46 = .ok (.iload_n 3, 1) := by decide +kernel
theorem dX8_come_47 : decode cX8_come 47 = .ok (.i2l, 1) := by decide +kernel
theorem dX8_come_48 : decode cX8_come 48 = .ok (.lconst 0, 1) := by decide +kernel
theorem dX8_come_49 : decode cX8_come 49 = .ok (.ldc2_w 106, 3) := by decide +kernel
theorem dX8_come_52 : decode cX8_come 52 = .ok (.invokestatic 92, 3) := by decide +kernel
theorem dX8_come_55 : decode cX8_come 55 = .ok (.ifCond .ne 6, 3) := by decide +kernel
theorem dX8_come_58 : decode cX8_come 58 = .ok (.bipush (-2), 2) := by decide +kernel
theorem dX8_come_60 : decode cX8_come 60 = .ok (.ireturn, 1) := by decide +kernel
theorem dX8_come_61 : decode cX8_come 61 = .ok (.iload_n 1, 1) := by decide +kernel
theorem dX8_come_62 : decode cX8_come 62 = .ok (.ifCond .ne 10, 3) := by decide +kernel
theorem dX8_come_65 : decode cX8_come 65 = .ok (.aload_n 0, 1) := by decide +kernel
theorem dX8_come_66 : decode cX8_come 66 = .ok (.getfield 96, 3) := by decide +kernel
theorem dX8_come_69 : decode cX8_come 69 = .ok (.goto 7, 3) := by decide +kernel
theorem dX8_come_72 : decode cX8_come 72 = .ok (.aload_n 0, 1) := by decide +kernel
theorem dX8_come_73 : decode cX8_come 73 = .ok (.getfield 99, 3) := by decide +kernel
theorem dX8_come_76 : decode cX8_come 76 = .ok (.istore 4, 2) := by decide +kernel
theorem dX8_come_78 : decode cX8_come 78 = .ok (.iload 4, 2) := by decide +kernel
theorem dX8_come_80 : decode cX8_come 80 = .ok (.iconst 4, 1) := by decide +kernel
theorem dX8_come_81 : decode cX8_come 81 = .ok (.if_icmp .ne 6, 3) := by decide +kernel
theorem dX8_come_84 : decode cX8_come 84 = .ok (.bipush (-4), 2) := by decide +kernel
theorem dX8_come_86 : decode cX8_come 86 = .ok (.ireturn, 1) := by decide +kernel
theorem dX8_come_87 : decode cX8_come 87 = .ok (.iconst 4, 1) := by decide +kernel
theorem dX8_come_88 : decode cX8_come 88 = .ok (.iload_n 1, 1) := by decide +kernel
theorem dX8_come_89 : decode cX8_come 89 = .ok (.imul, 1) := by decide +kernel
theorem dX8_come_90 : decode cX8_come 90 = .ok (.iload 4, 2) := by decide +kernel
theorem dX8_come_92 : decode cX8_come 92 = .ok (.iadd, 1) := by decide +kernel
theorem dX8_come_93 : decode cX8_come 93 = .ok (.istore 5, 2) := by decide +kernel
theorem dX8_come_95 : decode cX8_come 95 = .ok (.aload_n 0, 1) := by decide +kernel
theorem dX8_come_96 : decode cX8_come 96 = .ok (.getfield 23, 3) := by decide +kernel
theorem dX8_come_99 : decode cX8_come 99 = .ok (.iload 5, 2) := by decide +kernel
theorem dX8_come_101 : decode cX8_come 101 = .ok (.iload_n 2, 1) := by decide +kernel
theorem dX8_come_102 : decode cX8_come 102 = .ok (.bipush 100, 2) := by decide +kernel
theorem dX8_come_104 : decode cX8_come 104 = .ok (.idiv, 1) := by decide +kernel
theorem dX8_come_105 : decode cX8_come 105 = .ok (.iastore, 1) := by decide +kernel
theorem dX8_come_106 : decode cX8_come 106 = .ok (.aload_n 0, 1) := by decide +kernel
theorem dX8_come_107 : decode cX8_come 107 = .ok (.getfield 26, 3) := by decide +kernel
theorem dX8_come_110 : decode cX8_come 110 = .ok (.iload 5, 2) := by decide +kernel
theorem dX8_come_112 : decode cX8_come 112 = .ok (.iload_n 2, 1) := by decide +kernel
theorem dX8_come_113 : decode cX8_come 113 = .ok (.bipush 100, 2) := by decide +kernel
theorem dX8_come_115 : decode cX8_come 115 = .ok (.irem, 1) := by decide +kernel
theorem dX8_come_116 : decode cX8_come 116 = .ok (.iastore, 1) := by decide +kernel
theorem dX8_come_117 : decode cX8_come 117 = .ok (.aload_n 0, 1) := by decide +kernel
theorem dX8_come_118 : decode cX8_come 118 = .ok (.getfield 29, 3) := by decide +kernel
theorem dX8_come_121 : decode cX8_come 121 = .ok (.iload 5, 2) := by decide +kernel
theorem dX8_come_123 : decode cX8_come 123 = .ok (.iload_n 3, 1) := by decide +kernel
theorem dX8_come_124 : decode cX8_come 124 = .ok (.iastore, 1) := by decide +kernel
theorem dX8_come_125 : decode cX8_come 125 = .ok (.iload_n 1, 1) := by decide +kernel
theorem dX8_come_126 : decode cX8_come 126 = .ok (.ifCond .ne 16, 3) := by decide +kernel
theorem dX8_come_129 : decode cX8_come 129 = .ok (.aload_n 0, 1) := by decide +kernel
theorem dX8_come_130 : decode cX8_come 130 = .ok (.dup, 1) := by decide +kernel
theorem dX8_come_131 : decode cX8_come 131 = .ok (.getfield 96, 3) := by decide +kernel
theorem dX8_come_134 : decode cX8_come 134 = .ok (.iconst 1, 1) := by decide +kernel
theorem dX8_come_135 : decode cX8_come 135 = .ok (.iadd, 1) := by decide +kernel
theorem dX8_come_136 : decode cX8_come 136 = .ok (.putfield 96, 3) := by decide +kernel
theorem dX8_come_139 : decode cX8_come 139 = .ok (.goto 13, 3) := by decide +kernel
theorem dX8_come_142 : decode cX8_come 142 = .ok (.aload_n 0, 1) := by decide +kernel
theorem dX8_come_143 : decode cX8_come 143 = .ok (.dup, 1) := by decide +kernel
theorem dX8_come_144 : decode cX8_come 144 = .ok (.getfield 99, 3) := by decide +kernel
theorem dX8_come_147 : decode cX8_come 147 = .ok (.iconst 1, 1) := by decide +kernel
theorem dX8_come_148 : decode cX8_come 148 = .ok (.iadd, 1) := by decide +kernel
theorem dX8_come_149 : decode cX8_come 149 = .ok (.putfield 99, 3) := by decide +kernel
theorem dX8_come_152 : decode cX8_come 152 = .ok (.iload 4, 2) := by decide +kernel
theorem dX8_come_154 : decode cX8_come 154 = .ok (.ireturn, 1) := by decide +kernel
theorem dX8_set_0 : decode cX8_set 0 = .ok (.aload_n 0, 1) := by decide +kernel
theorem dX8_set_1 : decode cX8_set 1 = .ok (.iload_n 1, 1) := by decide +kernel
theorem dX8_set_2 : decode cX8_set 2 = .ok (.iload_n 2, 1) := by decide +kernel
theorem dX8_set_3 : decode cX8_set 3 = .ok (.invokevirtual 108, 3) := by decide +kernel
theorem dX8_set_6 : decode cX8_set 6 = .ok (.ifCond .eq 49, 3) := by decide +kernel
theorem dX8_set_9 : decode cX8_set 9 = .ok (.iload_n 3, 1) := by decide +kernel
theorem dX8_set_10 : decode cX8_set 10 = .ok (.i2l, 1) := by decide +kernel
theorem dX8_set_11 : decode cX8_set 11 = .ok (.lconst 0, 1) := by decide +kernel
theorem dX8_set_12 : decode cX8_set 12 = .ok (.ldc2_w 104, 3) := by decide +kernel
theorem dX8_set_15 : decode cX8_set 15 = .ok (.invokestatic 92, 3) := by decide +kernel
theorem dX8_set_18 : decode cX8_set 18 = .ok (.ifCond .eq 37, 3) := by decide +kernel
theorem dX8_set_21 : decode cX8_set 21 = .ok (.iload 4, 2) := by decide +kernel
theorem dX8_set_23 : decode cX8_set 23 = .ok (.i2l, 1) := by decide +kernel
theorem dX8_set_24 : decode cX8_set 24 = .ok (.lconst 0, 1) := by decide +kernel
theorem dX8_set_25 : decode cX8_set 25 = .ok (.iload_n 3, 1) := by decide +kernel
theorem dX8_set_26 : decode cX8_set 26 = .ok (.ifCond .ne 9, 3) := by decide +kernel
theorem dX8_set_29 : decode cX8_set 29 = .ok (.ldc2_w 104, 3) := by decide +kernel
theorem dX8_set_32 : decode cX8_set 32 = .ok (.goto 17, 3) := by decide +kernel
theorem dX8_set_35 : decode cX8_set 35 = .ok (.iload_n 3, 1) := by decide +kernel
theorem dX8_set_36 : decode cX8_set 36 = .ok (.iconst 1, 1) := by decide +kernel
theorem dX8_set_37 : decode cX8_set 37 = .ok (.if_icmp .ne 9, 3) := by decide +kernel
theorem dX8_set_40 : decode cX8_set 40 = .ok (.ldc2_w 112, 3) := by decide +kernel
theorem dX8_set_43 : decode cX8_set 43 = .ok (.goto 6, 3) := by decide +kernel
theorem dX8_set_46 : decode cX8_set 46 = .ok (.ldc2_w 106, 3) := by decide +kernel
theorem dX8_set_49 : decode cX8_set 49 = .ok (.invokestatic 92, 3) := by decide +kernel
theorem dX8_set_52 : decode cX8_set 52 = .ok (.ifCond .ne 6, 3) := by decide +kernel
theorem dX8_set_55 : decode cX8_set 55 = .ok (.bipush (-2), 2) := by decide +kernel
theorem dX8_set_57 : decode cX8_set 57 = .ok (.ireturn, 1) := by decide +kernel
theorem dX8_set_58 : decode cX8_set 58 = .ok (.iconst 4, 1) := by decide +kernel
theorem dX8_set_59 : decode cX8_set 59 = .ok (.iload_n 1, 1) := by decide +kernel
theorem dX8_set_60 : decode cX8_set 60 = .ok (.imul, 1) := by decide +kernel
theorem dX8_set_61 : decode cX8_set 61 = .ok (.iload_n 2, 1) := by decide +kernel
theorem dX8_set_62 : decode cX8_set 62 = .ok (.iadd, 1) := by decide +kernel
theorem dX8_set_63 : decode cX8_set 63 = .ok (.istore 5, 2) := by decide +kernel
theorem dX8_set_65 : decode cX8_set 65 = .ok (.iload_n 3, 1) := by decide +kernel
theorem dX8_set_66 : decode cX8_set 66 = .ok (.ifCond .ne 13, 3) := by decide +kernel
theorem dX8_set_69 : decode cX8_set 69 = .ok (.aload_n 0, 1) := by decide +kernel
theorem dX8_set_70 : decode cX8_set 70 = .ok (.getfield 23, 3) := by decide +kernel
theorem dX8_set_73 : decode cX8_set 73 = .ok (.iload 5, 2) := by decide +kernel
theorem dX8_set_75 : decode cX8_set 75 = .ok (.iaload, 1) := by decide +kernel
theorem dX8_set_76 : decode cX8_set 76 = .ok (.goto 25, 3) := by decide +kernel
theorem dX8_set_79 : decode cX8_set 79 = .ok (.iload_n 3, 1) := by decide +kernel
theorem dX8_set_80 : decode cX8_set 80 = .ok (.iconst 1, 1) := by decide +kernel
theorem dX8_set_81 : decode cX8_set 81 = .ok (.if_icmp .ne 13, 3) := by decide +kernel
theorem dX8_set_84 : decode cX8_set 84 = .ok (.aload_n 0, 1) := by decide +kernel
theorem dX8_set_85 : decode cX8_set 85 = .ok (.getfield 26, 3) := by decide +kernel
theorem dX8_set_88 : decode cX8_set 88 = .ok (.iload 5, 2) := by decide +kernel
theorem dX8_set_90 : decode cX8_set 90 = .ok (.iaload, 1) := by decide +kernel
theorem dX8_set_91 : decode cX8_set 91 = .ok (.goto 10, 3) := by decide +kernel
theorem dX8_set_94 : decode cX8_set 94 = .ok (.aload_n 0, 1) := by decide +kernel
theorem dX8_set_95 : decode cX8_set 95 = .ok (.getfield 29, 3) := by decide +kernel
theorem dX8_set_98 : decode cX8_set 98 = .ok (.iload 5, 2) := by decide +kernel
theorem dX8_set_100 : decode cX8_set 100 = .ok (.iaload, 1) := by decide +kernel
theorem dX8_set_101 : decode cX8_set 101 = .ok (.istore 6, 2) := by decide +kernel
theorem dX8_set_103 : decode cX8_set 103 = .ok (.iload_n 3, 1) := by decide +kernel
theorem dX8_set_104 : decode cX8_set 104 = .ok (.ifCond .ne 15, 3) := by decide +kernel
theorem dX8_set_107 : decode cX8_set 107 = .ok (.aload_n 0, 1) := by decide +kernel
theorem dX8_set_108 : decode cX8_set 108 = .ok (.getfield 23, 3) := by decide +kernel
theorem dX8_set_111 : decode cX8_set 111 = .ok (.iload 5, 2) := by decide +kernel
theorem dX8_set_113 : decode cX8_set 113 = .ok (.iload 4, 2) := by decide +kernel
theorem dX8_set_115 : decode cX8_set 115 = .ok (.iastore, 1) := by decide +kernel
theorem dX8_set_116 : decode cX8_set 116 = .ok (.goto 29, 3) := by decide +kernel
theorem dX8_set_119 : decode cX8_set 119 = .ok (.iload_n 3, 1) := by decide +kernel
theorem dX8_set_120 : decode cX8_set 120 = .ok (.iconst 1, 1) := by decide +kernel
theorem dX8_set_121 : decode cX8_set 121 = .ok (.if_icmp .ne 15, 3) := by decide +kernel
theorem dX8_set_124 : decode cX8_set 124 = .ok (.aload_n 0, 1) := by decide +kernel
theorem dX8_set_125 : decode cX8_set 125 = .ok (.getfield 26, 3) := by decide +kernel
theorem dX8_set_128 : decode cX8_set 128 = .ok (.iload 5, 2) := by decide +kernel
theorem dX8_set_130 : decode cX8_set 130 = .ok (.iload 4, 2) := by decide +kernel
theorem dX8_set_132 : decode cX8_set 132 = .ok (.iastore, 1) := by decide +kernel
theorem dX8_set_133 : decode cX8_set 133 = .ok (.goto 12, 3) := by decide +kernel
theorem dX8_set_136 : decode cX8_set 136 = .ok (.aload_n 0, 1) := by decide +kernel
theorem dX8_set_137 : decode cX8_set 137 = .ok (.getfield 29, 3) := by decide +kernel
theorem dX8_set_140 : decode cX8_set 140 = .ok (.iload 5, 2) := by decide +kernel
theorem dX8_set_142 : decode cX8_set 142 = .ok (.iload 4, 2) := by decide +kernel
theorem dX8_set_144 : decode cX8_set 144 = .ok (.iastore, 1) := by decide +kernel
theorem dX8_set_145 : decode cX8_set 145 = .ok (.iload 6, 2) := by decide +kernel
theorem dX8_set_147 : decode cX8_set 147 = .ok (.ireturn, 1) := by decide +kernel
theorem dX8_law_0 : decode cX8_law 0 = .ok (.iload_n 1, 1) := by decide +kernel
theorem dX8_law_1 : decode cX8_law 1 = .ok (.i2l, 1) := by decide +kernel
theorem dX8_law_2 : decode cX8_law 2 = .ok (.lconst 0, 1) := by decide +kernel
theorem dX8_law_3 : decode cX8_law 3 = .ok (.ldc2_w 104, 3) := by decide +kernel
theorem dX8_law_6 : decode cX8_law 6 = .ok (.invokestatic 92, 3) := by decide +kernel
theorem dX8_law_9 : decode cX8_law 9 = .ok (.ifCond .eq 55, 3) := by decide +kernel
theorem dX8_law_12 : decode cX8_law 12 = .ok (.iload_n 1, 1) := by decide +kernel
theorem dX8_law_13 : decode cX8_law 13 = .ok (.iconst 2, 1) := by decide +kernel
theorem dX8_law_14 : decode cX8_law 14 = .ok (.if_icmp .ne 19, 3) := by decide +kernel
theorem dX8_law_17 : decode cX8_law 17 = .ok (.iload_n 2, 1) := by decide +kernel
theorem dX8_law_18 : decode cX8_law 18 = .ok (.i2l, 1) := by decide +kernel
theorem dX8_law_19 : decode cX8_law 19 = .ok (.lconst 0, 1) := by decide +kernel
theorem dX8_law_20 : decode cX8_law 20 = .ok (.aload_n 0, 1) := by decide +kernel
theorem dX8_law_21 : decode cX8_law 21 = .ok (.getfield 114, 3) := by decide +kernel
theorem dX8_law_24 : decode cX8_law 24 = .ok (.iconst 1, 1) := by decide +kernel
theorem dX8_law_25 : decode cX8_law 25 = .ok (.isub, 1) := by decide +kernel
theorem dX8_law_26 : decode cX8_law 26 = .ok (.i2l, 1) := by decide +kernel
theorem dX8_law_27 : decode cX8_law 27 = .ok (.invokestatic 92, 3) := by decide +kernel
theorem dX8_law_30 : decode cX8_law 30 = .ok (.ifCond .eq 34, 3) := by decide +kernel
theorem dX8_law_33 : decode cX8_law 33 = .ok (.iload_n 3, 1) := by decide +kernel
theorem dX8_law_34 : decode cX8_law 34 = .ok (.i2l, 1) := by decide +kernel
theorem dX8_law_35 : decode cX8_law 35 = .ok (.iload_n 1, 1) := by decide +kernel
theorem dX8_law_36 : decode cX8_law 36 = .ok (.iconst 2, 1) := by decide +kernel
theorem dX8_law_37 : decode cX8_law 37 = .ok (.if_icmp .ne 7, 3) := by decide +kernel
theorem dX8_law_40 : decode cX8_law 40 = .ok (.lconst 0, 1) := by decide +kernel
theorem dX8_law_41 : decode cX8_law 41 = .ok (.goto 4, 3) := by decide +kernel
theorem dX8_law_44 : decode cX8_law 44 = .ok (.lconst 1, 1) := by decide +kernel
theorem dX8_law_45 : decode cX8_law 45 = .ok (.iload_n 1, 1) := by decide +kernel
theorem dX8_law_46 : decode cX8_law 46 = .ok (.ifCond .ne 9, 3) := by decide +kernel
theorem dX8_law_49 : decode cX8_law 49 = .ok (.ldc2_w 117, 3) := by decide +kernel
theorem dX8_law_52 : decode cX8_law 52 = .ok (.goto 6, 3) := by decide +kernel
theorem dX8_law_55 : decode cX8_law 55 = .ok (.ldc2_w 106, 3) := by decide +kernel
theorem dX8_law_58 : decode cX8_law 58 = .ok (.invokestatic 92, 3) := by decide +kernel
theorem dX8_law_61 : decode cX8_law 61 = .ok (.ifCond .ne 6, 3) := by decide +kernel
theorem dX8_law_64 : decode cX8_law 64 = .ok (.bipush (-2), 2) := by decide +kernel
theorem dX8_law_66 : decode cX8_law 66 = .ok (.ireturn, 1) := by decide +kernel
theorem dX8_law_67 : decode cX8_law 67 = .ok (.iload_n 1, 1) := by decide +kernel
theorem dX8_law_68 : decode cX8_law 68 = .ok (.ifCond .ne 10, 3) := by decide +kernel
theorem dX8_law_71 : decode cX8_law 71 = .ok (.aload_n 0, 1) := by decide +kernel
theorem dX8_law_72 : decode cX8_law 72 = .ok (.getfield 32, 3) := by decide +kernel
theorem dX8_law_75 : decode cX8_law 75 = .ok (.goto 21, 3) := by decide +kernel
theorem dX8_law_78 : decode cX8_law 78 = .ok (.iload_n 1, 1) := by decide +kernel
theorem dX8_law_79 : decode cX8_law 79 = .ok (.iconst 1, 1) := by decide +kernel
theorem dX8_law_80 : decode cX8_law 80 = .ok (.if_icmp .ne 10, 3) := by decide +kernel
theorem dX8_law_83 : decode cX8_law 83 = .ok (.aload_n 0, 1) := by decide +kernel
theorem dX8_law_84 : decode cX8_law 84 = .ok (.getfield 35, 3) := by decide +kernel
theorem dX8_law_87 : decode cX8_law 87 = .ok (.goto 9, 3) := by decide +kernel
theorem dX8_law_90 : decode cX8_law 90 = .ok (.aload_n 0, 1) := by decide +kernel
theorem dX8_law_91 : decode cX8_law 91 = .ok (.getfield 41, 3) := by decide +kernel
theorem dX8_law_94 : decode cX8_law 94 = .ok (.iload_n 2, 1) := by decide +kernel
theorem dX8_law_95 : decode cX8_law 95 = .ok (.iaload, 1) := by decide +kernel
theorem dX8_law_96 : decode cX8_law 96 = .ok (.istore 4, 2) := by decide +kernel
theorem dX8_law_98 : decode cX8_law 98 = .ok (.iload_n 1, 1) := by decide +kernel
theorem dX8_law_99 : decode cX8_law 99 = .ok (.ifCond .ne 11, 3) := by decide +kernel
theorem dX8_law_102 : decode cX8_law 102 = .ok (.aload_n 0, 1) := by decide +kernel
theorem dX8_law_103 : decode cX8_law 103 = .ok (.iload_n 3, 1) := by decide +kernel
theorem dX8_law_104 : decode cX8_law 104 = .ok (.putfield 32, 3) := by decide +kernel
theorem dX8_law_107 : decode cX8_law 107 = .ok (.goto 23, 3) := by decide +kernel
theorem dX8_law_110 : decode cX8_law 110 = .ok (.iload_n 1, 1) := by decide +kernel
theorem dX8_law_111 : decode cX8_law 111 = .ok (.iconst 1, 1) := by decide +kernel
theorem dX8_law_112 : decode cX8_law 112 = .ok (.if_icmp .ne 11, 3) := by decide +kernel
theorem dX8_law_115 : decode cX8_law 115 = .ok (.aload_n 0, 1) := by decide +kernel
theorem dX8_law_116 : decode cX8_law 116 = .ok (.iload_n 3, 1) := by decide +kernel
theorem dX8_law_117 : decode cX8_law 117 = .ok (.putfield 35, 3) := by decide +kernel
theorem dX8_law_120 : decode cX8_law 120 = .ok (.goto 10, 3) := by decide +kernel
theorem dX8_law_123 : decode cX8_law 123 = .ok (.aload_n 0, 1) := by decide +kernel
theorem dX8_law_124 : decode cX8_law 124 = .ok (.getfield 41, 3) := by decide +kernel
theorem dX8_law_127 : decode cX8_law 127 = .ok (.iload_n 2, 1) := by decide +kernel
theorem dX8_law_128 : decode cX8_law 128 = .ok (.iload_n 3, 1) := by decide +kernel
theorem dX8_law_129 : decode cX8_law 129 = .ok (.iastore, 1) := by decide +kernel
theorem dX8_law_130 : decode cX8_law 130 = .ok (.iload 4, 2) := by decide +kernel
theorem dX8_law_132 : decode cX8_law 132 = .ok (.ireturn, 1) := by decide +kernel
theorem dX8_master_0 : decode cX8_master 0 = .ok (.iload_n 1, 1) := by decide +kernel
theorem dX8_master_1 : decode cX8_master 1 = .ok (.i2l, 1) := by decide +kernel
theorem dX8_master_2 : decode cX8_master 2 = .ok (.lconst 0, 1) := by decide +kernel
theorem dX8_master_3 : decode cX8_master 3 = .ok (.ldc2_w 119, 3) := by decide +kernel
theorem dX8_master_6 : decode cX8_master 6 = .ok (.invokestatic 92, 3) := by decide +kernel
theorem dX8_master_9 : decode cX8_master 9 = .ok (.ifCond .eq 15, 3) := by decide +kernel
theorem dX8_master_12 : decode cX8_master 12 = .ok (.iload_n 2, 1) := by decide +kernel
theorem dX8_master_13 : decode cX8_master 13 = .ok (.i2l, 1) := by decide +kernel
theorem dX8_master_14 : decode cX8_master 14 = .ok (.lconst 0, 1) := by decide +kernel
theorem dX8_master_15 : decode cX8_master 15 = .ok (.ldc2_w 106, 3) := by decide +kernel
theorem dX8_master_18 : decode cX8_master 18 = .ok (.invokestatic 92, 3) := by decide +kernel
theorem dX8_master_21 : decode cX8_master 21 = .ok (.ifCond .ne 6, 3) := by decide +kernel
theorem dX8_master_24 : decode cX8_master 24 = .ok (.bipush (-2), 2) := by decide +kernel
theorem dX8_master_26 : decode cX8_master 26 = .ok (.ireturn, 1) := by decide +kernel
theorem dX8_master_27 : decode cX8_master 27 = .ok (.aload_n 0, 1) := by decide +kernel
theorem dX8_master_28 : decode cX8_master 28 = .ok (.getfield 114, 3) := by decide +kernel
theorem dX8_master_31 : decode cX8_master 31 = .ok (.iconst 4, 1) := by decide +kernel
theorem dX8_master_32 : decode cX8_master 32 = .ok (.if_icmp .ne 6, 3) := by decide +kernel
theorem dX8_master_35 : decode cX8_master 35 = .ok (.bipush (-4), 2) := by decide +kernel
theorem dX8_master_37 : decode cX8_master 37 = .ok (.ireturn, 1) := by decide +kernel
theorem dX8_master_38 : decode cX8_master 38 = .ok (.aload_n 0, 1) := by decide +kernel
theorem dX8_master_39 : decode cX8_master 39 = .ok (.getfield 38, 3) := by decide +kernel
theorem dX8_master_42 : decode cX8_master 42 = .ok (.aload_n 0, 1) := by decide +kernel
theorem dX8_master_43 : decode cX8_master 43 = .ok (.getfield 114, 3) := by decide +kernel
theorem dX8_master_46 : decode cX8_master 46 = .ok (.iload_n 1, 1) := by decide +kernel
theorem dX8_master_47 : decode cX8_master 47 = .ok (.iastore, 1) := by decide +kernel
theorem dX8_master_48 : decode cX8_master 48 = .ok (.aload_n 0, 1) := by decide +kernel
theorem dX8_master_49 : decode cX8_master 49 = .ok (.getfield 41, 3) := by decide +kernel
theorem dX8_master_52 : decode cX8_master 52 = .ok (.aload_n 0, 1) := by decide +kernel
theorem dX8_master_53 : decode cX8_master 53 = .ok (.getfield 114, 3) := by decide +kernel
theorem dX8_master_56 : decode cX8_master 56 = .ok (.iload_n 2, 1) := by decide +kernel
theorem dX8_master_57 : decode cX8_master 57 = .ok (.iastore, 1) := by decide +kernel
theorem dX8_master_58 : decode cX8_master 58 = .ok (.aload_n 0, 1) := by decide +kernel
theorem dX8_master_59 : decode cX8_master 59 = .ok (.dup, 1) := by decide +kernel
theorem dX8_master_60 : decode cX8_master 60 = .ok (.getfield 114, 3) := by decide +kernel
theorem dX8_master_63 : decode cX8_master 63 = .ok (.iconst 1, 1) := by decide +kernel
theorem dX8_master_64 : decode cX8_master 64 = .ok (.iadd, 1) := by decide +kernel
theorem dX8_master_65 : decode cX8_master 65 = .ok (.putfield 114, 3) := by decide +kernel
theorem dX8_master_68 : decode cX8_master 68 = .ok (.aload_n 0, 1) := by decide +kernel
theorem dX8_master_69 : decode cX8_master 69 = .ok (.getfield 114, 3) := by decide +kernel
theorem dX8_master_72 : decode cX8_master 72 = .ok (.iconst 1, 1) := by decide +kernel
theorem dX8_master_73 : decode cX8_master 73 = .ok (.isub, 1) := by decide +kernel
theorem dX8_master_74 : decode cX8_master 74 = .ok (.ireturn, 1) := by decide +kernel
theorem dX8_feed_0 : decode cX8_feed 0 = .ok (.iload_n 1, 1) := by decide +kernel
theorem dX8_feed_1 : decode cX8_feed 1 = .ok (.i2l, 1) := by decide +kernel
theorem dX8_feed_2 : decode cX8_feed 2 = .ok (.lconst 0, 1) := by decide +kernel
theorem dX8_feed_3 : decode cX8_feed 3 = .ok (.ldc2_w 121, 3) := by decide +kernel
theorem dX8_feed_6 : decode cX8_feed 6 = .ok (.invokestatic 92, 3) := by decide +kernel
theorem dX8_feed_9 : decode cX8_feed 9 = .ok (.ifCond .ne 6, 3) := by decide +kernel
theorem dX8_feed_12 : decode cX8_feed 12 = .ok (.bipush (-2), 2) := by decide +kernel
theorem dX8_feed_14 : decode cX8_feed 14 = .ok (.ireturn, 1) := by decide +kernel
theorem dX8_feed_15 : decode cX8_feed 15 = .ok (.aload_n 0, 1) := by decide +kernel
theorem dX8_feed_16 : decode cX8_feed 16 = .ok (.getfield 123, 3) := by decide +kernel
theorem dX8_feed_19 : decode cX8_feed 19 = .ok (.sipush 160, 3) := by decide +kernel
theorem dX8_feed_22 : decode cX8_feed 22 = .ok (.if_icmp .ne 6, 3) := by decide +kernel
theorem dX8_feed_25 : decode cX8_feed 25 = .ok (.bipush (-4), 2) := by decide +kernel
theorem dX8_feed_27 : decode cX8_feed 27 = .ok (.ireturn, 1) := by decide +kernel
theorem dX8_feed_28 : decode cX8_feed 28 = .ok (.aload_n 0, 1) := by decide +kernel
theorem dX8_feed_29 : decode cX8_feed 29 = .ok (.getfield 20, 3) := by decide +kernel
theorem dX8_feed_32 : decode cX8_feed 32 = .ok (.aload_n 0, 1) := by decide +kernel
theorem dX8_feed_33 : decode cX8_feed 33 = .ok (.getfield 123, 3) := by decide +kernel
theorem dX8_feed_36 : decode cX8_feed 36 = .ok (.iload_n 1, 1) := by decide +kernel
theorem dX8_feed_37 : decode cX8_feed 37 = .ok (.iastore, 1) := by decide +kernel
theorem dX8_feed_38 : decode cX8_feed 38 = .ok (.aload_n 0, 1) := by decide +kernel
theorem dX8_feed_39 : decode cX8_feed 39 = .ok (.dup, 1) := by decide +kernel
theorem dX8_feed_40 : decode cX8_feed 40 = .ok (.getfield 123, 3) := by decide +kernel
theorem dX8_feed_43 : decode cX8_feed 43 = .ok (.iconst 1, 1) := by decide +kernel
theorem dX8_feed_44 : decode cX8_feed 44 = .ok (.iadd, 1) := by decide +kernel
theorem dX8_feed_45 : decode cX8_feed 45 = .ok (.putfield 123, 3) := by decide +kernel
theorem dX8_feed_48 : decode cX8_feed 48 = .ok (.aload_n 0, 1) := by decide +kernel
theorem dX8_feed_49 : decode cX8_feed 49 = .ok (.getfield 123, 3) := by decide +kernel
theorem dX8_feed_52 : decode cX8_feed 52 = .ok (.ireturn, 1) := by decide +kernel
theorem dX8_byteAt_0 : decode cX8_byteAt 0 = .ok (.iload_n 1, 1) := by decide +kernel
theorem dX8_byteAt_1 : decode cX8_byteAt 1 = .ok (.aload_n 0, 1) := by decide +kernel
theorem dX8_byteAt_2 : decode cX8_byteAt 2 = .ok (.getfield 126, 3) := by decide +kernel
theorem dX8_byteAt_5 : decode cX8_byteAt 5 = .ok (.if_icmp .ge 17, 3) := by decide +kernel
theorem dX8_byteAt_8 : decode cX8_byteAt 8 = .ok (.aload_n 0, 1) := by decide +kernel
theorem dX8_byteAt_9 : decode cX8_byteAt 9 = .ok (.getfield 13, 3) := by decide +kernel
theorem dX8_byteAt_12 : decode cX8_byteAt 12 = .ok (.aload_n 0, 1) := by decide +kernel
theorem dX8_byteAt_13 : decode cX8_byteAt 13 = .ok (.getfield 129, 3) := by decide +kernel
theorem dX8_byteAt_16 : decode cX8_byteAt 16 = .ok (.iload_n 1, 1) := by decide +kernel
theorem dX8_byteAt_17 : decode cX8_byteAt 17 = .ok (.iadd, 1) := by decide +kernel
theorem dX8_byteAt_18 : decode cX8_byteAt 18 = .ok (.iaload, 1) := by decide +kernel
theorem dX8_byteAt_19 : decode cX8_byteAt 19 = .ok (.goto 4, 3) := by decide +kernel
theorem dX8_byteAt_22 : decode cX8_byteAt 22 = .ok (.iconst (-1), 1) := by decide +kernel
theorem dX8_byteAt_23 : decode cX8_byteAt 23 = .ok (.ireturn, 1) := by decide +kernel
theorem dX8_next_0 : decode cX8_next 0 = .ok (.aload_n 0, 1) := by decide +kernel
theorem dX8_next_1 : decode cX8_next 1 = .ok (.aload_n 0, 1) := by decide +kernel
theorem dX8_next_2 : decode cX8_next 2 = .ok (.getfield 132, 3) := by decide +kernel
theorem dX8_next_5 : decode cX8_next 5 = .ok (.invokevirtual 135, 3) := by decide +kernel
theorem dX8_next_8 : decode cX8_next 8 = .ok (.bipush 32, 2) := by decide +kernel
theorem dX8_next_10 : decode cX8_next 10 = .ok (.if_icmp .eq 16, 3) := by decide +kernel
theorem dX8_next_13 : decode cX8_next 13 = .ok (.aload_n 0, 1) := by decide +kernel
theorem dX8_next_14 : decode cX8_next 14 = .ok (.aload_n 0, 1) := by decide +kernel
theorem dX8_next_15 : decode cX8_next 15 = .ok (.getfield 132, 3) := by decide +kernel
theorem dX8_next_18 : decode cX8_next 18 = .ok (.invokevirtual 135, 3) := by decide +kernel
theorem dX8_next_21 : decode cX8_next 21 = .ok (.bipush 10, 2) := by decide +kernel
theorem dX8_next_23 : decode cX8_next 23 = .ok (.if_icmp .ne 16, 3) := by decide +kernel
theorem dX8_next_26 : decode cX8_next 26 = .ok (.aload_n 0, 1) := by decide +kernel
theorem dX8_next_27 : decode cX8_next 27 = .ok (.dup, 1) := by decide +kernel
theorem dX8_next_28 : decode cX8_next 28 = .ok (.getfield 132, 3) := by decide +kernel
theorem dX8_next_31 : decode cX8_next 31 = .ok (.iconst 1, 1) := by decide +kernel
theorem dX8_next_32 : decode cX8_next 32 = .ok (.iadd, 1) := by decide +kernel
theorem dX8_next_33 : decode cX8_next 33 = .ok (.putfield 132, 3) := by decide +kernel
theorem dX8_next_36 : decode cX8_next 36 = .ok (.goto (-36), 3) := by decide +kernel
theorem dX8_next_39 : decode cX8_next 39 = .ok (.aload_n 0, 1) := by decide +kernel
theorem dX8_next_40 : decode cX8_next 40 = .ok (.aload_n 0, 1) := by decide +kernel
theorem dX8_next_41 : decode cX8_next 41 = .ok (.getfield 132, 3) := by decide +kernel
theorem dX8_next_44 : decode cX8_next 44 = .ok (.putfield 139, 3) := by decide +kernel
theorem dX8_next_47 : decode cX8_next 47 = .ok (.aload_n 0, 1) := by decide +kernel
theorem dX8_next_48 : decode cX8_next 48 = .ok (.aload_n 0, 1) := by decide +kernel
theorem dX8_next_49 : decode cX8_next 49 = .ok (.getfield 132, 3) := by decide +kernel
theorem dX8_next_52 : decode cX8_next 52 = .ok (.invokevirtual 135, 3) := by decide +kernel
theorem dX8_next_55 : decode cX8_next 55 = .ok (.istore_n 1, 1) := by decide +kernel
theorem dX8_next_56 : decode cX8_next 56 = .ok (.aload_n 0, 1) := by decide +kernel
theorem dX8_next_57 : decode cX8_next 57 = .ok (.iconst 4, 1) := by decide +kernel
theorem dX8_next_58 : decode cX8_next 58 = .ok (.putfield 142, 3) := by decide +kernel
theorem dX8_next_61 : decode cX8_next 61 = .ok (.iload_n 1, 1) := by decide +kernel
theorem dX8_next_62 : decode cX8_next 62 = .ok (.ifCond .ge 19, 3) := by decide +kernel
theorem dX8_next_65 : decode cX8_next 65 = .ok (.aload_n 0, 1) := by decide +kernel
theorem dX8_next_66 : decode cX8_next 66 = .ok (.iconst 0, 1) := by decide +kernel
theorem dX8_next_67 : decode cX8_next 67 = .ok (.putfield 142, 3) := by decide +kernel
theorem dX8_next_70 : decode cX8_next 70 = .ok (.aload_n 0, 1) := by decide +kernel
theorem dX8_next_71 : decode cX8_next 71 = .ok (.aload_n 0, 1) := by decide +kernel
theorem dX8_next_72 : decode cX8_next 72 = .ok (.getfield 126, 3) := by decide +kernel
theorem dX8_next_75 : decode cX8_next 75 = .ok (.putfield 139, 3) := by decide +kernel
theorem dX8_next_78 : decode cX8_next 78 = .ok (.goto 243, 3) := by decide +kernel
theorem dX8_next_81 : decode cX8_next 81 = .ok (.iload_n 1, 1) := by decide +kernel
theorem dX8_next_82 : decode cX8_next 82 = .ok (.i2l, 1) := by decide +kernel
theorem dX8_next_83 : decode cX8_next 83 = .ok (.ldc2_w 145, 3) := by decide +kernel
theorem dX8_next_86 : decode cX8_next 86 = .ok (.ldc2_w 147, 3) := by decide +kernel
theorem dX8_next_89 : decode cX8_next 89 = .ok (.invokestatic 92, 3) := by decide +kernel
theorem dX8_next_92 : decode cX8_next 92 = .ok (.ifCond .eq 42, 3) := by decide +kernel
theorem dX8_next_95 : decode cX8_next 95 = .ok (.aload_n 0, 1) := by decide +kernel
theorem dX8_next_96 : decode cX8_next 96 = .ok (.iconst 1, 1) := by decide +kernel
theorem dX8_next_97 : decode cX8_next 97 = .ok (.putfield 142, 3) := by decide +kernel
theorem dX8_next_100 : decode cX8_next 100 = .ok (.aload_n 0, 1) := by decide +kernel
theorem dX8_next_101 : decode cX8_next 101 = .ok (.aload_n 0, 1) := by decide +kernel
theorem dX8_next_102 : decode cX8_next 102 = .ok (.getfield 132, 3) := by decide +kernel
theorem dX8_next_105 : decode cX8_next 105 = .ok (.invokevirtual 135, 3) := by decide +kernel
theorem dX8_next_108 : decode cX8_next 108 = .ok (.i2l, 1) := by decide +kernel
theorem dX8_next_109 : decode cX8_next 109 = .ok (.ldc2_w 145, 3) := by decide +kernel
theorem dX8_next_112 : decode cX8_next 112 = .ok (.ldc2_w 147, 3) := by decide +kernel
theorem dX8_next_115 : decode cX8_next 115 = .ok (.invokestatic 92, 3) := by decide +kernel
theorem dX8_next_118 : decode cX8_next 118 = .ok (.ifCond .eq 203, 3) := by decide +kernel
theorem dX8_next_121 : decode cX8_next 121 = .ok (.aload_n 0, 1) := by decide +kernel
theorem dX8_next_122 : decode cX8_next 122 = .ok (.dup, 1) := by decide +kernel
theorem dX8_next_123 : decode cX8_next 123 = .ok (.getfield 132, 3) := by decide +kernel
theorem dX8_next_126 : decode cX8_next 126 = .ok (.iconst 1, 1) := by decide +kernel
theorem dX8_next_127 : decode cX8_next 127 = .ok (.iadd, 1) := by decide +kernel
theorem dX8_next_128 : decode cX8_next 128 = .ok (.putfield 132, 3) := by decide +kernel
theorem dX8_next_131 : decode cX8_next 131 = .ok (.goto (-31), 3) := by decide +kernel
theorem dX8_next_134 : decode cX8_next 134 = .ok (.iload_n 1, 1) := by decide +kernel
theorem dX8_next_135 : decode cX8_next 135 = .ok (.i2l, 1) := by decide +kernel
theorem dX8_next_136 : decode cX8_next 136 = .ok (.ldc2_w 149, 3) := by decide +kernel
theorem dX8_next_139 : decode cX8_next 139 = .ok (.ldc2_w 151, 3) := by decide +kernel
theorem dX8_next_142 : decode cX8_next 142 = .ok (.invokestatic 92, 3) := by decide +kernel
theorem dX8_next_145 : decode cX8_next 145 = .ok (.ifCond .eq 107, 3) := by decide +kernel
theorem dX8_next_148 : decode cX8_next 148 = .ok (.aload_n 0, 1) := by decide +kernel
theorem dX8_next_149 : decode cX8_next 149 = .ok (.iconst 2, 1) := by decide +kernel
theorem dX8_next_150 : decode cX8_next 150 = .ok (.putfield 142, 3) := by decide +kernel
theorem dX8_next_153 : decode cX8_next 153 = .ok (.aload_n 0, 1) := by decide +kernel
theorem dX8_next_154 : decode cX8_next 154 = .ok (.lconst 0, 1) := by decide +kernel
theorem dX8_next_155 : decode cX8_next 155 = .ok (.putfield 153, 3) := by decide +kernel
theorem dX8_next_158 : decode cX8_next 158 = .ok (.iconst 0, 1) := by decide +kernel
theorem dX8_next_159 : decode cX8_next 159 = .ok (.istore_n 2, 1) := by decide +kernel
theorem dX8_next_160 : decode cX8_next 160 = .ok (.aload_n 0, 1) := by decide +kernel
theorem dX8_next_161 : decode cX8_next 161 = .ok (.aload_n 0, 1) := by decide +kernel
theorem dX8_next_162 : decode cX8_next 162 = .ok (.getfield 132, 3) := by decide +kernel
theorem dX8_next_165 : decode cX8_next 165 = .ok (.invokevirtual 135, 3) := by decide +kernel
theorem dX8_next_168 : decode cX8_next 168 = .ok (.i2l, 1) := by decide +kernel
theorem dX8_next_169 : decode cX8_next 169 = .ok (.ldc2_w 149, 3) := by decide +kernel
theorem dX8_next_172 : decode cX8_next 172 = .ok (.ldc2_w 151, 3) := by decide +kernel
theorem dX8_next_175 : decode cX8_next 175 = .ok (.invokestatic 92, 3) := by decide +kernel
theorem dX8_next_178 : decode cX8_next 178 = .ok (.ifCond .eq 57, 3) := by decide +kernel
theorem dX8_next_181 : decode cX8_next 181 = .ok (.aload_n 0, 1) := by decide +kernel
theorem dX8_next_182 : decode cX8_next 182 = .ok (.iload_n 2, 1) := by decide +kernel
theorem dX8_next_183 : decode cX8_next 183 = .ok (.iconst 4, 1) := by decide +kernel
theorem dX8_next_184 : decode cX8_next 184 = .ok (.if_icmp .ge 28, 3) := by decide +kernel
theorem dX8_next_187 : decode cX8_next 187 = .ok (.ldc2_w 157, 3) := by decide +kernel
theorem dX8_next_190 : decode cX8_next 190 = .ok (.aload_n 0, 1) := by decide +kernel
theorem dX8_next_191 : decode cX8_next 191 = .ok (.getfield 153, 3) := by decide +kernel
theorem dX8_next_194 : decode cX8_next 194 = .ok (.lmul, 1) := by decide +kernel
theorem dX8_next_195 : decode cX8_next 195 = .ok (.aload_n 0, 1) := by decide +kernel
theorem dX8_next_196 : decode cX8_next 196 = .ok (.aload_n 0, 1) := by decide +kernel
theorem dX8_next_197 : decode cX8_next 197 = .ok (.getfield 132, 3) := by decide +kernel
theorem dX8_next_200 : decode cX8_next 200 = .ok (.invokevirtual 135, 3) := by decide +kernel
theorem dX8_next_203 : decode cX8_next 203 = .ok (.i2l, 1) := by decide +kernel
theorem dX8_next_204 : decode cX8_next 204 = .ok (.ladd, 1) := by decide +kernel
theorem dX8_next_205 : decode cX8_next 205 = .ok (.ldc2_w 149, 3) := by decide +kernel
theorem dX8_next_208 : decode cX8_next 208 = .ok (.lsub, 1) := by decide +kernel
theorem dX8_next_209 : decode cX8_next 209 = .ok (.goto 7, 3) := by decide +kernel
theorem dX8_next_212 : decode cX8_next 212 = .ok (.aload_n 0, 1) := by decide +kernel
theorem dX8_next_213 : decode cX8_next 213 = .ok (.getfield 153, 3) := by decide +kernel
theorem dX8_next_216 : decode cX8_next 216 = .ok (.putfield 153, 3) := by decide +kernel
theorem dX8_next_219 : decode cX8_next 219 = .ok (.iinc 2 1, 3) := by decide +kernel
theorem dX8_next_222 : decode cX8_next 222 = .ok (.aload_n 0, 1) := by decide +kernel
theorem dX8_next_223 : decode cX8_next 223 = .ok (.dup, 1) := by decide +kernel
theorem dX8_next_224 : decode cX8_next 224 = .ok (.getfield 132, 3) := by decide +kernel
theorem dX8_next_227 : decode cX8_next 227 = .ok (.iconst 1, 1) := by decide +kernel
theorem dX8_next_228 : decode cX8_next 228 = .ok (.iadd, 1) := by decide +kernel
theorem dX8_next_229 : decode cX8_next 229 = .ok (.putfield 132, 3) := by decide +kernel
theorem dX8_next_232 : decode cX8_next 232 = .ok (.goto (-72), 3) := by decide +kernel
theorem dX8_next_235 : decode cX8_next 235 = .ok (.aload_n 0, 1) := by decide +kernel
theorem dX8_next_236 : decode cX8_next 236 = .ok (.iload_n 2, 1) := by decide +kernel
theorem dX8_next_237 : decode cX8_next 237 = .ok (.iconst 4, 1) := by decide +kernel
theorem dX8_next_238 : decode cX8_next 238 = .ok (.if_icmp .le 7, 3) := by decide +kernel
theorem dX8_next_241 : decode cX8_next 241 = .ok (.iconst 4, 1) := by decide +kernel
theorem dX8_next_242 : decode cX8_next 242 = .ok (.goto 4, 3) := by decide +kernel
theorem dX8_next_245 : decode cX8_next 245 = .ok (.iconst 2, 1) := by decide +kernel
theorem dX8_next_246 : decode cX8_next 246 = .ok (.putfield 142, 3) := by decide +kernel
theorem dX8_next_249 : decode cX8_next 249 = .ok (.goto 72, 3) := by decide +kernel
theorem dX8_next_252 : decode cX8_next 252 = .ok (.iload_n 1, 1) := by decide +kernel
theorem dX8_next_253 : decode cX8_next 253 = .ok (.bipush 40, 2) := by decide +kernel
theorem dX8_next_255 : decode cX8_next 255 = .ok (.if_icmp .eq 45, 3) := by decide +kernel
theorem dX8_next_258 : decode cX8_next 258 = .ok (.iload_n 1, 1) := by decide +kernel
theorem dX8_next_259 : decode cX8_next 259 = .ok (.bipush 41, 2) := by decide +kernel
theorem dX8_next_261 : decode cX8_next 261 = .ok (.if_icmp .eq 39, 3) := by decide +kernel
theorem dX8_next_264 : decode cX8_next 264 = .ok (.iload_n 1, 1) := by decide +kernel
theorem dX8_next_265 : decode cX8_next 265 = .ok (.bipush 59, 2) := by decide +kernel
theorem dX8_next_267 : decode cX8_next 267 = .ok (.if_icmp .eq 33, 3) := by decide +kernel
theorem dX8_next_270 : decode cX8_next 270 = .ok (.iload_n 1, 1) := by decide +kernel
theorem dX8_next_271 : decode cX8_next 271 = .ok (.bipush 43, 2) := by decide +kernel
theorem dX8_next_273 : decode cX8_next 273 = .ok (.if_icmp .eq 27, 3) := by decide +kernel
theorem dX8_next_276 : decode cX8_next 276 = .ok (.iload_n 1, 1) := by decide +kernel
theorem dX8_next_277 : decode cX8_next 277 = .ok (.bipush 45, 2) := by decide +kernel
theorem dX8_next_279 : decode cX8_next 279 = .ok (.if_icmp .eq 21, 3) := by decide +kernel
theorem dX8_next_282 : decode cX8_next 282 = .ok (.iload_n 1, 1) := by decide +kernel
theorem dX8_next_283 : decode cX8_next 283 = .ok (.bipush 42, 2) := by decide +kernel
theorem dX8_next_285 : decode cX8_next 285 = .ok (.if_icmp .eq 15, 3) := by decide +kernel
theorem dX8_next_288 : decode cX8_next 288 = .ok (.iload_n 1, 1) := by decide +kernel
theorem dX8_next_289 : decode cX8_next 289 = .ok (.bipush 60, 2) := by decide +kernel
theorem dX8_next_291 : decode cX8_next 291 = .ok (.if_icmp .eq 9, 3) := by decide +kernel
theorem dX8_next_294 : decode cX8_next 294 = .ok (.iload_n 1, 1) := by decide +kernel
theorem dX8_next_295 : decode cX8_next 295 = .ok (.bipush 61, 2) := by decide +kernel
theorem dX8_next_297 : decode cX8_next 297 = .ok (.if_icmp .ne 24, 3) := by decide +kernel
theorem dX8_next_300 : decode cX8_next 300 = .ok (.aload_n 0, 1) := by decide +kernel
theorem dX8_next_301 : decode cX8_next 301 = .ok (.iconst 3, 1) := by decide +kernel
theorem dX8_next_302 : decode cX8_next 302 = .ok (.putfield 142, 3) := by decide +kernel
theorem dX8_next_305 : decode cX8_next 305 = .ok (.aload_n 0, 1) := by decide +kernel
theorem dX8_next_306 : decode cX8_next 306 = .ok (.iload_n 1, 1) := by decide +kernel
theorem dX8_next_307 : decode cX8_next 307 = .ok (.i2l, 1) := by decide +kernel
theorem dX8_next_308 : decode cX8_next 308 = .ok (.putfield 153, 3) := by decide +kernel
theorem dX8_next_311 : decode cX8_next 311 = .ok (.aload_n 0, 1) := by decide +kernel
theorem dX8_next_312 : decode cX8_next 312 = .ok (.dup, 1) := by decide +kernel
theorem dX8_next_313 : decode cX8_next 313 = .ok (.getfield 132, 3) := by decide +kernel
theorem dX8_next_316 : decode cX8_next 316 = .ok (.iconst 1, 1) := by decide +kernel
theorem dX8_next_317 : decode cX8_next 317 = .ok (.iadd, 1) := by decide +kernel
theorem dX8_next_318 : decode cX8_next 318 = .ok (.putfield 132, 3) := by decide +kernel
theorem dX8_next_321 : decode cX8_next 321 = .ok (.return_, 1) := by decide +kernel
theorem dX8_fail_0 : decode cX8_fail 0 = .ok (.aload_n 0, 1) := by decide +kernel
theorem dX8_fail_1 : decode cX8_fail 1 = .ok (.getfield 159, 3) := by decide +kernel
theorem dX8_fail_4 : decode cX8_fail 4 = .ok (.ifCond .ne 16, 3) := by decide +kernel
theorem dX8_fail_7 : decode cX8_fail 7 = .ok (.aload_n 0, 1) := by decide +kernel
theorem dX8_fail_8 : decode cX8_fail 8 = .ok (.iconst 1, 1) := by decide +kernel
theorem dX8_fail_9 : decode cX8_fail 9 = .ok (.putfield 159, 3) := by decide +kernel
theorem dX8_fail_12 : decode cX8_fail 12 = .ok (.aload_n 0, 1) := by decide +kernel
theorem dX8_fail_13 : decode cX8_fail 13 = .ok (.aload_n 0, 1) := by decide +kernel
theorem dX8_fail_14 : decode cX8_fail 14 = .ok (.getfield 139, 3) := by decide +kernel
theorem dX8_fail_17 : decode cX8_fail 17 = .ok (.putfield 163, 3) := by decide +kernel
theorem dX8_fail_20 : decode cX8_fail 20 = .ok (.return_, 1) := by decide +kernel
theorem dX8_isLetter_0 : decode cX8_isLetter 0 = .ok (.aload_n 0, 1) := by decide +kernel
theorem dX8_isLetter_1 : decode cX8_isLetter 1 = .ok (.getfield 139, 3) := by decide +kernel
theorem dX8_isLetter_4 : decode cX8_isLetter 4 = .ok (.iload_n 1, 1) := by decide +kernel
theorem dX8_isLetter_5 : decode cX8_isLetter 5 = .ok (.iadd, 1) := by decide +kernel
theorem dX8_isLetter_6 : decode cX8_isLetter 6 = .ok (.aload_n 0, 1) := by decide +kernel
theorem dX8_isLetter_7 : decode cX8_isLetter 7 = .ok (.getfield 132, 3) := by decide +kernel
theorem dX8_isLetter_10 : decode cX8_isLetter 10 = .ok (.if_icmp .ge 25, 3) := by decide +kernel
theorem dX8_isLetter_13 : decode cX8_isLetter 13 = .ok (.aload_n 0, 1) := by decide +kernel
theorem dX8_isLetter_14 : decode cX8_isLetter 14 = .ok (.aload_n 0, 1) := by decide +kernel
theorem dX8_isLetter_15 : decode cX8_isLetter 15 = .ok (.getfield 139, 3) := by decide +kernel
theorem dX8_isLetter_18 : decode cX8_isLetter 18 = .ok (.iload_n 1, 1) := by decide +kernel
theorem dX8_isLetter_19 : decode cX8_isLetter 19 = .ok (.iadd, 1) := by decide +kernel
theorem dX8_isLetter_20 : decode cX8_isLetter 20 = .ok (.invokevirtual 135, 3) := by decide +kernel
theorem dX8_isLetter_23 : decode cX8_isLetter 23 = .ok (.iload_n 2, 1) := by decide +kernel
theorem dX8_isLetter_24 : decode cX8_isLetter 24 = .ok (.if_icmp .ne 7, 3) := by decide +kernel
theorem dX8_isLetter_27 : decode cX8_isLetter 27 = .ok (.iconst 1, 1) := by decide +kernel
theorem dX8_isLetter_28 : decode cX8_isLetter 28 = .ok (.goto 16, 3) := by decide +kernel
theorem dX8_isLetter_31 : decode cX8_isLetter 31 = .ok (.iconst 0, 1) := by decide +kernel
theorem dX8_isLetter_32 : decode cX8_isLetter 32 = .ok (.goto 12, 3) := by decide +kernel
theorem dX8_isLetter_35 : decode cX8_isLetter 35 = .ok (.iload_n 2, 1) := by decide +kernel
theorem dX8_isLetter_36 : decode cX8_isLetter 36 = .ok (.ifCond .ne 7, 3) := by decide +kernel
theorem dX8_isLetter_39 : decode cX8_isLetter 39 = .ok (.iconst 1, 1) := by decide +kernel
theorem dX8_isLetter_40 : decode cX8_isLetter 40 = .ok (.goto 4, 3) := by decide +kernel
theorem dX8_isLetter_43 : decode cX8_isLetter 43 = .ok (.iconst 0, 1) := by decide +kernel
theorem dX8_isLetter_44 : decode cX8_isLetter 44 = .ok (.ireturn, 1) := by decide +kernel
theorem dX8_isWord_0 : decode cX8_isWord 0 = .ok (.aload_n 0, 1) := by decide +kernel
theorem dX8_isWord_1 : decode cX8_isWord 1 = .ok (.getfield 159, 3) := by decide +kernel
theorem dX8_isWord_4 : decode cX8_isWord 4 = .ok (.ifCond .ne 108, 3) := by decide +kernel
theorem dX8_isWord_7 : decode cX8_isWord 7 = .ok (.aload_n 0, 1) := by decide +kernel
theorem dX8_isWord_8 : decode cX8_isWord 8 = .ok (.getfield 142, 3) := by decide +kernel
theorem dX8_isWord_11 : decode cX8_isWord 11 = .ok (.iconst 1, 1) := by decide +kernel
theorem dX8_isWord_12 : decode cX8_isWord 12 = .ok (.if_icmp .ne 100, 3) := by decide +kernel
theorem dX8_isWord_15 : decode cX8_isWord 15 = .ok (.aload_n 0, 1) := by decide +kernel
theorem dX8_isWord_16 : decode cX8_isWord 16 = .ok (.getfield 132, 3) := by decide +kernel
theorem dX8_isWord_19 : decode cX8_isWord 19 = .ok (.aload_n 0, 1) := by decide +kernel
theorem dX8_isWord_20 : decode cX8_isWord 20 = .ok (.getfield 139, 3) := by decide +kernel
theorem dX8_isWord_23 : decode cX8_isWord 23 = .ok (.bipush 8, 2) := by decide +kernel
theorem dX8_isWord_25 : decode cX8_isWord 25 = .ok (.iadd, 1) := by decide +kernel
theorem dX8_isWord_26 : decode cX8_isWord 26 = .ok (.if_icmp .gt 86, 3) := by decide +kernel
theorem dX8_isWord_29 : decode cX8_isWord 29 = .ok (.aload_n 0, 1) := by decide +kernel
theorem dX8_isWord_30 : decode cX8_isWord 30 = .ok (.iconst 0, 1) := by decide +kernel
theorem dX8_isWord_31 : decode cX8_isWord 31 = .ok (.iload_n 1, 1) := by decide +kernel
theorem dX8_isWord_32 : decode cX8_isWord 32 = .ok (.invokevirtual 166, 3) := by decide +kernel
theorem dX8_isWord_35 : decode cX8_isWord 35 = .ok (.ifCond .eq 77, 3) := by decide +kernel
theorem dX8_isWord_38 : decode cX8_isWord 38 = .ok (.aload_n 0, 1) := by decide +kernel
theorem dX8_isWord_39 : decode cX8_isWord 39 = .ok (.iconst 1, 1) := by decide +kernel
theorem dX8_isWord_40 : decode cX8_isWord 40 = .ok (.iload_n 2, 1) := by decide +kernel
theorem dX8_isWord_41 : decode cX8_isWord 41 = .ok (.invokevirtual 166, 3) := by decide +kernel
theorem dX8_isWord_44 : decode cX8_isWord 44 = .ok (.ifCond .eq 68, 3) := by decide +kernel
theorem dX8_isWord_47 : decode cX8_isWord 47 = .ok (.aload_n 0, 1) := by decide +kernel
theorem dX8_isWord_48 : decode cX8_isWord 48 = .ok (.iconst 2, 1) := by decide +kernel
theorem dX8_isWord_49 : decode cX8_isWord 49 = .ok (.iload_n 3, 1) := by decide +kernel
theorem dX8_isWord_50 : decode cX8_isWord 50 = .ok (.invokevirtual 166, 3) := by decide +kernel
theorem dX8_isWord_53 : decode cX8_isWord 53 = .ok (.ifCond .eq 59, 3) := by decide +kernel
theorem dX8_isWord_56 : decode cX8_isWord 56 = .ok (.aload_n 0, 1) := by decide +kernel
theorem dX8_isWord_57 : decode cX8_isWord 57 = .ok (.iconst 3, 1) := by decide +kernel
theorem dX8_isWord_58 : decode cX8_isWord 58 = .ok (.iload 4, 2) := by decide +kernel
theorem dX8_isWord_60 : decode cX8_isWord 60 = .ok (.invokevirtual 166, 3) := by decide +kernel
theorem dX8_isWord_63 : decode cX8_isWord 63 = .ok (.ifCond .eq 49, 3) := by decide +kernel
theorem dX8_isWord_66 : decode cX8_isWord 66 = .ok (.aload_n 0, 1) := by decide +kernel
theorem dX8_isWord_67 : decode cX8_isWord 67 = .ok (.iconst 4, 1) := by decide +kernel
theorem dX8_isWord_68 : decode cX8_isWord 68 = .ok (.iload 5, 2) := by decide +kernel
theorem dX8_isWord_70 : decode cX8_isWord 70 = .ok (.invokevirtual 166, 3) := by decide +kernel
theorem dX8_isWord_73 : decode cX8_isWord 73 = .ok (.ifCond .eq 39, 3) := by decide +kernel
theorem dX8_isWord_76 : decode cX8_isWord 76 = .ok (.aload_n 0, 1) := by decide +kernel
theorem dX8_isWord_77 : decode cX8_isWord 77 = .ok (.iconst 5, 1) := by decide +kernel
theorem dX8_isWord_78 : decode cX8_isWord 78 = .ok (.iload 6, 2) := by decide +kernel
theorem dX8_isWord_80 : decode cX8_isWord 80 = .ok (.invokevirtual 166, 3) := by decide +kernel
theorem dX8_isWord_83 : decode cX8_isWord 83 = .ok (.ifCond .eq 29, 3) := by decide +kernel
theorem dX8_isWord_86 : decode cX8_isWord 86 = .ok (.aload_n 0, 1) := by decide +kernel
theorem dX8_isWord_87 : decode cX8_isWord 87 = .ok (.bipush 6, 2) := by decide +kernel
theorem dX8_isWord_89 : decode cX8_isWord 89 = .ok (.iload 7, 2) := by decide +kernel
theorem dX8_isWord_91 : decode cX8_isWord 91 = .ok (.invokevirtual 166, 3) := by decide +kernel
theorem dX8_isWord_94 : decode cX8_isWord 94 = .ok (.ifCond .eq 18, 3) := by decide +kernel
theorem dX8_isWord_97 : decode cX8_isWord 97 = .ok (.aload_n 0, 1) := by decide +kernel
theorem dX8_isWord_98 : decode cX8_isWord 98 = .ok (.bipush 7, 2) := by decide +kernel
theorem dX8_isWord_100 : decode cX8_isWord 100 = .ok (.iload 8, 2) := by decide +kernel
theorem dX8_isWord_102 : decode cX8_isWord 102 = .ok (.invokevirtual 166, 3) := by decide +kernel
theorem dX8_isWord_105 : decode cX8_isWord 105 = .ok (.ifCond .eq 7, 3) := by decide +kernel
theorem dX8_isWord_108 : decode cX8_isWord 108 = .ok (.iconst 1, 1) := by decide +kernel
theorem dX8_isWord_109 : decode cX8_isWord 109 = .ok (.goto 4, 3) := by decide +kernel
theorem dX8_isWord_112 : decode cX8_isWord 112 = .ok (.iconst 0, 1) := by decide +kernel
theorem dX8_isWord_113 : decode cX8_isWord 113 = .ok (.ireturn, 1) := by decide +kernel
theorem dX8_isSign_0 : decode cX8_isSign 0 = .ok (.aload_n 0, 1) := by decide +kernel
theorem dX8_isSign_1 : decode cX8_isSign 1 = .ok (.getfield 159, 3) := by decide +kernel
theorem dX8_isSign_4 : decode cX8_isSign 4 = .ok (.ifCond .ne 25, 3) := by decide +kernel
theorem dX8_isSign_7 : decode cX8_isSign 7 = .ok (.aload_n 0, 1) := by decide +kernel
theorem dX8_isSign_8 : decode cX8_isSign 8 = .ok (.getfield 142, 3) := by decide +kernel
theorem dX8_isSign_11 : decode cX8_isSign 11 = .ok (.iconst 3, 1) := by decide +kernel
theorem dX8_isSign_12 : decode cX8_isSign 12 = .ok (.if_icmp .ne 17, 3) := by decide +kernel
theorem dX8_isSign_15 : decode cX8_isSign 15 = .ok (.aload_n 0, 1) := by decide +kernel
theorem dX8_isSign_16 : decode cX8_isSign 16 = .ok (.getfield 153, 3) := by decide +kernel
theorem dX8_isSign_19 : decode cX8_isSign 19 = .ok (.iload_n 1, 1) := by decide +kernel
theorem dX8_isSign_20 : decode cX8_isSign 20 = .ok (.i2l, 1) := by decide +kernel
theorem dX8_isSign_21 : decode cX8_isSign 21 = .ok (.lcmp, 1) := by decide +kernel
theorem dX8_isSign_22 : decode cX8_isSign 22 = .ok (.ifCond .ne 7, 3) := by decide +kernel
theorem dX8_isSign_25 : decode cX8_isSign 25 = .ok (.iconst 1, 1) := by decide +kernel
theorem dX8_isSign_26 : decode cX8_isSign 26 = .ok (.goto 4, 3) := by decide +kernel
theorem dX8_isSign_29 : decode cX8_isSign 29 = .ok (.iconst 0, 1) := by decide +kernel
theorem dX8_isSign_30 : decode cX8_isSign 30 = .ok (.ireturn, 1) := by decide +kernel
theorem dX8_opens_0 : decode cX8_opens 0 = .ok (.aload_n 0, 1) := by decide +kernel
theorem dX8_opens_1 : decode cX8_opens 1 = .ok (.getfield 169, 3) := by decide +kernel
theorem dX8_opens_4 : decode cX8_opens 4 = .ok (.iconst 5, 1) := by decide +kernel
theorem dX8_opens_5 : decode cX8_opens 5 = .ok (.if_icmp .ne 9, 3) := by decide +kernel
theorem dX8_opens_8 : decode cX8_opens 8 = .ok (.aload_n 0, 1) := by decide +kernel
theorem dX8_opens_9 : decode cX8_opens 9 = .ok (.invokevirtual 172, 3) := by decide +kernel
theorem dX8_opens_12 : decode cX8_opens 12 = .ok (.iconst 0, 1) := by decide +kernel
theorem dX8_opens_13 : decode cX8_opens 13 = .ok (.ireturn, 1) := by decide +kernel
theorem dX8_opens_14 : decode cX8_opens 14 = .ok (.aload_n 0, 1) := by decide +kernel
theorem dX8_opens_15 : decode cX8_opens 15 = .ok (.dup, 1) := by decide +kernel
theorem dX8_opens_16 : decode cX8_opens 16 = .ok (.getfield 169, 3) := by decide +kernel
theorem dX8_opens_19 : decode cX8_opens 19 = .ok (.iconst 1, 1) := by decide +kernel
theorem dX8_opens_20 : decode cX8_opens 20 = .ok (.iadd, 1) := by decide +kernel
theorem dX8_opens_21 : decode cX8_opens 21 = .ok (.putfield 169, 3) := by decide +kernel
theorem dX8_opens_24 : decode cX8_opens 24 = .ok (.aload_n 0, 1) := by decide +kernel
theorem dX8_opens_25 : decode cX8_opens 25 = .ok (.invokevirtual 175, 3) := by decide +kernel
theorem dX8_opens_28 : decode cX8_opens 28 = .ok (.iconst 1, 1) := by decide +kernel
theorem dX8_opens_29 : decode cX8_opens 29 = .ok (.ireturn, 1) := by decide +kernel
theorem dX8_name_0 : decode cX8_name 0 = .ok (.aload_n 0, 1) := by decide +kernel
theorem dX8_name_1 : decode cX8_name 1 = .ok (.bipush 119, 2) := by decide +kernel
theorem dX8_name_3 : decode cX8_name 3 = .ok (.bipush 97, 2) := by decide +kernel
theorem dX8_name_5 : decode cX8_name 5 = .ok (.bipush 105, 2) := by decide +kernel
theorem dX8_name_7 : decode cX8_name 7 = .ok (.bipush 116, 2) := by decide +kernel
theorem dX8_name_9 : decode cX8_name 9 = .ok (.bipush 101, 2) := by decide +kernel
theorem dX8_name_11 : decode cX8_name 11 = .ok (.bipush 100, 2) := by decide +kernel
theorem dX8_name_13 : decode cX8_name 13 = .ok (.iconst 0, 1) := by decide +kernel
theorem dX8_name_14 : decode cX8_name 14 = .ok (.iconst 0, 1) := by decide +kernel
theorem dX8_name_15 : decode cX8_name 15 = .ok (.invokevirtual 178, 3) := by decide +kernel
theorem dX8_name_18 : decode cX8_name 18 = .ok (.ifCond .eq 8, 3) := by decide +kernel
theorem dX8_name_21 : decode cX8_name 21 = .ok (.aload_n 0, 1) := by decide +kernel
theorem dX8_name_22 : decode cX8_name 22 = .ok (.getfield 182, 3) := by decide +kernel
theorem dX8_name_25 : decode cX8_name 25 = .ok (.ireturn, 1) := by decide +kernel
theorem dX8_name_26 : decode cX8_name 26 = .ok (.aload_n 0, 1) := by decide +kernel
theorem dX8_name_27 : decode cX8_name 27 = .ok (.bipush 112, 2) := by decide +kernel
theorem dX8_name_29 : decode cX8_name 29 = .ok (.bipush 114, 2) := by decide +kernel
theorem dX8_name_31 : decode cX8_name 31 = .ok (.bipush 105, 2) := by decide +kernel
theorem dX8_name_33 : decode cX8_name 33 = .ok (.bipush 99, 2) := by decide +kernel
theorem dX8_name_35 : decode cX8_name 35 = .ok (.bipush 101, 2) := by decide +kernel
theorem dX8_name_37 : decode cX8_name 37 = .ok (.iconst 0, 1) := by decide +kernel
theorem dX8_name_38 : decode cX8_name 38 = .ok (.iconst 0, 1) := by decide +kernel
theorem dX8_name_39 : decode cX8_name 39 = .ok (.iconst 0, 1) := by decide +kernel
theorem dX8_name_40 : decode cX8_name 40 = .ok (.invokevirtual 178, 3) := by decide +kernel
theorem dX8_name_43 : decode cX8_name 43 = .ok (.ifCond .eq 8, 3) := by decide +kernel
theorem dX8_name_46 : decode cX8_name 46 = .ok (.aload_n 0, 1) := by decide +kernel
theorem dX8_name_47 : decode cX8_name 47 = .ok (.getfield 185, 3) := by decide +kernel
theorem dX8_name_50 : decode cX8_name 50 = .ok (.ireturn, 1) := by decide +kernel
theorem dX8_name_51 : decode cX8_name 51 = .ok (.aload_n 0, 1) := by decide +kernel
theorem dX8_name_52 : decode cX8_name 52 = .ok (.bipush 109, 2) := by decide +kernel
theorem dX8_name_54 : decode cX8_name 54 = .ok (.bipush 105, 2) := by decide +kernel
theorem dX8_name_56 : decode cX8_name 56 = .ok (.bipush 110, 2) := by decide +kernel
theorem dX8_name_58 : decode cX8_name 58 = .ok (.bipush 117, 2) := by decide +kernel
theorem dX8_name_60 : decode cX8_name 60 = .ok (.bipush 116, 2) := by decide +kernel
theorem dX8_name_62 : decode cX8_name 62 = .ok (.bipush 101, 2) := by decide +kernel
theorem dX8_name_64 : decode cX8_name 64 = .ok (.iconst 0, 1) := by decide +kernel
theorem dX8_name_65 : decode cX8_name 65 = .ok (.iconst 0, 1) := by decide +kernel
theorem dX8_name_66 : decode cX8_name 66 = .ok (.invokevirtual 178, 3) := by decide +kernel
theorem dX8_name_69 : decode cX8_name 69 = .ok (.ifCond .eq 8, 3) := by decide +kernel
theorem dX8_name_72 : decode cX8_name 72 = .ok (.aload_n 0, 1) := by decide +kernel
theorem dX8_name_73 : decode cX8_name 73 = .ok (.getfield 188, 3) := by decide +kernel
theorem dX8_name_76 : decode cX8_name 76 = .ok (.ireturn, 1) := by decide +kernel
theorem dX8_name_77 : decode cX8_name 77 = .ok (.aload_n 0, 1) := by decide +kernel
theorem dX8_name_78 : decode cX8_name 78 = .ok (.bipush 98, 2) := by decide +kernel
theorem dX8_name_80 : decode cX8_name 80 = .ok (.bipush 114, 2) := by decide +kernel
theorem dX8_name_82 : decode cX8_name 82 = .ok (.bipush 105, 2) := by decide +kernel
theorem dX8_name_84 : decode cX8_name 84 = .ok (.bipush 100, 2) := by decide +kernel
theorem dX8_name_86 : decode cX8_name 86 = .ok (.bipush 103, 2) := by decide +kernel
theorem dX8_name_88 : decode cX8_name 88 = .ok (.bipush 101, 2) := by decide +kernel
theorem dX8_name_90 : decode cX8_name 90 = .ok (.iconst 0, 1) := by decide +kernel
theorem dX8_name_91 : decode cX8_name 91 = .ok (.iconst 0, 1) := by decide +kernel
theorem dX8_name_92 : decode cX8_name 92 = .ok (.invokevirtual 178, 3) := by decide +kernel
theorem dX8_name_95 : decode cX8_name 95 = .ok (.ifCond .eq 8, 3) := by decide +kernel
theorem dX8_name_98 : decode cX8_name 98 = .ok (.aload_n 0, 1) := by decide +kernel
theorem dX8_name_99 : decode cX8_name 99 = .ok (.getfield 191, 3) := by decide +kernel
theorem dX8_name_102 : decode cX8_name 102 = .ok (.ireturn, 1) := by decide +kernel
theorem dX8_name_103 : decode cX8_name 103 = .ok (.aload_n 0, 1) := by decide +kernel
theorem dX8_name_104 : decode cX8_name 104 = .ok (.bipush 119, 2) := by decide +kernel
theorem dX8_name_106 : decode cX8_name 106 = .ok (.bipush 97, 2) := by decide +kernel
theorem dX8_name_108 : decode cX8_name 108 = .ok (.bipush 115, 2) := by decide +kernel
theorem dX8_name_110 : decode cX8_name 110 = .ok (.iconst 0, 1) := by decide +kernel
theorem dX8_name_111 : decode cX8_name 111 = .ok (.iconst 0, 1) := by decide +kernel
theorem dX8_name_112 : decode cX8_name 112 = .ok (.iconst 0, 1) := by decide +kernel
theorem dX8_name_113 : decode cX8_name 113 = .ok (.iconst 0, 1) := by decide +kernel
theorem dX8_name_114 : decode cX8_name 114 = .ok (.iconst 0, 1) := by decide +kernel
theorem dX8_name_115 : decode cX8_name 115 = .ok (.invokevirtual 178, 3) := by decide +kernel
theorem dX8_name_118 : decode cX8_name 118 = .ok (.ifCond .eq 8, 3) := by decide +kernel
theorem dX8_name_121 : decode cX8_name 121 = .ok (.aload_n 0, 1) := by decide +kernel
theorem dX8_name_122 : decode cX8_name 122 = .ok (.getfield 194, 3) := by decide +kernel
theorem dX8_name_125 : decode cX8_name 125 = .ok (.ireturn, 1) := by decide +kernel
theorem dX8_name_126 : decode cX8_name 126 = .ok (.aload_n 0, 1) := by decide +kernel
theorem dX8_name_127 : decode cX8_name 127 = .ok (.bipush 109, 2) := by decide +kernel
theorem dX8_name_129 : decode cX8_name 129 = .ok (.bipush 97, 2) := by decide +kernel
theorem dX8_name_131 : decode cX8_name 131 = .ok (.bipush 110, 2) := by decide +kernel
theorem dX8_name_133 : decode cX8_name 133 = .ok (.bipush 121, 2) := by decide +kernel
theorem dX8_name_135 : decode cX8_name 135 = .ok (.iconst 0, 1) := by decide +kernel
theorem dX8_name_136 : decode cX8_name 136 = .ok (.iconst 0, 1) := by decide +kernel
theorem dX8_name_137 : decode cX8_name 137 = .ok (.iconst 0, 1) := by decide +kernel
theorem dX8_name_138 : decode cX8_name 138 = .ok (.iconst 0, 1) := by decide +kernel
theorem dX8_name_139 : decode cX8_name 139 = .ok (.invokevirtual 178, 3) := by decide +kernel
theorem dX8_name_142 : decode cX8_name 142 = .ok (.ifCond .eq 8, 3) := by decide +kernel
theorem dX8_name_145 : decode cX8_name 145 = .ok (.aload_n 0, 1) := by decide +kernel
theorem dX8_name_146 : decode cX8_name 146 = .ok (.getfield 197, 3) := by decide +kernel
theorem dX8_name_149 : decode cX8_name 149 = .ok (.ireturn, 1) := by decide +kernel
theorem dX8_name_150 : decode cX8_name 150 = .ok (.aload_n 0, 1) := by decide +kernel
theorem dX8_name_151 : decode cX8_name 151 = .ok (.invokevirtual 172, 3) := by decide +kernel
theorem dX8_name_154 : decode cX8_name 154 = .ok (.iconst 0, 1) := by decide +kernel
theorem dX8_name_155 : decode cX8_name 155 = .ok (.ireturn, 1) := by decide +kernel
theorem dX8_atom5_0 : decode cX8_atom5 0 = .ok (.iconst 0, 1) := by decide +kernel
theorem dX8_atom5_1 : decode cX8_atom5 1 = .ok (.istore_n 1, 1) := by decide +kernel
theorem dX8_atom5_2 : decode cX8_atom5 2 = .ok (.aload_n 0, 1) := by decide +kernel
theorem dX8_atom5_3 : decode cX8_atom5 3 = .ok (.bipush 45, 2) := by decide +kernel
theorem dX8_atom5_5 : decode cX8_atom5 5 = .ok (.invokevirtual 200, 3) := by decide +kernel
theorem dX8_atom5_8 : decode cX8_atom5 8 = .ok (.ifCond .eq 11, 3) := by decide +kernel
theorem dX8_atom5_11 : decode cX8_atom5 11 = .ok (.aload_n 0, 1) := by decide +kernel
theorem dX8_atom5_12 : decode cX8_atom5 12 = .ok (.invokevirtual 204, 3) := by decide +kernel
theorem dX8_atom5_15 : decode cX8_atom5 15 = .ok (.pop, 1) := by decide +kernel
theorem dX8_atom5_16 : decode cX8_atom5 16 = .ok (.goto 86, 3) := by decide +kernel
theorem dX8_atom5_19 : decode cX8_atom5 19 = .ok (.aload_n 0, 1) := by decide +kernel
theorem dX8_atom5_20 : decode cX8_atom5 20 = .ok (.bipush 40, 2) := by decide +kernel
theorem dX8_atom5_22 : decode cX8_atom5 22 = .ok (.invokevirtual 200, 3) := by decide +kernel
theorem dX8_atom5_25 : decode cX8_atom5 25 = .ok (.ifCond .eq 11, 3) := by decide +kernel
theorem dX8_atom5_28 : decode cX8_atom5 28 = .ok (.aload_n 0, 1) := by decide +kernel
theorem dX8_atom5_29 : decode cX8_atom5 29 = .ok (.invokevirtual 204, 3) := by decide +kernel
theorem dX8_atom5_32 : decode cX8_atom5 32 = .ok (.pop, 1) := by decide +kernel
theorem dX8_atom5_33 : decode cX8_atom5 33 = .ok (.goto 69, 3) := by decide +kernel
theorem dX8_atom5_36 : decode cX8_atom5 36 = .ok (.aload_n 0, 1) := by decide +kernel
theorem dX8_atom5_37 : decode cX8_atom5 37 = .ok (.getfield 159, 3) := by decide +kernel
theorem dX8_atom5_40 : decode cX8_atom5 40 = .ok (.ifCond .ne 24, 3) := by decide +kernel
theorem dX8_atom5_43 : decode cX8_atom5 43 = .ok (.aload_n 0, 1) := by decide +kernel
theorem dX8_atom5_44 : decode cX8_atom5 44 = .ok (.getfield 142, 3) := by decide +kernel
theorem dX8_atom5_47 : decode cX8_atom5 47 = .ok (.iconst 2, 1) := by decide +kernel
theorem dX8_atom5_48 : decode cX8_atom5 48 = .ok (.if_icmp .ne 16, 3) := by decide +kernel
theorem dX8_atom5_51 : decode cX8_atom5 51 = .ok (.aload_n 0, 1) := by decide +kernel
theorem dX8_atom5_52 : decode cX8_atom5 52 = .ok (.getfield 153, 3) := by decide +kernel
theorem dX8_atom5_55 : decode cX8_atom5 55 = .ok (.l2i, 1) := by decide +kernel
theorem dX8_atom5_56 : decode cX8_atom5 56 = .ok (.istore_n 1, 1) := by decide +kernel
theorem dX8_atom5_57 : decode cX8_atom5 57 = .ok (.aload_n 0, 1) := by decide +kernel
theorem dX8_atom5_58 : decode cX8_atom5 58 = .ok (.invokevirtual 175, 3) := by decide +kernel
theorem dX8_atom5_61 : decode cX8_atom5 61 = .ok (.goto 41, 3) := by decide +kernel
theorem dX8_atom5_64 : decode cX8_atom5 64 = .ok (.aload_n 0, 1) := by decide +kernel
theorem dX8_atom5_65 : decode cX8_atom5 65 = .ok (.getfield 159, 3) := by decide +kernel
theorem dX8_atom5_68 : decode cX8_atom5 68 = .ok (.ifCond .ne 30, 3) := by decide +kernel
theorem dX8_atom5_71 : decode cX8_atom5 71 = .ok (.aload_n 0, 1) := by decide +kernel
theorem dX8_atom5_72 : decode cX8_atom5 72 = .ok (.getfield 142, 3) := by decide +kernel
theorem dX8_atom5_75 : decode cX8_atom5 75 = .ok (.iconst 1, 1) := by decide +kernel
theorem dX8_atom5_76 : decode cX8_atom5 76 = .ok (.if_icmp .ne 22, 3) := by decide +kernel
theorem dX8_atom5_79 : decode cX8_atom5 79 = .ok (.aload_n 0, 1) := by decide +kernel
theorem dX8_atom5_80 : decode cX8_atom5 80 = .ok (.invokevirtual 208, 3) := by decide +kernel
theorem dX8_atom5_83 : decode cX8_atom5 83 = .ok (.istore_n 1, 1) := by decide +kernel
theorem dX8_atom5_84 : decode cX8_atom5 84 = .ok (.aload_n 0, 1) := by decide +kernel
theorem dX8_atom5_85 : decode cX8_atom5 85 = .ok (.getfield 159, 3) := by decide +kernel
theorem dX8_atom5_88 : decode cX8_atom5 88 = .ok (.ifCond .ne 14, 3) := by decide +kernel
theorem dX8_atom5_91 : decode cX8_atom5 91 = .ok (.aload_n 0, 1) := by decide +kernel
theorem dX8_atom5_92 : decode cX8_atom5 92 = .ok (.invokevirtual 175, 3) := by decide +kernel
theorem dX8_atom5_95 : decode cX8_atom5 95 = .ok (.goto 7, 3) := by decide +kernel
theorem dX8_atom5_98 : decode cX8_atom5 98 = .ok (.aload_n 0, 1) := by decide +kernel
theorem dX8_atom5_99 : decode cX8_atom5 99 = .ok (.invokevirtual 172, 3) := by decide +kernel
theorem dX8_atom5_102 : decode cX8_atom5 102 = .ok (.iload_n 1, 1) := by decide +kernel
theorem dX8_atom5_103 : decode cX8_atom5 103 = .ok (.ireturn, 1) := by decide +kernel
theorem dX8_term5_0 : decode cX8_term5 0 = .ok (.aload_n 0, 1) := by decide +kernel
theorem dX8_term5_1 : decode cX8_term5 1 = .ok (.invokevirtual 212, 3) := by decide +kernel
theorem dX8_term5_4 : decode cX8_term5 4 = .ok (.istore_n 1, 1) := by decide +kernel
theorem dX8_term5_5 : decode cX8_term5 5 = .ok (.aload_n 0, 1) := by decide +kernel
theorem dX8_term5_6 : decode cX8_term5 6 = .ok (.bipush 42, 2) := by decide +kernel
theorem dX8_term5_8 : decode cX8_term5 8 = .ok (.invokevirtual 200, 3) := by decide +kernel
theorem dX8_term5_11 : decode cX8_term5 11 = .ok (.ifCond .eq 17, 3) := by decide +kernel
theorem dX8_term5_14 : decode cX8_term5 14 = .ok (.aload_n 0, 1) := by decide +kernel
theorem dX8_term5_15 : decode cX8_term5 15 = .ok (.invokevirtual 175, 3) := by decide +kernel
theorem dX8_term5_18 : decode cX8_term5 18 = .ok (.iload_n 1, 1) := by decide +kernel
theorem dX8_term5_19 : decode cX8_term5 19 = .ok (.aload_n 0, 1) := by decide +kernel
theorem dX8_term5_20 : decode cX8_term5 20 = .ok (.invokevirtual 212, 3) := by decide +kernel
theorem dX8_term5_23 : decode cX8_term5 23 = .ok (.imul, 1) := by decide +kernel
theorem dX8_term5_24 : decode cX8_term5 24 = .ok (.istore_n 1, 1) := by decide +kernel
theorem dX8_term5_25 : decode cX8_term5 25 = .ok (.goto (-20), 3) := by decide +kernel
theorem dX8_term5_28 : decode cX8_term5 28 = .ok (.iload_n 1, 1) := by decide +kernel
theorem dX8_term5_29 : decode cX8_term5 29 = .ok (.ireturn, 1) := by decide +kernel
theorem dX8_added5_0 : decode cX8_added5 0 = .ok (.aload_n 0, 1) := by decide +kernel
theorem dX8_added5_1 : decode cX8_added5 1 = .ok (.invokevirtual 215, 3) := by decide +kernel
theorem dX8_added5_4 : decode cX8_added5 4 = .ok (.istore_n 1, 1) := by decide +kernel
theorem dX8_added5_5 : decode cX8_added5 5 = .ok (.aload_n 0, 1) := by decide +kernel
theorem dX8_added5_6 : decode cX8_added5 6 = .ok (.bipush 43, 2) := by decide +kernel
theorem dX8_added5_8 : decode cX8_added5 8 = .ok (.invokevirtual 200, 3) := by decide +kernel
theorem dX8_added5_11 : decode cX8_added5 11 = .ok (.ifCond .ne 12, 3) := by decide +kernel
theorem dX8_added5_14 : decode cX8_added5 14 = .ok (.aload_n 0, 1) := by decide +kernel
theorem dX8_added5_15 : decode cX8_added5 15 = .ok (.bipush 45, 2) := by decide +kernel
theorem dX8_added5_17 : decode cX8_added5 17 = .ok (.invokevirtual 200, 3) := by decide +kernel
theorem dX8_added5_20 : decode cX8_added5 20 = .ok (.ifCond .eq 46, 3) := by decide +kernel
theorem dX8_added5_23 : decode cX8_added5 23 = .ok (.aload_n 0, 1) := by decide +kernel
theorem dX8_added5_24 : decode cX8_added5 24 = .ok (.getfield 153, 3) := by decide +kernel
theorem dX8_added5_27 : decode cX8_added5 27 = .ok (.ldc2_w 218, 3) := by decide +kernel
theorem dX8_added5_30 : decode cX8_added5 30 = .ok (.lcmp, 1) := by decide +kernel
theorem dX8_added5_31 : decode cX8_added5 31 = .ok (.ifCond .ne 7, 3) := by decide +kernel
theorem dX8_added5_34 : decode cX8_added5 34 = .ok (.iconst 1, 1) := by decide +kernel
theorem dX8_added5_35 : decode cX8_added5 35 = .ok (.goto 4, 3) := by decide +kernel
theorem dX8_added5_38 : decode cX8_added5 38 = .ok (.iconst 0, 1) := by decide +kernel
theorem dX8_added5_39 : decode cX8_added5 39 = .ok (.istore_n 2, 1) := by decide +kernel
theorem dX8_added5_40 : decode cX8_added5 40 = .ok (.aload_n 0, 1) := by decide +kernel
theorem dX8_added5_41 : decode cX8_added5 41 = .ok (.invokevirtual 175, 3) := by decide +kernel
theorem dX8_added5_44 : decode cX8_added5 44 = .ok (.aload_n 0, 1) := by decide +kernel
theorem dX8_added5_45 : decode cX8_added5 45 = .ok (.invokevirtual 215, 3) := by decide +kernel
theorem dX8_added5_48 : decode cX8_added5 48 = .ok (.istore_n 3, 1) := by decide +kernel
theorem dX8_added5_49 : decode cX8_added5 49 = .ok (.iload_n 2, 1) := by decide +kernel
theorem dX8_added5_50 : decode cX8_added5 50 = .ok (.ifCond .eq 9, 3) := by decide +kernel
theorem dX8_added5_53 : decode cX8_added5 53 = .ok (.iload_n 1, 1) := by decide +kernel
theorem dX8_added5_54 : decode cX8_added5 54 = .ok (.iload_n 3, 1) := by decide +kernel
theorem dX8_added5_55 : decode cX8_added5 55 = .ok (.iadd, 1) := by decide +kernel
theorem dX8_added5_56 : decode cX8_added5 56 = .ok (.goto 6, 3) := by decide +kernel
theorem dX8_added5_59 : decode cX8_added5 59 = .ok (.iload_n 1, 1) := by decide +kernel
theorem dX8_added5_60 : decode cX8_added5 60 = .ok (.iload_n 3, 1) := by decide +kernel
theorem dX8_added5_61 : decode cX8_added5 61 = .ok (.isub, 1) := by decide +kernel
theorem dX8_added5_62 : decode cX8_added5 62 = .ok (.istore_n 1, 1) := by decide +kernel
theorem dX8_added5_63 : decode cX8_added5 63 = .ok (.goto (-58), 3) := by decide +kernel
theorem dX8_added5_66 : decode cX8_added5 66 = .ok (.iload_n 1, 1) := by decide +kernel
theorem dX8_added5_67 : decode cX8_added5 67 = .ok (.ireturn, 1) := by decide +kernel
theorem dX8_not5_0 : decode cX8_not5 0 = .ok (.aload_n 0, 1) := by decide +kernel
theorem dX8_not5_1 : decode cX8_not5 1 = .ok (.bipush 110, 2) := by decide +kernel
theorem dX8_not5_3 : decode cX8_not5 3 = .ok (.bipush 111, 2) := by decide +kernel
theorem dX8_not5_5 : decode cX8_not5 5 = .ok (.bipush 116, 2) := by decide +kernel
theorem dX8_not5_7 : decode cX8_not5 7 = .ok (.iconst 0, 1) := by decide +kernel
theorem dX8_not5_8 : decode cX8_not5 8 = .ok (.iconst 0, 1) := by decide +kernel
theorem dX8_not5_9 : decode cX8_not5 9 = .ok (.iconst 0, 1) := by decide +kernel
theorem dX8_not5_10 : decode cX8_not5 10 = .ok (.iconst 0, 1) := by decide +kernel
theorem dX8_not5_11 : decode cX8_not5 11 = .ok (.iconst 0, 1) := by decide +kernel
theorem dX8_not5_12 : decode cX8_not5 12 = .ok (.invokevirtual 178, 3) := by decide +kernel
theorem dX8_not5_15 : decode cX8_not5 15 = .ok (.ifCond .eq 10, 3) := by decide +kernel
theorem dX8_not5_18 : decode cX8_not5 18 = .ok (.aload_n 0, 1) := by decide +kernel
theorem dX8_not5_19 : decode cX8_not5 19 = .ok (.invokevirtual 204, 3) := by decide +kernel
theorem dX8_not5_22 : decode cX8_not5 22 = .ok (.pop, 1) := by decide +kernel
theorem dX8_not5_23 : decode cX8_not5 23 = .ok (.iconst 0, 1) := by decide +kernel
theorem dX8_not5_24 : decode cX8_not5 24 = .ok (.ireturn, 1) := by decide +kernel
theorem dX8_not5_25 : decode cX8_not5 25 = .ok (.aload_n 0, 1) := by decide +kernel
theorem dX8_not5_26 : decode cX8_not5 26 = .ok (.invokevirtual 220, 3) := by decide +kernel
theorem dX8_not5_29 : decode cX8_not5 29 = .ok (.istore_n 1, 1) := by decide +kernel
theorem dX8_not5_30 : decode cX8_not5 30 = .ok (.aload_n 0, 1) := by decide +kernel
theorem dX8_not5_31 : decode cX8_not5 31 = .ok (.bipush 60, 2) := by decide +kernel
theorem dX8_not5_33 : decode cX8_not5 33 = .ok (.invokevirtual 200, 3) := by decide +kernel
theorem dX8_not5_36 : decode cX8_not5 36 = .ok (.ifCond .ne 14, 3) := by decide +kernel
theorem dX8_not5_39 : decode cX8_not5 39 = .ok (.aload_n 0, 1) := by decide +kernel
theorem dX8_not5_40 : decode cX8_not5 40 = .ok (.bipush 61, 2) := by decide +kernel
theorem dX8_not5_42 : decode cX8_not5 42 = .ok (.invokevirtual 200, 3) := by decide +kernel
theorem dX8_not5_45 : decode cX8_not5 45 = .ok (.ifCond .ne 5, 3) := by decide +kernel
theorem dX8_not5_48 : decode cX8_not5 48 = .ok (.iload_n 1, 1) := by decide +kernel
theorem dX8_not5_49 : decode cX8_not5 49 = .ok (.ireturn, 1) := by decide +kernel
theorem dX8_not5_50 : decode cX8_not5 50 = .ok (.aload_n 0, 1) := by decide +kernel
theorem dX8_not5_51 : decode cX8_not5 51 = .ok (.getfield 153, 3) := by decide +kernel
theorem dX8_not5_54 : decode cX8_not5 54 = .ok (.ldc2_w 223, 3) := by decide +kernel
theorem dX8_not5_57 : decode cX8_not5 57 = .ok (.lcmp, 1) := by decide +kernel
theorem dX8_not5_58 : decode cX8_not5 58 = .ok (.ifCond .ne 7, 3) := by decide +kernel
theorem dX8_not5_61 : decode cX8_not5 61 = .ok (.iconst 1, 1) := by decide +kernel
theorem dX8_not5_62 : decode cX8_not5 62 = .ok (.goto 4, 3) := by decide +kernel
theorem dX8_not5_65 : decode cX8_not5 65 = .ok (.iconst 0, 1) := by decide +kernel
theorem dX8_not5_66 : decode cX8_not5 66 = .ok (.istore_n 2, 1) := by decide +kernel
theorem dX8_not5_67 : decode cX8_not5 67 = .ok (.aload_n 0, 1) := by decide +kernel
theorem dX8_not5_68 : decode cX8_not5 68 = .ok (.invokevirtual 175, 3) := by decide +kernel
theorem dX8_not5_71 : decode cX8_not5 71 = .ok (.aload_n 0, 1) := by decide +kernel
theorem dX8_not5_72 : decode cX8_not5 72 = .ok (.invokevirtual 220, 3) := by decide +kernel
theorem dX8_not5_75 : decode cX8_not5 75 = .ok (.istore_n 3, 1) := by decide +kernel
theorem dX8_not5_76 : decode cX8_not5 76 = .ok (.iload_n 2, 1) := by decide +kernel
theorem dX8_not5_77 : decode cX8_not5 77 = .ok (.ifCond .eq 11, 3) := by decide +kernel
theorem dX8_not5_80 : decode cX8_not5 80 = .ok (.iload_n 1, 1) := by decide +kernel
theorem dX8_not5_81 : decode cX8_not5 81 = .ok (.iload_n 3, 1) := by decide +kernel
theorem dX8_not5_82 : decode cX8_not5 82 = .ok (.if_icmp .ge 15, 3) := by decide +kernel
theorem dX8_not5_85 : decode cX8_not5 85 = .ok (.goto 8, 3) := by decide +kernel
theorem dX8_not5_88 : decode cX8_not5 88 = .ok (.iload_n 1, 1) := by decide +kernel
theorem dX8_not5_89 : decode cX8_not5 89 = .ok (.iload_n 3, 1) := by decide +kernel
theorem dX8_not5_90 : decode cX8_not5 90 = .ok (.if_icmp .ne 7, 3) := by decide +kernel
theorem dX8_not5_93 : decode cX8_not5 93 = .ok (.iconst 1, 1) := by decide +kernel
theorem dX8_not5_94 : decode cX8_not5 94 = .ok (.goto 4, 3) := by decide +kernel
theorem dX8_not5_97 : decode cX8_not5 97 = .ok (.iconst 0, 1) := by decide +kernel
theorem dX8_not5_98 : decode cX8_not5 98 = .ok (.ireturn, 1) := by decide +kernel
theorem dX8_both5_0 : decode cX8_both5 0 = .ok (.aload_n 0, 1) := by decide +kernel
theorem dX8_both5_1 : decode cX8_both5 1 = .ok (.invokevirtual 225, 3) := by decide +kernel
theorem dX8_both5_4 : decode cX8_both5 4 = .ok (.istore_n 1, 1) := by decide +kernel
theorem dX8_both5_5 : decode cX8_both5 5 = .ok (.aload_n 0, 1) := by decide +kernel
theorem dX8_both5_6 : decode cX8_both5 6 = .ok (.bipush 97, 2) := by decide +kernel
theorem dX8_both5_8 : decode cX8_both5 8 = .ok (.bipush 110, 2) := by decide +kernel
theorem dX8_both5_10 : decode cX8_both5 10 = .ok (.bipush 100, 2) := by decide +kernel
theorem dX8_both5_12 : decode cX8_both5 12 = .ok (.iconst 0, 1) := by decide +kernel
theorem dX8_both5_13 : decode cX8_both5 13 = .ok (.iconst 0, 1) := by decide +kernel
theorem dX8_both5_14 : decode cX8_both5 14 = .ok (.iconst 0, 1) := by decide +kernel
theorem dX8_both5_15 : decode cX8_both5 15 = .ok (.iconst 0, 1) := by decide +kernel
theorem dX8_both5_16 : decode cX8_both5 16 = .ok (.iconst 0, 1) := by decide +kernel
theorem dX8_both5_17 : decode cX8_both5 17 = .ok (.invokevirtual 178, 3) := by decide +kernel
theorem dX8_both5_20 : decode cX8_both5 20 = .ok (.ifCond .eq 29, 3) := by decide +kernel
theorem dX8_both5_23 : decode cX8_both5 23 = .ok (.aload_n 0, 1) := by decide +kernel
theorem dX8_both5_24 : decode cX8_both5 24 = .ok (.invokevirtual 175, 3) := by decide +kernel
theorem dX8_both5_27 : decode cX8_both5 27 = .ok (.aload_n 0, 1) := by decide +kernel
theorem dX8_both5_28 : decode cX8_both5 28 = .ok (.invokevirtual 225, 3) := by decide +kernel
theorem dX8_both5_31 : decode cX8_both5 31 = .ok (.istore_n 2, 1) := by decide +kernel
theorem dX8_both5_32 : decode cX8_both5 32 = .ok (.iload_n 1, 1) := by decide +kernel
theorem dX8_both5_33 : decode cX8_both5 33 = .ok (.ifCond .eq 11, 3) := by decide +kernel
theorem dX8_both5_36 : decode cX8_both5 36 = .ok (.iload_n 2, 1) := by decide +kernel
theorem dX8_both5_37 : decode cX8_both5 37 = .ok (.ifCond .eq 7, 3) := by decide +kernel
theorem dX8_both5_40 : decode cX8_both5 40 = .ok (.iconst 1, 1) := by decide +kernel
theorem dX8_both5_41 : decode cX8_both5 41 = .ok (.goto 4, 3) := by decide +kernel
theorem dX8_both5_44 : decode cX8_both5 44 = .ok (.iconst 0, 1) := by decide +kernel
theorem dX8_both5_45 : decode cX8_both5 45 = .ok (.istore_n 1, 1) := by decide +kernel
theorem dX8_both5_46 : decode cX8_both5 46 = .ok (.goto (-41), 3) := by decide +kernel
theorem dX8_both5_49 : decode cX8_both5 49 = .ok (.iload_n 1, 1) := by decide +kernel
theorem dX8_both5_50 : decode cX8_both5 50 = .ok (.ireturn, 1) := by decide +kernel
theorem dX8_either5_0 : decode cX8_either5 0 = .ok (.aload_n 0, 1) := by decide +kernel
theorem dX8_either5_1 : decode cX8_either5 1 = .ok (.invokevirtual 228, 3) := by decide +kernel
theorem dX8_either5_4 : decode cX8_either5 4 = .ok (.istore_n 1, 1) := by decide +kernel
theorem dX8_either5_5 : decode cX8_either5 5 = .ok (.aload_n 0, 1) := by decide +kernel
theorem dX8_either5_6 : decode cX8_either5 6 = .ok (.bipush 111, 2) := by decide +kernel
theorem dX8_either5_8 : decode cX8_either5 8 = .ok (.bipush 114, 2) := by decide +kernel
theorem dX8_either5_10 : decode cX8_either5 10 = .ok (.iconst 0, 1) := by decide +kernel
theorem dX8_either5_11 : decode cX8_either5 11 = .ok (.iconst 0, 1) := by decide +kernel
theorem dX8_either5_12 : decode cX8_either5 12 = .ok (.iconst 0, 1) := by decide +kernel
theorem dX8_either5_13 : decode cX8_either5 13 = .ok (.iconst 0, 1) := by decide +kernel
theorem dX8_either5_14 : decode cX8_either5 14 = .ok (.iconst 0, 1) := by decide +kernel
theorem dX8_either5_15 : decode cX8_either5 15 = .ok (.iconst 0, 1) := by decide +kernel
theorem dX8_either5_16 : decode cX8_either5 16 = .ok (.invokevirtual 178, 3) := by decide +kernel
theorem dX8_either5_19 : decode cX8_either5 19 = .ok (.ifCond .eq 29, 3) := by decide +kernel
theorem dX8_either5_22 : decode cX8_either5 22 = .ok (.aload_n 0, 1) := by decide +kernel
theorem dX8_either5_23 : decode cX8_either5 23 = .ok (.invokevirtual 175, 3) := by decide +kernel
theorem dX8_either5_26 : decode cX8_either5 26 = .ok (.aload_n 0, 1) := by decide +kernel
theorem dX8_either5_27 : decode cX8_either5 27 = .ok (.invokevirtual 228, 3) := by decide +kernel
theorem dX8_either5_30 : decode cX8_either5 30 = .ok (.istore_n 2, 1) := by decide +kernel
theorem dX8_either5_31 : decode cX8_either5 31 = .ok (.iload_n 1, 1) := by decide +kernel
theorem dX8_either5_32 : decode cX8_either5 32 = .ok (.ifCond .ne 7, 3) := by decide +kernel
theorem dX8_either5_35 : decode cX8_either5 35 = .ok (.iload_n 2, 1) := by decide +kernel
theorem dX8_either5_36 : decode cX8_either5 36 = .ok (.ifCond .eq 7, 3) := by decide +kernel
theorem dX8_either5_39 : decode cX8_either5 39 = .ok (.iconst 1, 1) := by decide +kernel
theorem dX8_either5_40 : decode cX8_either5 40 = .ok (.goto 4, 3) := by decide +kernel
theorem dX8_either5_43 : decode cX8_either5 43 = .ok (.iconst 0, 1) := by decide +kernel
theorem dX8_either5_44 : decode cX8_either5 44 = .ok (.istore_n 1, 1) := by decide +kernel
theorem dX8_either5_45 : decode cX8_either5 45 = .ok (.goto (-40), 3) := by decide +kernel
theorem dX8_either5_48 : decode cX8_either5 48 = .ok (.iload_n 1, 1) := by decide +kernel
theorem dX8_either5_49 : decode cX8_either5 49 = .ok (.ireturn, 1) := by decide +kernel
theorem dX8_atom4_0 : decode cX8_atom4 0 = .ok (.iconst 0, 1) := by decide +kernel
theorem dX8_atom4_1 : decode cX8_atom4 1 = .ok (.istore_n 1, 1) := by decide +kernel
theorem dX8_atom4_2 : decode cX8_atom4 2 = .ok (.aload_n 0, 1) := by decide +kernel
theorem dX8_atom4_3 : decode cX8_atom4 3 = .ok (.bipush 45, 2) := by decide +kernel
theorem dX8_atom4_5 : decode cX8_atom4 5 = .ok (.invokevirtual 200, 3) := by decide +kernel
theorem dX8_atom4_8 : decode cX8_atom4 8 = .ok (.ifCond .eq 29, 3) := by decide +kernel
theorem dX8_atom4_11 : decode cX8_atom4 11 = .ok (.aload_n 0, 1) := by decide +kernel
theorem dX8_atom4_12 : decode cX8_atom4 12 = .ok (.invokevirtual 204, 3) := by decide +kernel
theorem dX8_atom4_15 : decode cX8_atom4 15 = .ok (.ifCond .eq 146, 3) := by decide +kernel
theorem dX8_atom4_18 : decode cX8_atom4 18 = .ok (.aload_n 0, 1) := by decide +kernel
theorem dX8_atom4_19 : decode cX8_atom4 19 = .ok (.invokevirtual 212, 3) := by decide +kernel
theorem dX8_atom4_22 : decode cX8_atom4 22 = .ok (.ineg, 1) := by decide +kernel
theorem dX8_atom4_23 : decode cX8_atom4 23 = .ok (.istore_n 1, 1) := by decide +kernel
theorem dX8_atom4_24 : decode cX8_atom4 24 = .ok (.aload_n 0, 1) := by decide +kernel
theorem dX8_atom4_25 : decode cX8_atom4 25 = .ok (.dup, 1) := by decide +kernel
theorem dX8_atom4_26 : decode cX8_atom4 26 = .ok (.getfield 169, 3) := by decide +kernel
theorem dX8_atom4_29 : decode cX8_atom4 29 = .ok (.iconst 1, 1) := by decide +kernel
theorem dX8_atom4_30 : decode cX8_atom4 30 = .ok (.isub, 1) := by decide +kernel
theorem dX8_atom4_31 : decode cX8_atom4 31 = .ok (.putfield 169, 3) := by decide +kernel
theorem dX8_atom4_34 : decode cX8_atom4 34 = .ok (.goto 127, 3) := by decide +kernel
theorem dX8_atom4_37 : decode cX8_atom4 37 = .ok (.aload_n 0, 1) := by decide +kernel
theorem dX8_atom4_38 : decode cX8_atom4 38 = .ok (.bipush 40, 2) := by decide +kernel
theorem dX8_atom4_40 : decode cX8_atom4 40 = .ok (.invokevirtual 200, 3) := by decide +kernel
theorem dX8_atom4_43 : decode cX8_atom4 43 = .ok (.ifCond .eq 52, 3) := by decide +kernel
theorem dX8_atom4_46 : decode cX8_atom4 46 = .ok (.aload_n 0, 1) := by decide +kernel
theorem dX8_atom4_47 : decode cX8_atom4 47 = .ok (.invokevirtual 204, 3) := by decide +kernel
theorem dX8_atom4_50 : decode cX8_atom4 50 = .ok (.ifCond .eq 111, 3) := by decide +kernel
theorem dX8_atom4_53 : decode cX8_atom4 53 = .ok (.aload_n 0, 1) := by decide +kernel
theorem dX8_atom4_54 : decode cX8_atom4 54 = .ok (.invokevirtual 231, 3) := by decide +kernel
theorem dX8_atom4_57 : decode cX8_atom4 57 = .ok (.istore_n 1, 1) := by decide +kernel
theorem dX8_atom4_58 : decode cX8_atom4 58 = .ok (.aload_n 0, 1) := by decide +kernel
theorem dX8_atom4_59 : decode cX8_atom4 59 = .ok (.bipush 41, 2) := by decide +kernel
theorem dX8_atom4_61 : decode cX8_atom4 61 = .ok (.invokevirtual 200, 3) := by decide +kernel
theorem dX8_atom4_64 : decode cX8_atom4 64 = .ok (.ifCond .ne 7, 3) := by decide +kernel
theorem dX8_atom4_67 : decode cX8_atom4 67 = .ok (.aload_n 0, 1) := by decide +kernel
theorem dX8_atom4_68 : decode cX8_atom4 68 = .ok (.invokevirtual 172, 3) := by decide +kernel
theorem dX8_atom4_71 : decode cX8_atom4 71 = .ok (.aload_n 0, 1) := by decide +kernel
theorem dX8_atom4_72 : decode cX8_atom4 72 = .ok (.dup, 1) := by decide +kernel
theorem dX8_atom4_73 : decode cX8_atom4 73 = .ok (.getfield 169, 3) := by decide +kernel
theorem dX8_atom4_76 : decode cX8_atom4 76 = .ok (.iconst 1, 1) := by decide +kernel
theorem dX8_atom4_77 : decode cX8_atom4 77 = .ok (.isub, 1) := by decide +kernel
theorem dX8_atom4_78 : decode cX8_atom4 78 = .ok (.putfield 169, 3) := by decide +kernel
theorem dX8_atom4_81 : decode cX8_atom4 81 = .ok (.aload_n 0, 1) := by decide +kernel
theorem dX8_atom4_82 : decode cX8_atom4 82 = .ok (.getfield 159, 3) := by decide +kernel
theorem dX8_atom4_85 : decode cX8_atom4 85 = .ok (.ifCond .ne 76, 3) := by decide +kernel
theorem dX8_atom4_88 : decode cX8_atom4 88 = .ok (.aload_n 0, 1) := by decide +kernel
theorem dX8_atom4_89 : decode cX8_atom4 89 = .ok (.invokevirtual 175, 3) := by decide +kernel
theorem dX8_atom4_92 : decode cX8_atom4 92 = .ok (.goto 69, 3) := by decide +kernel
theorem dX8_atom4_95 : decode cX8_atom4 95 = .ok (.aload_n 0, 1) := by decide +kernel
theorem dX8_atom4_96 : decode cX8_atom4 96 = .ok (.getfield 159, 3) := by decide +kernel
theorem dX8_atom4_99 : decode cX8_atom4 99 = .ok (.ifCond .ne 24, 3) := by decide +kernel
theorem dX8_atom4_102 : decode cX8_atom4 102 = .ok (.aload_n 0, 1) := by decide +kernel
theorem dX8_atom4_103 : decode cX8_atom4 103 = .ok (.getfield 142, 3) := by decide +kernel
theorem dX8_atom4_106 : decode cX8_atom4 106 = .ok (.iconst 2, 1) := by decide +kernel
theorem dX8_atom4_107 : decode cX8_atom4 107 = .ok (.if_icmp .ne 16, 3) := by decide +kernel
theorem dX8_atom4_110 : decode cX8_atom4 110 = .ok (.aload_n 0, 1) := by decide +kernel
theorem dX8_atom4_111 : decode cX8_atom4 111 = .ok (.getfield 153, 3) := by decide +kernel
theorem dX8_atom4_114 : decode cX8_atom4 114 = .ok (.l2i, 1) := by decide +kernel
theorem dX8_atom4_115 : decode cX8_atom4 115 = .ok (.istore_n 1, 1) := by decide +kernel
theorem dX8_atom4_116 : decode cX8_atom4 116 = .ok (.aload_n 0, 1) := by decide +kernel
theorem dX8_atom4_117 : decode cX8_atom4 117 = .ok (.invokevirtual 175, 3) := by decide +kernel
theorem dX8_atom4_120 : decode cX8_atom4 120 = .ok (.goto 41, 3) := by decide +kernel
theorem dX8_atom4_123 : decode cX8_atom4 123 = .ok (.aload_n 0, 1) := by decide +kernel
theorem dX8_atom4_124 : decode cX8_atom4 124 = .ok (.getfield 159, 3) := by decide +kernel
theorem dX8_atom4_127 : decode cX8_atom4 127 = .ok (.ifCond .ne 30, 3) := by decide +kernel
theorem dX8_atom4_130 : decode cX8_atom4 130 = .ok (.aload_n 0, 1) := by decide +kernel
theorem dX8_atom4_131 : decode cX8_atom4 131 = .ok (.getfield 142, 3) := by decide +kernel
theorem dX8_atom4_134 : decode cX8_atom4 134 = .ok (.iconst 1, 1) := by decide +kernel
theorem dX8_atom4_135 : decode cX8_atom4 135 = .ok (.if_icmp .ne 22, 3) := by decide +kernel
theorem dX8_atom4_138 : decode cX8_atom4 138 = .ok (.aload_n 0, 1) := by decide +kernel
theorem dX8_atom4_139 : decode cX8_atom4 139 = .ok (.invokevirtual 208, 3) := by decide +kernel
theorem dX8_atom4_142 : decode cX8_atom4 142 = .ok (.istore_n 1, 1) := by decide +kernel
theorem dX8_atom4_143 : decode cX8_atom4 143 = .ok (.aload_n 0, 1) := by decide +kernel
theorem dX8_atom4_144 : decode cX8_atom4 144 = .ok (.getfield 159, 3) := by decide +kernel
theorem dX8_atom4_147 : decode cX8_atom4 147 = .ok (.ifCond .ne 14, 3) := by decide +kernel
theorem dX8_atom4_150 : decode cX8_atom4 150 = .ok (.aload_n 0, 1) := by decide +kernel
theorem dX8_atom4_151 : decode cX8_atom4 151 = .ok (.invokevirtual 175, 3) := by decide +kernel
theorem dX8_atom4_154 : decode cX8_atom4 154 = .ok (.goto 7, 3) := by decide +kernel
theorem dX8_atom4_157 : decode cX8_atom4 157 = .ok (.aload_n 0, 1) := by decide +kernel
theorem dX8_atom4_158 : decode cX8_atom4 158 = .ok (.invokevirtual 172, 3) := by decide +kernel
theorem dX8_atom4_161 : decode cX8_atom4 161 = .ok (.iload_n 1, 1) := by decide +kernel
theorem dX8_atom4_162 : decode cX8_atom4 162 = .ok (.ireturn, 1) := by decide +kernel
theorem dX8_term4_0 : decode cX8_term4 0 = .ok (.aload_n 0, 1) := by decide +kernel
theorem dX8_term4_1 : decode cX8_term4 1 = .ok (.invokevirtual 234, 3) := by decide +kernel
theorem dX8_term4_4 : decode cX8_term4 4 = .ok (.istore_n 1, 1) := by decide +kernel
theorem dX8_term4_5 : decode cX8_term4 5 = .ok (.aload_n 0, 1) := by decide +kernel
theorem dX8_term4_6 : decode cX8_term4 6 = .ok (.bipush 42, 2) := by decide +kernel
theorem dX8_term4_8 : decode cX8_term4 8 = .ok (.invokevirtual 200, 3) := by decide +kernel
theorem dX8_term4_11 : decode cX8_term4 11 = .ok (.ifCond .eq 17, 3) := by decide +kernel
theorem dX8_term4_14 : decode cX8_term4 14 = .ok (.aload_n 0, 1) := by decide +kernel
theorem dX8_term4_15 : decode cX8_term4 15 = .ok (.invokevirtual 175, 3) := by decide +kernel
theorem dX8_term4_18 : decode cX8_term4 18 = .ok (.iload_n 1, 1) := by decide +kernel
theorem dX8_term4_19 : decode cX8_term4 19 = .ok (.aload_n 0, 1) := by decide +kernel
theorem dX8_term4_20 : decode cX8_term4 20 = .ok (.invokevirtual 234, 3) := by decide +kernel
theorem dX8_term4_23 : decode cX8_term4 23 = .ok (.imul, 1) := by decide +kernel
theorem dX8_term4_24 : decode cX8_term4 24 = .ok (.istore_n 1, 1) := by decide +kernel
theorem dX8_term4_25 : decode cX8_term4 25 = .ok (.goto (-20), 3) := by decide +kernel
theorem dX8_term4_28 : decode cX8_term4 28 = .ok (.iload_n 1, 1) := by decide +kernel
theorem dX8_term4_29 : decode cX8_term4 29 = .ok (.ireturn, 1) := by decide +kernel
theorem dX8_added4_0 : decode cX8_added4 0 = .ok (.aload_n 0, 1) := by decide +kernel
theorem dX8_added4_1 : decode cX8_added4 1 = .ok (.invokevirtual 237, 3) := by decide +kernel
theorem dX8_added4_4 : decode cX8_added4 4 = .ok (.istore_n 1, 1) := by decide +kernel
theorem dX8_added4_5 : decode cX8_added4 5 = .ok (.aload_n 0, 1) := by decide +kernel
theorem dX8_added4_6 : decode cX8_added4 6 = .ok (.bipush 43, 2) := by decide +kernel
theorem dX8_added4_8 : decode cX8_added4 8 = .ok (.invokevirtual 200, 3) := by decide +kernel
theorem dX8_added4_11 : decode cX8_added4 11 = .ok (.ifCond .ne 12, 3) := by decide +kernel
theorem dX8_added4_14 : decode cX8_added4 14 = .ok (.aload_n 0, 1) := by decide +kernel
theorem dX8_added4_15 : decode cX8_added4 15 = .ok (.bipush 45, 2) := by decide +kernel
theorem dX8_added4_17 : decode cX8_added4 17 = .ok (.invokevirtual 200, 3) := by decide +kernel
theorem dX8_added4_20 : decode cX8_added4 20 = .ok (.ifCond .eq 46, 3) := by decide +kernel
theorem dX8_added4_23 : decode cX8_added4 23 = .ok (.aload_n 0, 1) := by decide +kernel
theorem dX8_added4_24 : decode cX8_added4 24 = .ok (.getfield 153, 3) := by decide +kernel
theorem dX8_added4_27 : decode cX8_added4 27 = .ok (.ldc2_w 218, 3) := by decide +kernel
theorem dX8_added4_30 : decode cX8_added4 30 = .ok (.lcmp, 1) := by decide +kernel
theorem dX8_added4_31 : decode cX8_added4 31 = .ok (.ifCond .ne 7, 3) := by decide +kernel
theorem dX8_added4_34 : decode cX8_added4 34 = .ok (.iconst 1, 1) := by decide +kernel
theorem dX8_added4_35 : decode cX8_added4 35 = .ok (.goto 4, 3) := by decide +kernel
theorem dX8_added4_38 : decode cX8_added4 38 = .ok (.iconst 0, 1) := by decide +kernel
theorem dX8_added4_39 : decode cX8_added4 39 = .ok (.istore_n 2, 1) := by decide +kernel
theorem dX8_added4_40 : decode cX8_added4 40 = .ok (.aload_n 0, 1) := by decide +kernel
theorem dX8_added4_41 : decode cX8_added4 41 = .ok (.invokevirtual 175, 3) := by decide +kernel
theorem dX8_added4_44 : decode cX8_added4 44 = .ok (.aload_n 0, 1) := by decide +kernel
theorem dX8_added4_45 : decode cX8_added4 45 = .ok (.invokevirtual 237, 3) := by decide +kernel
theorem dX8_added4_48 : decode cX8_added4 48 = .ok (.istore_n 3, 1) := by decide +kernel
theorem dX8_added4_49 : decode cX8_added4 49 = .ok (.iload_n 2, 1) := by decide +kernel
theorem dX8_added4_50 : decode cX8_added4 50 = .ok (.ifCond .eq 9, 3) := by decide +kernel
theorem dX8_added4_53 : decode cX8_added4 53 = .ok (.iload_n 1, 1) := by decide +kernel
theorem dX8_added4_54 : decode cX8_added4 54 = .ok (.iload_n 3, 1) := by decide +kernel
theorem dX8_added4_55 : decode cX8_added4 55 = .ok (.iadd, 1) := by decide +kernel
theorem dX8_added4_56 : decode cX8_added4 56 = .ok (.goto 6, 3) := by decide +kernel
theorem dX8_added4_59 : decode cX8_added4 59 = .ok (.iload_n 1, 1) := by decide +kernel
theorem dX8_added4_60 : decode cX8_added4 60 = .ok (.iload_n 3, 1) := by decide +kernel
theorem dX8_added4_61 : decode cX8_added4 61 = .ok (.isub, 1) := by decide +kernel
theorem dX8_added4_62 : decode cX8_added4 62 = .ok (.istore_n 1, 1) := by decide +kernel
theorem dX8_added4_63 : decode cX8_added4 63 = .ok (.goto (-58), 3) := by decide +kernel
theorem dX8_added4_66 : decode cX8_added4 66 = .ok (.iload_n 1, 1) := by decide +kernel
theorem dX8_added4_67 : decode cX8_added4 67 = .ok (.ireturn, 1) := by decide +kernel
theorem dX8_not4_0 : decode cX8_not4 0 = .ok (.aload_n 0, 1) := by decide +kernel
theorem dX8_not4_1 : decode cX8_not4 1 = .ok (.bipush 110, 2) := by decide +kernel
theorem dX8_not4_3 : decode cX8_not4 3 = .ok (.bipush 111, 2) := by decide +kernel
theorem dX8_not4_5 : decode cX8_not4 5 = .ok (.bipush 116, 2) := by decide +kernel
theorem dX8_not4_7 : decode cX8_not4 7 = .ok (.iconst 0, 1) := by decide +kernel
theorem dX8_not4_8 : decode cX8_not4 8 = .ok (.iconst 0, 1) := by decide +kernel
theorem dX8_not4_9 : decode cX8_not4 9 = .ok (.iconst 0, 1) := by decide +kernel
theorem dX8_not4_10 : decode cX8_not4 10 = .ok (.iconst 0, 1) := by decide +kernel
theorem dX8_not4_11 : decode cX8_not4 11 = .ok (.iconst 0, 1) := by decide +kernel
theorem dX8_not4_12 : decode cX8_not4 12 = .ok (.invokevirtual 178, 3) := by decide +kernel
theorem dX8_not4_15 : decode cX8_not4 15 = .ok (.ifCond .eq 37, 3) := by decide +kernel
theorem dX8_not4_18 : decode cX8_not4 18 = .ok (.aload_n 0, 1) := by decide +kernel
theorem dX8_not4_19 : decode cX8_not4 19 = .ok (.invokevirtual 204, 3) := by decide +kernel
theorem dX8_not4_22 : decode cX8_not4 22 = .ok (.ifCond .ne 5, 3) := by decide +kernel
theorem dX8_not4_25 : decode cX8_not4 25 = .ok (.iconst 0, 1) := by decide +kernel
theorem dX8_not4_26 : decode cX8_not4 26 = .ok (.ireturn, 1) := by decide +kernel
theorem dX8_not4_27 : decode cX8_not4 27 = .ok (.aload_n 0, 1) := by decide +kernel
theorem dX8_not4_28 : decode cX8_not4 28 = .ok (.invokevirtual 225, 3) := by decide +kernel
theorem dX8_not4_31 : decode cX8_not4 31 = .ok (.istore_n 1, 1) := by decide +kernel
theorem dX8_not4_32 : decode cX8_not4 32 = .ok (.aload_n 0, 1) := by decide +kernel
theorem dX8_not4_33 : decode cX8_not4 33 = .ok (.dup, 1) := by decide +kernel
theorem dX8_not4_34 : decode cX8_not4 34 = .ok (.getfield 169, 3) := by decide +kernel
theorem dX8_not4_37 : decode cX8_not4 37 = .ok (.iconst 1, 1) := by decide +kernel
theorem dX8_not4_38 : decode cX8_not4 38 = .ok (.isub, 1) := by decide +kernel
theorem dX8_not4_39 : decode cX8_not4 39 = .ok (.putfield 169, 3) := by decide +kernel
theorem dX8_not4_42 : decode cX8_not4 42 = .ok (.iload_n 1, 1) := by decide +kernel
theorem dX8_not4_43 : decode cX8_not4 43 = .ok (.ifCond .ne 7, 3) := by decide +kernel
theorem dX8_not4_46 : decode cX8_not4 46 = .ok (.iconst 1, 1) := by decide +kernel
theorem dX8_not4_47 : decode cX8_not4 47 = .ok (.goto 4, 3) := by decide +kernel
theorem dX8_not4_50 : decode cX8_not4 50 = .ok (.iconst 0, 1) := by decide +kernel
theorem dX8_not4_51 : decode cX8_not4 51 = .ok (.ireturn, 1) := by decide +kernel
theorem dX8_not4_52 : decode cX8_not4 52 = .ok (.aload_n 0, 1) := by decide +kernel
theorem dX8_not4_53 : decode cX8_not4 53 = .ok (.invokevirtual 240, 3) := by decide +kernel
theorem dX8_not4_56 : decode cX8_not4 56 = .ok (.istore_n 1, 1) := by decide +kernel
theorem dX8_not4_57 : decode cX8_not4 57 = .ok (.aload_n 0, 1) := by decide +kernel
theorem dX8_not4_58 : decode cX8_not4 58 = .ok (.bipush 60, 2) := by decide +kernel
theorem dX8_not4_60 : decode cX8_not4 60 = .ok (.invokevirtual 200, 3) := by decide +kernel
theorem dX8_not4_63 : decode cX8_not4 63 = .ok (.ifCond .ne 14, 3) := by decide +kernel
theorem dX8_not4_66 : decode cX8_not4 66 = .ok (.aload_n 0, 1) := by decide +kernel
theorem dX8_not4_67 : decode cX8_not4 67 = .ok (.bipush 61, 2) := by decide +kernel
theorem dX8_not4_69 : decode cX8_not4 69 = .ok (.invokevirtual 200, 3) := by decide +kernel
theorem dX8_not4_72 : decode cX8_not4 72 = .ok (.ifCond .ne 5, 3) := by decide +kernel
theorem dX8_not4_75 : decode cX8_not4 75 = .ok (.iload_n 1, 1) := by decide +kernel
theorem dX8_not4_76 : decode cX8_not4 76 = .ok (.ireturn, 1) := by decide +kernel
theorem dX8_not4_77 : decode cX8_not4 77 = .ok (.aload_n 0, 1) := by decide +kernel
theorem dX8_not4_78 : decode cX8_not4 78 = .ok (.getfield 153, 3) := by decide +kernel
theorem dX8_not4_81 : decode cX8_not4 81 = .ok (.ldc2_w 223, 3) := by decide +kernel
theorem dX8_not4_84 : decode cX8_not4 84 = .ok (.lcmp, 1) := by decide +kernel
theorem dX8_not4_85 : decode cX8_not4 85 = .ok (.ifCond .ne 7, 3) := by decide +kernel
theorem dX8_not4_88 : decode cX8_not4 88 = .ok (.iconst 1, 1) := by decide +kernel
theorem dX8_not4_89 : decode cX8_not4 89 = .ok (.goto 4, 3) := by decide +kernel
theorem dX8_not4_92 : decode cX8_not4 92 = .ok (.iconst 0, 1) := by decide +kernel
theorem dX8_not4_93 : decode cX8_not4 93 = .ok (.istore_n 2, 1) := by decide +kernel
theorem dX8_not4_94 : decode cX8_not4 94 = .ok (.aload_n 0, 1) := by decide +kernel
theorem dX8_not4_95 : decode cX8_not4 95 = .ok (.invokevirtual 175, 3) := by decide +kernel
theorem dX8_not4_98 : decode cX8_not4 98 = .ok (.aload_n 0, 1) := by decide +kernel
theorem dX8_not4_99 : decode cX8_not4 99 = .ok (.invokevirtual 240, 3) := by decide +kernel
theorem dX8_not4_102 : decode cX8_not4 102 = .ok (.istore_n 3, 1) := by decide +kernel
theorem dX8_not4_103 : decode cX8_not4 103 = .ok (.iload_n 2, 1) := by decide +kernel
theorem dX8_not4_104 : decode cX8_not4 104 = .ok (.ifCond .eq 11, 3) := by decide +kernel
theorem dX8_not4_107 : decode cX8_not4 107 = .ok (.iload_n 1, 1) := by decide +kernel
theorem dX8_not4_108 : decode cX8_not4 108 = .ok (.iload_n 3, 1) := by decide +kernel
theorem dX8_not4_109 : decode cX8_not4 109 = .ok (.if_icmp .ge 15, 3) := by decide +kernel
theorem dX8_not4_112 : decode cX8_not4 112 = .ok (.goto 8, 3) := by decide +kernel
theorem dX8_not4_115 : decode cX8_not4 115 = .ok (.iload_n 1, 1) := by decide +kernel
theorem dX8_not4_116 : decode cX8_not4 116 = .ok (.iload_n 3, 1) := by decide +kernel
theorem dX8_not4_117 : decode cX8_not4 117 = .ok (.if_icmp .ne 7, 3) := by decide +kernel
theorem dX8_not4_120 : decode cX8_not4 120 = .ok (.iconst 1, 1) := by decide +kernel
theorem dX8_not4_121 : decode cX8_not4 121 = .ok (.goto 4, 3) := by decide +kernel
theorem dX8_not4_124 : decode cX8_not4 124 = .ok (.iconst 0, 1) := by decide +kernel
theorem dX8_not4_125 : decode cX8_not4 125 = .ok (.ireturn, 1) := by decide +kernel
theorem dX8_both4_0 : decode cX8_both4 0 = .ok (.aload_n 0, 1) := by decide +kernel
theorem dX8_both4_1 : decode cX8_both4 1 = .ok (.invokevirtual 243, 3) := by decide +kernel
theorem dX8_both4_4 : decode cX8_both4 4 = .ok (.istore_n 1, 1) := by decide +kernel
theorem dX8_both4_5 : decode cX8_both4 5 = .ok (.aload_n 0, 1) := by decide +kernel
theorem dX8_both4_6 : decode cX8_both4 6 = .ok (.bipush 97, 2) := by decide +kernel
theorem dX8_both4_8 : decode cX8_both4 8 = .ok (.bipush 110, 2) := by decide +kernel
theorem dX8_both4_10 : decode cX8_both4 10 = .ok (.bipush 100, 2) := by decide +kernel
theorem dX8_both4_12 : decode cX8_both4 12 = .ok (.iconst 0, 1) := by decide +kernel
theorem dX8_both4_13 : decode cX8_both4 13 = .ok (.iconst 0, 1) := by decide +kernel
theorem dX8_both4_14 : decode cX8_both4 14 = .ok (.iconst 0, 1) := by decide +kernel
theorem dX8_both4_15 : decode cX8_both4 15 = .ok (.iconst 0, 1) := by decide +kernel
theorem dX8_both4_16 : decode cX8_both4 16 = .ok (.iconst 0, 1) := by decide +kernel
theorem dX8_both4_17 : decode cX8_both4 17 = .ok (.invokevirtual 178, 3) := by decide +kernel
theorem dX8_both4_20 : decode cX8_both4 20 = .ok (.ifCond .eq 29, 3) := by decide +kernel
theorem dX8_both4_23 : decode cX8_both4 23 = .ok (.aload_n 0, 1) := by decide +kernel
theorem dX8_both4_24 : decode cX8_both4 24 = .ok (.invokevirtual 175, 3) := by decide +kernel
theorem dX8_both4_27 : decode cX8_both4 27 = .ok (.aload_n 0, 1) := by decide +kernel
theorem dX8_both4_28 : decode cX8_both4 28 = .ok (.invokevirtual 243, 3) := by decide +kernel
theorem dX8_both4_31 : decode cX8_both4 31 = .ok (.istore_n 2, 1) := by decide +kernel
theorem dX8_both4_32 : decode cX8_both4 32 = .ok (.iload_n 1, 1) := by decide +kernel
theorem dX8_both4_33 : decode cX8_both4 33 = .ok (.ifCond .eq 11, 3) := by decide +kernel
theorem dX8_both4_36 : decode cX8_both4 36 = .ok (.iload_n 2, 1) := by decide +kernel
theorem dX8_both4_37 : decode cX8_both4 37 = .ok (.ifCond .eq 7, 3) := by decide +kernel
theorem dX8_both4_40 : decode cX8_both4 40 = .ok (.iconst 1, 1) := by decide +kernel
theorem dX8_both4_41 : decode cX8_both4 41 = .ok (.goto 4, 3) := by decide +kernel
theorem dX8_both4_44 : decode cX8_both4 44 = .ok (.iconst 0, 1) := by decide +kernel
theorem dX8_both4_45 : decode cX8_both4 45 = .ok (.istore_n 1, 1) := by decide +kernel
theorem dX8_both4_46 : decode cX8_both4 46 = .ok (.goto (-41), 3) := by decide +kernel
theorem dX8_both4_49 : decode cX8_both4 49 = .ok (.iload_n 1, 1) := by decide +kernel
theorem dX8_both4_50 : decode cX8_both4 50 = .ok (.ireturn, 1) := by decide +kernel
theorem dX8_either4_0 : decode cX8_either4 0 = .ok (.aload_n 0, 1) := by decide +kernel
theorem dX8_either4_1 : decode cX8_either4 1 = .ok (.invokevirtual 246, 3) := by decide +kernel
theorem dX8_either4_4 : decode cX8_either4 4 = .ok (.istore_n 1, 1) := by decide +kernel
theorem dX8_either4_5 : decode cX8_either4 5 = .ok (.aload_n 0, 1) := by decide +kernel
theorem dX8_either4_6 : decode cX8_either4 6 = .ok (.bipush 111, 2) := by decide +kernel
theorem dX8_either4_8 : decode cX8_either4 8 = .ok (.bipush 114, 2) := by decide +kernel
theorem dX8_either4_10 : decode cX8_either4 10 = .ok (.iconst 0, 1) := by decide +kernel
theorem dX8_either4_11 : decode cX8_either4 11 = .ok (.iconst 0, 1) := by decide +kernel
theorem dX8_either4_12 : decode cX8_either4 12 = .ok (.iconst 0, 1) := by decide +kernel
theorem dX8_either4_13 : decode cX8_either4 13 = .ok (.iconst 0, 1) := by decide +kernel
theorem dX8_either4_14 : decode cX8_either4 14 = .ok (.iconst 0, 1) := by decide +kernel
theorem dX8_either4_15 : decode cX8_either4 15 = .ok (.iconst 0, 1) := by decide +kernel
theorem dX8_either4_16 : decode cX8_either4 16 = .ok (.invokevirtual 178, 3) := by decide +kernel
theorem dX8_either4_19 : decode cX8_either4 19 = .ok (.ifCond .eq 29, 3) := by decide +kernel
theorem dX8_either4_22 : decode cX8_either4 22 = .ok (.aload_n 0, 1) := by decide +kernel
theorem dX8_either4_23 : decode cX8_either4 23 = .ok (.invokevirtual 175, 3) := by decide +kernel
theorem dX8_either4_26 : decode cX8_either4 26 = .ok (.aload_n 0, 1) := by decide +kernel
theorem dX8_either4_27 : decode cX8_either4 27 = .ok (.invokevirtual 246, 3) := by decide +kernel
theorem dX8_either4_30 : decode cX8_either4 30 = .ok (.istore_n 2, 1) := by decide +kernel
theorem dX8_either4_31 : decode cX8_either4 31 = .ok (.iload_n 1, 1) := by decide +kernel
theorem dX8_either4_32 : decode cX8_either4 32 = .ok (.ifCond .ne 7, 3) := by decide +kernel
theorem dX8_either4_35 : decode cX8_either4 35 = .ok (.iload_n 2, 1) := by decide +kernel
theorem dX8_either4_36 : decode cX8_either4 36 = .ok (.ifCond .eq 7, 3) := by decide +kernel
theorem dX8_either4_39 : decode cX8_either4 39 = .ok (.iconst 1, 1) := by decide +kernel
theorem dX8_either4_40 : decode cX8_either4 40 = .ok (.goto 4, 3) := by decide +kernel
theorem dX8_either4_43 : decode cX8_either4 43 = .ok (.iconst 0, 1) := by decide +kernel
theorem dX8_either4_44 : decode cX8_either4 44 = .ok (.istore_n 1, 1) := by decide +kernel
theorem dX8_either4_45 : decode cX8_either4 45 = .ok (.goto (-40), 3) := by decide +kernel
theorem dX8_either4_48 : decode cX8_either4 48 = .ok (.iload_n 1, 1) := by decide +kernel
theorem dX8_either4_49 : decode cX8_either4 49 = .ok (.ireturn, 1) := by decide +kernel
theorem dX8_atom3_0 : decode cX8_atom3 0 = .ok (.iconst 0, 1) := by decide +kernel
theorem dX8_atom3_1 : decode cX8_atom3 1 = .ok (.istore_n 1, 1) := by decide +kernel
theorem dX8_atom3_2 : decode cX8_atom3 2 = .ok (.aload_n 0, 1) := by decide +kernel
theorem dX8_atom3_3 : decode cX8_atom3 3 = .ok (.bipush 45, 2) := by decide +kernel
theorem dX8_atom3_5 : decode cX8_atom3 5 = .ok (.invokevirtual 200, 3) := by decide +kernel
theorem dX8_atom3_8 : decode cX8_atom3 8 = .ok (.ifCond .eq 29, 3) := by decide +kernel
theorem dX8_atom3_11 : decode cX8_atom3 11 = .ok (.aload_n 0, 1) := by decide +kernel
theorem dX8_atom3_12 : decode cX8_atom3 12 = .ok (.invokevirtual 204, 3) := by decide +kernel
theorem dX8_atom3_15 : decode cX8_atom3 15 = .ok (.ifCond .eq 146, 3) := by decide +kernel
theorem dX8_atom3_18 : decode cX8_atom3 18 = .ok (.aload_n 0, 1) := by decide +kernel
theorem dX8_atom3_19 : decode cX8_atom3 19 = .ok (.invokevirtual 234, 3) := by decide +kernel
theorem dX8_atom3_22 : decode cX8_atom3 22 = .ok (.ineg, 1) := by decide +kernel
theorem dX8_atom3_23 : decode cX8_atom3 23 = .ok (.istore_n 1, 1) := by decide +kernel
theorem dX8_atom3_24 : decode cX8_atom3 24 = .ok (.aload_n 0, 1) := by decide +kernel
theorem dX8_atom3_25 : decode cX8_atom3 25 = .ok (.dup, 1) := by decide +kernel
theorem dX8_atom3_26 : decode cX8_atom3 26 = .ok (.getfield 169, 3) := by decide +kernel
theorem dX8_atom3_29 : decode cX8_atom3 29 = .ok (.iconst 1, 1) := by decide +kernel
theorem dX8_atom3_30 : decode cX8_atom3 30 = .ok (.isub, 1) := by decide +kernel
theorem dX8_atom3_31 : decode cX8_atom3 31 = .ok (.putfield 169, 3) := by decide +kernel
theorem dX8_atom3_34 : decode cX8_atom3 34 = .ok (.goto 127, 3) := by decide +kernel
theorem dX8_atom3_37 : decode cX8_atom3 37 = .ok (.aload_n 0, 1) := by decide +kernel
theorem dX8_atom3_38 : decode cX8_atom3 38 = .ok (.bipush 40, 2) := by decide +kernel
theorem dX8_atom3_40 : decode cX8_atom3 40 = .ok (.invokevirtual 200, 3) := by decide +kernel
theorem dX8_atom3_43 : decode cX8_atom3 43 = .ok (.ifCond .eq 52, 3) := by decide +kernel
theorem dX8_atom3_46 : decode cX8_atom3 46 = .ok (.aload_n 0, 1) := by decide +kernel
theorem dX8_atom3_47 : decode cX8_atom3 47 = .ok (.invokevirtual 204, 3) := by decide +kernel
theorem dX8_atom3_50 : decode cX8_atom3 50 = .ok (.ifCond .eq 111, 3) := by decide +kernel
theorem dX8_atom3_53 : decode cX8_atom3 53 = .ok (.aload_n 0, 1) := by decide +kernel
theorem dX8_atom3_54 : decode cX8_atom3 54 = .ok (.invokevirtual 249, 3) := by decide +kernel
theorem dX8_atom3_57 : decode cX8_atom3 57 = .ok (.istore_n 1, 1) := by decide +kernel
theorem dX8_atom3_58 : decode cX8_atom3 58 = .ok (.aload_n 0, 1) := by decide +kernel
theorem dX8_atom3_59 : decode cX8_atom3 59 = .ok (.bipush 41, 2) := by decide +kernel
theorem dX8_atom3_61 : decode cX8_atom3 61 = .ok (.invokevirtual 200, 3) := by decide +kernel
theorem dX8_atom3_64 : decode cX8_atom3 64 = .ok (.ifCond .ne 7, 3) := by decide +kernel
theorem dX8_atom3_67 : decode cX8_atom3 67 = .ok (.aload_n 0, 1) := by decide +kernel
theorem dX8_atom3_68 : decode cX8_atom3 68 = .ok (.invokevirtual 172, 3) := by decide +kernel
theorem dX8_atom3_71 : decode cX8_atom3 71 = .ok (.aload_n 0, 1) := by decide +kernel
theorem dX8_atom3_72 : decode cX8_atom3 72 = .ok (.dup, 1) := by decide +kernel
theorem dX8_atom3_73 : decode cX8_atom3 73 = .ok (.getfield 169, 3) := by decide +kernel
theorem dX8_atom3_76 : decode cX8_atom3 76 = .ok (.iconst 1, 1) := by decide +kernel
theorem dX8_atom3_77 : decode cX8_atom3 77 = .ok (.isub, 1) := by decide +kernel
theorem dX8_atom3_78 : decode cX8_atom3 78 = .ok (.putfield 169, 3) := by decide +kernel
theorem dX8_atom3_81 : decode cX8_atom3 81 = .ok (.aload_n 0, 1) := by decide +kernel
theorem dX8_atom3_82 : decode cX8_atom3 82 = .ok (.getfield 159, 3) := by decide +kernel
theorem dX8_atom3_85 : decode cX8_atom3 85 = .ok (.ifCond .ne 76, 3) := by decide +kernel
theorem dX8_atom3_88 : decode cX8_atom3 88 = .ok (.aload_n 0, 1) := by decide +kernel
theorem dX8_atom3_89 : decode cX8_atom3 89 = .ok (.invokevirtual 175, 3) := by decide +kernel
theorem dX8_atom3_92 : decode cX8_atom3 92 = .ok (.goto 69, 3) := by decide +kernel
theorem dX8_atom3_95 : decode cX8_atom3 95 = .ok (.aload_n 0, 1) := by decide +kernel
theorem dX8_atom3_96 : decode cX8_atom3 96 = .ok (.getfield 159, 3) := by decide +kernel
theorem dX8_atom3_99 : decode cX8_atom3 99 = .ok (.ifCond .ne 24, 3) := by decide +kernel
theorem dX8_atom3_102 : decode cX8_atom3 102 = .ok (.aload_n 0, 1) := by decide +kernel
theorem dX8_atom3_103 : decode cX8_atom3 103 = .ok (.getfield 142, 3) := by decide +kernel
theorem dX8_atom3_106 : decode cX8_atom3 106 = .ok (.iconst 2, 1) := by decide +kernel
theorem dX8_atom3_107 : decode cX8_atom3 107 = .ok (.if_icmp .ne 16, 3) := by decide +kernel
theorem dX8_atom3_110 : decode cX8_atom3 110 = .ok (.aload_n 0, 1) := by decide +kernel
theorem dX8_atom3_111 : decode cX8_atom3 111 = .ok (.getfield 153, 3) := by decide +kernel
theorem dX8_atom3_114 : decode cX8_atom3 114 = .ok (.l2i, 1) := by decide +kernel
theorem dX8_atom3_115 : decode cX8_atom3 115 = .ok (.istore_n 1, 1) := by decide +kernel
theorem dX8_atom3_116 : decode cX8_atom3 116 = .ok (.aload_n 0, 1) := by decide +kernel
theorem dX8_atom3_117 : decode cX8_atom3 117 = .ok (.invokevirtual 175, 3) := by decide +kernel
theorem dX8_atom3_120 : decode cX8_atom3 120 = .ok (.goto 41, 3) := by decide +kernel
theorem dX8_atom3_123 : decode cX8_atom3 123 = .ok (.aload_n 0, 1) := by decide +kernel
theorem dX8_atom3_124 : decode cX8_atom3 124 = .ok (.getfield 159, 3) := by decide +kernel
theorem dX8_atom3_127 : decode cX8_atom3 127 = .ok (.ifCond .ne 30, 3) := by decide +kernel
theorem dX8_atom3_130 : decode cX8_atom3 130 = .ok (.aload_n 0, 1) := by decide +kernel
theorem dX8_atom3_131 : decode cX8_atom3 131 = .ok (.getfield 142, 3) := by decide +kernel
theorem dX8_atom3_134 : decode cX8_atom3 134 = .ok (.iconst 1, 1) := by decide +kernel
theorem dX8_atom3_135 : decode cX8_atom3 135 = .ok (.if_icmp .ne 22, 3) := by decide +kernel
theorem dX8_atom3_138 : decode cX8_atom3 138 = .ok (.aload_n 0, 1) := by decide +kernel
theorem dX8_atom3_139 : decode cX8_atom3 139 = .ok (.invokevirtual 208, 3) := by decide +kernel
theorem dX8_atom3_142 : decode cX8_atom3 142 = .ok (.istore_n 1, 1) := by decide +kernel
theorem dX8_atom3_143 : decode cX8_atom3 143 = .ok (.aload_n 0, 1) := by decide +kernel
theorem dX8_atom3_144 : decode cX8_atom3 144 = .ok (.getfield 159, 3) := by decide +kernel
theorem dX8_atom3_147 : decode cX8_atom3 147 = .ok (.ifCond .ne 14, 3) := by decide +kernel
theorem dX8_atom3_150 : decode cX8_atom3 150 = .ok (.aload_n 0, 1) := by decide +kernel
theorem dX8_atom3_151 : decode cX8_atom3 151 = .ok (.invokevirtual 175, 3) := by decide +kernel
theorem dX8_atom3_154 : decode cX8_atom3 154 = .ok (.goto 7, 3) := by decide +kernel
theorem dX8_atom3_157 : decode cX8_atom3 157 = .ok (.aload_n 0, 1) := by decide +kernel
theorem dX8_atom3_158 : decode cX8_atom3 158 = .ok (.invokevirtual 172, 3) := by decide +kernel
theorem dX8_atom3_161 : decode cX8_atom3 161 = .ok (.iload_n 1, 1) := by decide +kernel
theorem dX8_atom3_162 : decode cX8_atom3 162 = .ok (.ireturn, 1) := by decide +kernel
theorem dX8_term3_0 : decode cX8_term3 0 = .ok (.aload_n 0, 1) := by decide +kernel
theorem dX8_term3_1 : decode cX8_term3 1 = .ok (.invokevirtual 252, 3) := by decide +kernel
theorem dX8_term3_4 : decode cX8_term3 4 = .ok (.istore_n 1, 1) := by decide +kernel
theorem dX8_term3_5 : decode cX8_term3 5 = .ok (.aload_n 0, 1) := by decide +kernel
theorem dX8_term3_6 : decode cX8_term3 6 = .ok (.bipush 42, 2) := by decide +kernel
theorem dX8_term3_8 : decode cX8_term3 8 = .ok (.invokevirtual 200, 3) := by decide +kernel
theorem dX8_term3_11 : decode cX8_term3 11 = .ok (.ifCond .eq 17, 3) := by decide +kernel
theorem dX8_term3_14 : decode cX8_term3 14 = .ok (.aload_n 0, 1) := by decide +kernel
theorem dX8_term3_15 : decode cX8_term3 15 = .ok (.invokevirtual 175, 3) := by decide +kernel
theorem dX8_term3_18 : decode cX8_term3 18 = .ok (.iload_n 1, 1) := by decide +kernel
theorem dX8_term3_19 : decode cX8_term3 19 = .ok (.aload_n 0, 1) := by decide +kernel
theorem dX8_term3_20 : decode cX8_term3 20 = .ok (.invokevirtual 252, 3) := by decide +kernel
theorem dX8_term3_23 : decode cX8_term3 23 = .ok (.imul, 1) := by decide +kernel
theorem dX8_term3_24 : decode cX8_term3 24 = .ok (.istore_n 1, 1) := by decide +kernel
theorem dX8_term3_25 : decode cX8_term3 25 = .ok (.goto (-20), 3) := by decide +kernel
theorem dX8_term3_28 : decode cX8_term3 28 = .ok (.iload_n 1, 1) := by decide +kernel
theorem dX8_term3_29 : decode cX8_term3 29 = .ok (.ireturn, 1) := by decide +kernel
theorem dX8_added3_0 : decode cX8_added3 0 = .ok (.aload_n 0, 1) := by decide +kernel
theorem dX8_added3_1 : decode cX8_added3 1 = .ok (.invokevirtual 255, 3) := by decide +kernel
theorem dX8_added3_4 : decode cX8_added3 4 = .ok (.istore_n 1, 1) := by decide +kernel
theorem dX8_added3_5 : decode cX8_added3 5 = .ok (.aload_n 0, 1) := by decide +kernel
theorem dX8_added3_6 : decode cX8_added3 6 = .ok (.bipush 43, 2) := by decide +kernel
theorem dX8_added3_8 : decode cX8_added3 8 = .ok (.invokevirtual 200, 3) := by decide +kernel
theorem dX8_added3_11 : decode cX8_added3 11 = .ok (.ifCond .ne 12, 3) := by decide +kernel
theorem dX8_added3_14 : decode cX8_added3 14 = .ok (.aload_n 0, 1) := by decide +kernel
theorem dX8_added3_15 : decode cX8_added3 15 = .ok (.bipush 45, 2) := by decide +kernel
theorem dX8_added3_17 : decode cX8_added3 17 = .ok (.invokevirtual 200, 3) := by decide +kernel
theorem dX8_added3_20 : decode cX8_added3 20 = .ok (.ifCond .eq 46, 3) := by decide +kernel
theorem dX8_added3_23 : decode cX8_added3 23 = .ok (.aload_n 0, 1) := by decide +kernel
theorem dX8_added3_24 : decode cX8_added3 24 = .ok (.getfield 153, 3) := by decide +kernel
theorem dX8_added3_27 : decode cX8_added3 27 = .ok (.ldc2_w 218, 3) := by decide +kernel
theorem dX8_added3_30 : decode cX8_added3 30 = .ok (.lcmp, 1) := by decide +kernel
theorem dX8_added3_31 : decode cX8_added3 31 = .ok (.ifCond .ne 7, 3) := by decide +kernel
theorem dX8_added3_34 : decode cX8_added3 34 = .ok (.iconst 1, 1) := by decide +kernel
theorem dX8_added3_35 : decode cX8_added3 35 = .ok (.goto 4, 3) := by decide +kernel
theorem dX8_added3_38 : decode cX8_added3 38 = .ok (.iconst 0, 1) := by decide +kernel
theorem dX8_added3_39 : decode cX8_added3 39 = .ok (.istore_n 2, 1) := by decide +kernel
theorem dX8_added3_40 : decode cX8_added3 40 = .ok (.aload_n 0, 1) := by decide +kernel
theorem dX8_added3_41 : decode cX8_added3 41 = .ok (.invokevirtual 175, 3) := by decide +kernel
theorem dX8_added3_44 : decode cX8_added3 44 = .ok (.aload_n 0, 1) := by decide +kernel
theorem dX8_added3_45 : decode cX8_added3 45 = .ok (.invokevirtual 255, 3) := by decide +kernel
theorem dX8_added3_48 : decode cX8_added3 48 = .ok (.istore_n 3, 1) := by decide +kernel
theorem dX8_added3_49 : decode cX8_added3 49 = .ok (.iload_n 2, 1) := by decide +kernel
theorem dX8_added3_50 : decode cX8_added3 50 = .ok (.ifCond .eq 9, 3) := by decide +kernel
theorem dX8_added3_53 : decode cX8_added3 53 = .ok (.iload_n 1, 1) := by decide +kernel
theorem dX8_added3_54 : decode cX8_added3 54 = .ok (.iload_n 3, 1) := by decide +kernel
theorem dX8_added3_55 : decode cX8_added3 55 = .ok (.iadd, 1) := by decide +kernel
theorem dX8_added3_56 : decode cX8_added3 56 = .ok (.goto 6, 3) := by decide +kernel
theorem dX8_added3_59 : decode cX8_added3 59 = .ok (.iload_n 1, 1) := by decide +kernel
theorem dX8_added3_60 : decode cX8_added3 60 = .ok (.iload_n 3, 1) := by decide +kernel
theorem dX8_added3_61 : decode cX8_added3 61 = .ok (.isub, 1) := by decide +kernel
theorem dX8_added3_62 : decode cX8_added3 62 = .ok (.istore_n 1, 1) := by decide +kernel
theorem dX8_added3_63 : decode cX8_added3 63 = .ok (.goto (-58), 3) := by decide +kernel
theorem dX8_added3_66 : decode cX8_added3 66 = .ok (.iload_n 1, 1) := by decide +kernel
theorem dX8_added3_67 : decode cX8_added3 67 = .ok (.ireturn, 1) := by decide +kernel
theorem dX8_not3_0 : decode cX8_not3 0 = .ok (.aload_n 0, 1) := by decide +kernel
theorem dX8_not3_1 : decode cX8_not3 1 = .ok (.bipush 110, 2) := by decide +kernel
theorem dX8_not3_3 : decode cX8_not3 3 = .ok (.bipush 111, 2) := by decide +kernel
theorem dX8_not3_5 : decode cX8_not3 5 = .ok (.bipush 116, 2) := by decide +kernel
theorem dX8_not3_7 : decode cX8_not3 7 = .ok (.iconst 0, 1) := by decide +kernel
theorem dX8_not3_8 : decode cX8_not3 8 = .ok (.iconst 0, 1) := by decide +kernel
theorem dX8_not3_9 : decode cX8_not3 9 = .ok (.iconst 0, 1) := by decide +kernel
theorem dX8_not3_10 : decode cX8_not3 10 = .ok (.iconst 0, 1) := by decide +kernel
theorem dX8_not3_11 : decode cX8_not3 11 = .ok (.iconst 0, 1) := by decide +kernel
theorem dX8_not3_12 : decode cX8_not3 12 = .ok (.invokevirtual 178, 3) := by decide +kernel
theorem dX8_not3_15 : decode cX8_not3 15 = .ok (.ifCond .eq 37, 3) := by decide +kernel
theorem dX8_not3_18 : decode cX8_not3 18 = .ok (.aload_n 0, 1) := by decide +kernel
theorem dX8_not3_19 : decode cX8_not3 19 = .ok (.invokevirtual 204, 3) := by decide +kernel
theorem dX8_not3_22 : decode cX8_not3 22 = .ok (.ifCond .ne 5, 3) := by decide +kernel
theorem dX8_not3_25 : decode cX8_not3 25 = .ok (.iconst 0, 1) := by decide +kernel
theorem dX8_not3_26 : decode cX8_not3 26 = .ok (.ireturn, 1) := by decide +kernel
theorem dX8_not3_27 : decode cX8_not3 27 = .ok (.aload_n 0, 1) := by decide +kernel
theorem dX8_not3_28 : decode cX8_not3 28 = .ok (.invokevirtual 243, 3) := by decide +kernel
theorem dX8_not3_31 : decode cX8_not3 31 = .ok (.istore_n 1, 1) := by decide +kernel
theorem dX8_not3_32 : decode cX8_not3 32 = .ok (.aload_n 0, 1) := by decide +kernel
theorem dX8_not3_33 : decode cX8_not3 33 = .ok (.dup, 1) := by decide +kernel
theorem dX8_not3_34 : decode cX8_not3 34 = .ok (.getfield 169, 3) := by decide +kernel
theorem dX8_not3_37 : decode cX8_not3 37 = .ok (.iconst 1, 1) := by decide +kernel
theorem dX8_not3_38 : decode cX8_not3 38 = .ok (.isub, 1) := by decide +kernel
theorem dX8_not3_39 : decode cX8_not3 39 = .ok (.putfield 169, 3) := by decide +kernel
theorem dX8_not3_42 : decode cX8_not3 42 = .ok (.iload_n 1, 1) := by decide +kernel
theorem dX8_not3_43 : decode cX8_not3 43 = .ok (.ifCond .ne 7, 3) := by decide +kernel
theorem dX8_not3_46 : decode cX8_not3 46 = .ok (.iconst 1, 1) := by decide +kernel
theorem dX8_not3_47 : decode cX8_not3 47 = .ok (.goto 4, 3) := by decide +kernel
theorem dX8_not3_50 : decode cX8_not3 50 = .ok (.iconst 0, 1) := by decide +kernel
theorem dX8_not3_51 : decode cX8_not3 51 = .ok (.ireturn, 1) := by decide +kernel
theorem dX8_not3_52 : decode cX8_not3 52 = .ok (.aload_n 0, 1) := by decide +kernel
theorem dX8_not3_53 : decode cX8_not3 53 = .ok (.invokevirtual 258, 3) := by decide +kernel
theorem dX8_not3_56 : decode cX8_not3 56 = .ok (.istore_n 1, 1) := by decide +kernel
theorem dX8_not3_57 : decode cX8_not3 57 = .ok (.aload_n 0, 1) := by decide +kernel
theorem dX8_not3_58 : decode cX8_not3 58 = .ok (.bipush 60, 2) := by decide +kernel
theorem dX8_not3_60 : decode cX8_not3 60 = .ok (.invokevirtual 200, 3) := by decide +kernel
theorem dX8_not3_63 : decode cX8_not3 63 = .ok (.ifCond .ne 14, 3) := by decide +kernel
theorem dX8_not3_66 : decode cX8_not3 66 = .ok (.aload_n 0, 1) := by decide +kernel
theorem dX8_not3_67 : decode cX8_not3 67 = .ok (.bipush 61, 2) := by decide +kernel
theorem dX8_not3_69 : decode cX8_not3 69 = .ok (.invokevirtual 200, 3) := by decide +kernel
theorem dX8_not3_72 : decode cX8_not3 72 = .ok (.ifCond .ne 5, 3) := by decide +kernel
theorem dX8_not3_75 : decode cX8_not3 75 = .ok (.iload_n 1, 1) := by decide +kernel
theorem dX8_not3_76 : decode cX8_not3 76 = .ok (.ireturn, 1) := by decide +kernel
theorem dX8_not3_77 : decode cX8_not3 77 = .ok (.aload_n 0, 1) := by decide +kernel
theorem dX8_not3_78 : decode cX8_not3 78 = .ok (.getfield 153, 3) := by decide +kernel
theorem dX8_not3_81 : decode cX8_not3 81 = .ok (.ldc2_w 223, 3) := by decide +kernel
theorem dX8_not3_84 : decode cX8_not3 84 = .ok (.lcmp, 1) := by decide +kernel
theorem dX8_not3_85 : decode cX8_not3 85 = .ok (.ifCond .ne 7, 3) := by decide +kernel
theorem dX8_not3_88 : decode cX8_not3 88 = .ok (.iconst 1, 1) := by decide +kernel
theorem dX8_not3_89 : decode cX8_not3 89 = .ok (.goto 4, 3) := by decide +kernel
theorem dX8_not3_92 : decode cX8_not3 92 = .ok (.iconst 0, 1) := by decide +kernel
theorem dX8_not3_93 : decode cX8_not3 93 = .ok (.istore_n 2, 1) := by decide +kernel
theorem dX8_not3_94 : decode cX8_not3 94 = .ok (.aload_n 0, 1) := by decide +kernel
theorem dX8_not3_95 : decode cX8_not3 95 = .ok (.invokevirtual 175, 3) := by decide +kernel
theorem dX8_not3_98 : decode cX8_not3 98 = .ok (.aload_n 0, 1) := by decide +kernel
theorem dX8_not3_99 : decode cX8_not3 99 = .ok (.invokevirtual 258, 3) := by decide +kernel
theorem dX8_not3_102 : decode cX8_not3 102 = .ok (.istore_n 3, 1) := by decide +kernel
theorem dX8_not3_103 : decode cX8_not3 103 = .ok (.iload_n 2, 1) := by decide +kernel
theorem dX8_not3_104 : decode cX8_not3 104 = .ok (.ifCond .eq 11, 3) := by decide +kernel
theorem dX8_not3_107 : decode cX8_not3 107 = .ok (.iload_n 1, 1) := by decide +kernel
theorem dX8_not3_108 : decode cX8_not3 108 = .ok (.iload_n 3, 1) := by decide +kernel
theorem dX8_not3_109 : decode cX8_not3 109 = .ok (.if_icmp .ge 15, 3) := by decide +kernel
theorem dX8_not3_112 : decode cX8_not3 112 = .ok (.goto 8, 3) := by decide +kernel
theorem dX8_not3_115 : decode cX8_not3 115 = .ok (.iload_n 1, 1) := by decide +kernel
theorem dX8_not3_116 : decode cX8_not3 116 = .ok (.iload_n 3, 1) := by decide +kernel
theorem dX8_not3_117 : decode cX8_not3 117 = .ok (.if_icmp .ne 7, 3) := by decide +kernel
theorem dX8_not3_120 : decode cX8_not3 120 = .ok (.iconst 1, 1) := by decide +kernel
theorem dX8_not3_121 : decode cX8_not3 121 = .ok (.goto 4, 3) := by decide +kernel
theorem dX8_not3_124 : decode cX8_not3 124 = .ok (.iconst 0, 1) := by decide +kernel
theorem dX8_not3_125 : decode cX8_not3 125 = .ok (.ireturn, 1) := by decide +kernel
theorem dX8_both3_0 : decode cX8_both3 0 = .ok (.aload_n 0, 1) := by decide +kernel
theorem dX8_both3_1 : decode cX8_both3 1 = .ok (.invokevirtual 261, 3) := by decide +kernel
theorem dX8_both3_4 : decode cX8_both3 4 = .ok (.istore_n 1, 1) := by decide +kernel
theorem dX8_both3_5 : decode cX8_both3 5 = .ok (.aload_n 0, 1) := by decide +kernel
theorem dX8_both3_6 : decode cX8_both3 6 = .ok (.bipush 97, 2) := by decide +kernel
theorem dX8_both3_8 : decode cX8_both3 8 = .ok (.bipush 110, 2) := by decide +kernel
theorem dX8_both3_10 : decode cX8_both3 10 = .ok (.bipush 100, 2) := by decide +kernel
theorem dX8_both3_12 : decode cX8_both3 12 = .ok (.iconst 0, 1) := by decide +kernel
theorem dX8_both3_13 : decode cX8_both3 13 = .ok (.iconst 0, 1) := by decide +kernel
theorem dX8_both3_14 : decode cX8_both3 14 = .ok (.iconst 0, 1) := by decide +kernel
theorem dX8_both3_15 : decode cX8_both3 15 = .ok (.iconst 0, 1) := by decide +kernel
theorem dX8_both3_16 : decode cX8_both3 16 = .ok (.iconst 0, 1) := by decide +kernel
theorem dX8_both3_17 : decode cX8_both3 17 = .ok (.invokevirtual 178, 3) := by decide +kernel
theorem dX8_both3_20 : decode cX8_both3 20 = .ok (.ifCond .eq 29, 3) := by decide +kernel
theorem dX8_both3_23 : decode cX8_both3 23 = .ok (.aload_n 0, 1) := by decide +kernel
theorem dX8_both3_24 : decode cX8_both3 24 = .ok (.invokevirtual 175, 3) := by decide +kernel
theorem dX8_both3_27 : decode cX8_both3 27 = .ok (.aload_n 0, 1) := by decide +kernel
theorem dX8_both3_28 : decode cX8_both3 28 = .ok (.invokevirtual 261, 3) := by decide +kernel
theorem dX8_both3_31 : decode cX8_both3 31 = .ok (.istore_n 2, 1) := by decide +kernel
theorem dX8_both3_32 : decode cX8_both3 32 = .ok (.iload_n 1, 1) := by decide +kernel
theorem dX8_both3_33 : decode cX8_both3 33 = .ok (.ifCond .eq 11, 3) := by decide +kernel
theorem dX8_both3_36 : decode cX8_both3 36 = .ok (.iload_n 2, 1) := by decide +kernel
theorem dX8_both3_37 : decode cX8_both3 37 = .ok (.ifCond .eq 7, 3) := by decide +kernel
theorem dX8_both3_40 : decode cX8_both3 40 = .ok (.iconst 1, 1) := by decide +kernel
theorem dX8_both3_41 : decode cX8_both3 41 = .ok (.goto 4, 3) := by decide +kernel
theorem dX8_both3_44 : decode cX8_both3 44 = .ok (.iconst 0, 1) := by decide +kernel
theorem dX8_both3_45 : decode cX8_both3 45 = .ok (.istore_n 1, 1) := by decide +kernel
theorem dX8_both3_46 : decode cX8_both3 46 = .ok (.goto (-41), 3) := by decide +kernel
theorem dX8_both3_49 : decode cX8_both3 49 = .ok (.iload_n 1, 1) := by decide +kernel
theorem dX8_both3_50 : decode cX8_both3 50 = .ok (.ireturn, 1) := by decide +kernel
theorem dX8_either3_0 : decode cX8_either3 0 = .ok (.aload_n 0, 1) := by decide +kernel
theorem dX8_either3_1 : decode cX8_either3 1 = .ok (.invokevirtual 264, 3) := by decide +kernel
theorem dX8_either3_4 : decode cX8_either3 4 = .ok (.istore_n 1, 1) := by decide +kernel
theorem dX8_either3_5 : decode cX8_either3 5 = .ok (.aload_n 0, 1) := by decide +kernel
theorem dX8_either3_6 : decode cX8_either3 6 = .ok (.bipush 111, 2) := by decide +kernel
theorem dX8_either3_8 : decode cX8_either3 8 = .ok (.bipush 114, 2) := by decide +kernel
theorem dX8_either3_10 : decode cX8_either3 10 = .ok (.iconst 0, 1) := by decide +kernel
theorem dX8_either3_11 : decode cX8_either3 11 = .ok (.iconst 0, 1) := by decide +kernel
theorem dX8_either3_12 : decode cX8_either3 12 = .ok (.iconst 0, 1) := by decide +kernel
theorem dX8_either3_13 : decode cX8_either3 13 = .ok (.iconst 0, 1) := by decide +kernel
theorem dX8_either3_14 : decode cX8_either3 14 = .ok (.iconst 0, 1) := by decide +kernel
theorem dX8_either3_15 : decode cX8_either3 15 = .ok (.iconst 0, 1) := by decide +kernel
theorem dX8_either3_16 : decode cX8_either3 16 = .ok (.invokevirtual 178, 3) := by decide +kernel
theorem dX8_either3_19 : decode cX8_either3 19 = .ok (.ifCond .eq 29, 3) := by decide +kernel
theorem dX8_either3_22 : decode cX8_either3 22 = .ok (.aload_n 0, 1) := by decide +kernel
theorem dX8_either3_23 : decode cX8_either3 23 = .ok (.invokevirtual 175, 3) := by decide +kernel
theorem dX8_either3_26 : decode cX8_either3 26 = .ok (.aload_n 0, 1) := by decide +kernel
theorem dX8_either3_27 : decode cX8_either3 27 = .ok (.invokevirtual 264, 3) := by decide +kernel
theorem dX8_either3_30 : decode cX8_either3 30 = .ok (.istore_n 2, 1) := by decide +kernel
theorem dX8_either3_31 : decode cX8_either3 31 = .ok (.iload_n 1, 1) := by decide +kernel
theorem dX8_either3_32 : decode cX8_either3 32 = .ok (.ifCond .ne 7, 3) := by decide +kernel
theorem dX8_either3_35 : decode cX8_either3 35 = .ok (.iload_n 2, 1) := by decide +kernel
theorem dX8_either3_36 : decode cX8_either3 36 = .ok (.ifCond .eq 7, 3) := by decide +kernel
theorem dX8_either3_39 : decode cX8_either3 39 = .ok (.iconst 1, 1) := by decide +kernel

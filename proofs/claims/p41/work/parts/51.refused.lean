/-! LAW: refused -/
theorem dL_refused_0 : decode cL_refused 0 = .ok (.aload_n 0, 1) := by decide +kernel
theorem dL_refused_1 : decode cL_refused 1 = .ok (.invokestatic 172, 3) := by decide +kernel
theorem dL_refused_4 : decode cL_refused 4 = .ok (.lstore_n 1, 1) := by decide +kernel
theorem dL_refused_5 : decode cL_refused 5 = .ok (.aload_n 0, 1) := by decide +kernel
theorem dL_refused_6 : decode cL_refused 6 = .ok (.iconst 0, 1) := by decide +kernel
theorem dL_refused_7 : decode cL_refused 7 = .ok (.invokevirtual 81, 3) := by decide +kernel
theorem dL_refused_10 : decode cL_refused 10 = .ok (.istore_n 3, 1) := by decide +kernel
theorem dL_refused_11 : decode cL_refused 11 = .ok (.aload_n 0, 1) := by decide +kernel
theorem dL_refused_12 : decode cL_refused 12 = .ok (.iconst 1, 1) := by decide +kernel
theorem dL_refused_13 : decode cL_refused 13 = .ok (.iconst 0, 1) := by decide +kernel
theorem dL_refused_14 : decode cL_refused 14 = .ok (.invokevirtual 84, 3) := by decide +kernel
theorem dL_refused_17 : decode cL_refused 17 = .ok (.istore 4, 2) := by decide +kernel
theorem dL_refused_19 : decode cL_refused 19 = .ok (.aload_n 0, 1) := by decide +kernel
theorem dL_refused_20 : decode cL_refused 20 = .ok (.iconst (-1), 1) := by decide +kernel
theorem dL_refused_21 : decode cL_refused 21 = .ok (.invokevirtual 44, 3) := by decide +kernel
theorem dL_refused_24 : decode cL_refused 24 = .ok (.bipush (-2), 2) := by decide +kernel
theorem dL_refused_26 : decode cL_refused 26 = .ok (.if_icmp .ne 176, 3) := by decide +kernel
theorem dL_refused_29 : decode cL_refused 29 = .ok (.aload_n 0, 1) := by decide +kernel
theorem dL_refused_30 : decode cL_refused 30 = .ok (.bipush 100, 2) := by decide +kernel
theorem dL_refused_32 : decode cL_refused 32 = .ok (.invokevirtual 44, 3) := by decide +kernel
theorem dL_refused_35 : decode cL_refused 35 = .ok (.bipush (-2), 2) := by decide +kernel
theorem dL_refused_37 : decode cL_refused 37 = .ok (.if_icmp .ne 165, 3) := by decide +kernel
theorem dL_refused_40 : decode cL_refused 40 = .ok (.aload_n 0, 1) := by decide +kernel
theorem dL_refused_41 : decode cL_refused 41 = .ok (.iload_n 3, 1) := by decide +kernel
theorem dL_refused_42 : decode cL_refused 42 = .ok (.iconst 0, 1) := by decide +kernel
theorem dL_refused_43 : decode cL_refused 43 = .ok (.invokevirtual 47, 3) := by decide +kernel
theorem dL_refused_46 : decode cL_refused 46 = .ok (.iconst (-1), 1) := by decide +kernel
theorem dL_refused_47 : decode cL_refused 47 = .ok (.if_icmp .ne 155, 3) := by decide +kernel
theorem dL_refused_50 : decode cL_refused 50 = .ok (.aload_n 0, 1) := by decide +kernel
theorem dL_refused_51 : decode cL_refused 51 = .ok (.iconst 0, 1) := by decide +kernel
theorem dL_refused_52 : decode cL_refused 52 = .ok (.iload_n 3, 1) := by decide +kernel
theorem dL_refused_53 : decode cL_refused 53 = .ok (.invokevirtual 47, 3) := by decide +kernel
theorem dL_refused_56 : decode cL_refused 56 = .ok (.iconst (-1), 1) := by decide +kernel
theorem dL_refused_57 : decode cL_refused 57 = .ok (.if_icmp .ne 145, 3) := by decide +kernel
theorem dL_refused_60 : decode cL_refused 60 = .ok (.aload_n 0, 1) := by decide +kernel
theorem dL_refused_61 : decode cL_refused 61 = .ok (.iconst (-1), 1) := by decide +kernel
theorem dL_refused_62 : decode cL_refused 62 = .ok (.iconst (-1), 1) := by decide +kernel
theorem dL_refused_63 : decode cL_refused 63 = .ok (.invokevirtual 47, 3) := by decide +kernel
theorem dL_refused_66 : decode cL_refused 66 = .ok (.iconst (-1), 1) := by decide +kernel
theorem dL_refused_67 : decode cL_refused 67 = .ok (.if_icmp .ne 135, 3) := by decide +kernel
theorem dL_refused_70 : decode cL_refused 70 = .ok (.aload_n 0, 1) := by decide +kernel
theorem dL_refused_71 : decode cL_refused 71 = .ok (.iload_n 3, 1) := by decide +kernel
theorem dL_refused_72 : decode cL_refused 72 = .ok (.invokevirtual 135, 3) := by decide +kernel
theorem dL_refused_75 : decode cL_refused 75 = .ok (.iconst (-1), 1) := by decide +kernel
theorem dL_refused_76 : decode cL_refused 76 = .ok (.if_icmp .ne 126, 3) := by decide +kernel
theorem dL_refused_79 : decode cL_refused 79 = .ok (.aload_n 0, 1) := by decide +kernel
theorem dL_refused_80 : decode cL_refused 80 = .ok (.iconst (-1), 1) := by decide +kernel
theorem dL_refused_81 : decode cL_refused 81 = .ok (.invokevirtual 135, 3) := by decide +kernel
theorem dL_refused_84 : decode cL_refused 84 = .ok (.iconst (-1), 1) := by decide +kernel
theorem dL_refused_85 : decode cL_refused 85 = .ok (.if_icmp .ne 117, 3) := by decide +kernel
theorem dL_refused_88 : decode cL_refused 88 = .ok (.aload_n 0, 1) := by decide +kernel
theorem dL_refused_89 : decode cL_refused 89 = .ok (.iload_n 3, 1) := by decide +kernel
theorem dL_refused_90 : decode cL_refused 90 = .ok (.invokevirtual 50, 3) := by decide +kernel
theorem dL_refused_93 : decode cL_refused 93 = .ok (.iconst (-1), 1) := by decide +kernel
theorem dL_refused_94 : decode cL_refused 94 = .ok (.if_icmp .ne 108, 3) := by decide +kernel
theorem dL_refused_97 : decode cL_refused 97 = .ok (.aload_n 0, 1) := by decide +kernel
theorem dL_refused_98 : decode cL_refused 98 = .ok (.iconst (-1), 1) := by decide +kernel
theorem dL_refused_99 : decode cL_refused 99 = .ok (.invokevirtual 50, 3) := by decide +kernel
theorem dL_refused_102 : decode cL_refused 102 = .ok (.iconst (-1), 1) := by decide +kernel
theorem dL_refused_103 : decode cL_refused 103 = .ok (.if_icmp .ne 99, 3) := by decide +kernel
theorem dL_refused_106 : decode cL_refused 106 = .ok (.aload_n 0, 1) := by decide +kernel
theorem dL_refused_107 : decode cL_refused 107 = .ok (.iload_n 3, 1) := by decide +kernel
theorem dL_refused_108 : decode cL_refused 108 = .ok (.invokevirtual 138, 3) := by decide +kernel
theorem dL_refused_111 : decode cL_refused 111 = .ok (.iconst (-1), 1) := by decide +kernel
theorem dL_refused_112 : decode cL_refused 112 = .ok (.if_icmp .ne 90, 3) := by decide +kernel
theorem dL_refused_115 : decode cL_refused 115 = .ok (.aload_n 0, 1) := by decide +kernel
theorem dL_refused_116 : decode cL_refused 116 = .ok (.iconst (-1), 1) := by decide +kernel
theorem dL_refused_117 : decode cL_refused 117 = .ok (.invokevirtual 138, 3) := by decide +kernel
theorem dL_refused_120 : decode cL_refused 120 = .ok (.iconst (-1), 1) := by decide +kernel
theorem dL_refused_121 : decode cL_refused 121 = .ok (.if_icmp .ne 81, 3) := by decide +kernel
theorem dL_refused_124 : decode cL_refused 124 = .ok (.aload_n 0, 1) := by decide +kernel
theorem dL_refused_125 : decode cL_refused 125 = .ok (.iload_n 3, 1) := by decide +kernel
theorem dL_refused_126 : decode cL_refused 126 = .ok (.bipush 100, 2) := by decide +kernel
theorem dL_refused_128 : decode cL_refused 128 = .ok (.invokevirtual 141, 3) := by decide +kernel
theorem dL_refused_131 : decode cL_refused 131 = .ok (.iconst (-1), 1) := by decide +kernel
theorem dL_refused_132 : decode cL_refused 132 = .ok (.if_icmp .ne 70, 3) := by decide +kernel
theorem dL_refused_135 : decode cL_refused 135 = .ok (.aload_n 0, 1) := by decide +kernel
theorem dL_refused_136 : decode cL_refused 136 = .ok (.iconst 0, 1) := by decide +kernel
theorem dL_refused_137 : decode cL_refused 137 = .ok (.bipush 100, 2) := by decide +kernel
theorem dL_refused_139 : decode cL_refused 139 = .ok (.invokevirtual 141, 3) := by decide +kernel
theorem dL_refused_142 : decode cL_refused 142 = .ok (.bipush (-2), 2) := by decide +kernel
theorem dL_refused_144 : decode cL_refused 144 = .ok (.if_icmp .ne 58, 3) := by decide +kernel
theorem dL_refused_147 : decode cL_refused 147 = .ok (.aload_n 0, 1) := by decide +kernel
theorem dL_refused_148 : decode cL_refused 148 = .ok (.iconst 0, 1) := by decide +kernel
theorem dL_refused_149 : decode cL_refused 149 = .ok (.iconst (-1), 1) := by decide +kernel
theorem dL_refused_150 : decode cL_refused 150 = .ok (.invokevirtual 141, 3) := by decide +kernel
theorem dL_refused_153 : decode cL_refused 153 = .ok (.bipush (-2), 2) := by decide +kernel
theorem dL_refused_155 : decode cL_refused 155 = .ok (.if_icmp .ne 47, 3) := by decide +kernel
theorem dL_refused_158 : decode cL_refused 158 = .ok (.aload_n 0, 1) := by decide +kernel
theorem dL_refused_159 : decode cL_refused 159 = .ok (.iconst 1, 1) := by decide +kernel
theorem dL_refused_160 : decode cL_refused 160 = .ok (.iload 4, 2) := by decide +kernel
theorem dL_refused_162 : decode cL_refused 162 = .ok (.invokevirtual 141, 3) := by decide +kernel
theorem dL_refused_165 : decode cL_refused 165 = .ok (.bipush (-3), 2) := by decide +kernel
theorem dL_refused_167 : decode cL_refused 167 = .ok (.if_icmp .ne 35, 3) := by decide +kernel
theorem dL_refused_170 : decode cL_refused 170 = .ok (.aload_n 0, 1) := by decide +kernel
theorem dL_refused_171 : decode cL_refused 171 = .ok (.iconst 5, 1) := by decide +kernel
theorem dL_refused_172 : decode cL_refused 172 = .ok (.iload 4, 2) := by decide +kernel
theorem dL_refused_174 : decode cL_refused 174 = .ok (.invokestatic 176, 3) := by decide +kernel
theorem dL_refused_177 : decode cL_refused 177 = .ok (.ifCond .eq 25, 3) := by decide +kernel
theorem dL_refused_180 : decode cL_refused 180 = .ok (.aload_n 0, 1) := by decide +kernel
theorem dL_refused_181 : decode cL_refused 181 = .ok (.iload_n 3, 1) := by decide +kernel
theorem dL_refused_182 : decode cL_refused 182 = .ok (.invokevirtual 53, 3) := by decide +kernel
theorem dL_refused_185 : decode cL_refused 185 = .ok (.iconst (-1), 1) := by decide +kernel
theorem dL_refused_186 : decode cL_refused 186 = .ok (.if_icmp .ne 16, 3) := by decide +kernel
theorem dL_refused_189 : decode cL_refused 189 = .ok (.aload_n 0, 1) := by decide +kernel
theorem dL_refused_190 : decode cL_refused 190 = .ok (.iconst (-1), 1) := by decide +kernel
theorem dL_refused_191 : decode cL_refused 191 = .ok (.invokevirtual 53, 3) := by decide +kernel
theorem dL_refused_194 : decode cL_refused 194 = .ok (.iconst (-1), 1) := by decide +kernel
theorem dL_refused_195 : decode cL_refused 195 = .ok (.if_icmp .ne 7, 3) := by decide +kernel
theorem dL_refused_198 : decode cL_refused 198 = .ok (.iconst 1, 1) := by decide +kernel
theorem dL_refused_199 : decode cL_refused 199 = .ok (.goto 4, 3) := by decide +kernel
theorem dL_refused_202 : decode cL_refused 202 = .ok (.iconst 0, 1) := by decide +kernel
theorem dL_refused_203 : decode cL_refused 203 = .ok (.istore 5, 2) := by decide +kernel
theorem dL_refused_205 : decode cL_refused 205 = .ok (.aload_n 0, 1) := by decide +kernel
theorem dL_refused_206 : decode cL_refused 206 = .ok (.iconst 2, 1) := by decide +kernel
theorem dL_refused_207 : decode cL_refused 207 = .ok (.iconst 1, 1) := by decide +kernel
theorem dL_refused_208 : decode cL_refused 208 = .ok (.invokevirtual 84, 3) := by decide +kernel
theorem dL_refused_211 : decode cL_refused 211 = .ok (.istore 6, 2) := by decide +kernel
theorem dL_refused_213 : decode cL_refused 213 = .ok (.iload 5, 2) := by decide +kernel
theorem dL_refused_215 : decode cL_refused 215 = .ok (.ifCond .eq 75, 3) := by decide +kernel
theorem dL_refused_218 : decode cL_refused 218 = .ok (.iload 6, 2) := by decide +kernel
theorem dL_refused_220 : decode cL_refused 220 = .ok (.ifCond .ge 45, 3) := by decide +kernel
theorem dL_refused_223 : decode cL_refused 223 = .ok (.aload_n 0, 1) := by decide +kernel
theorem dL_refused_224 : decode cL_refused 224 = .ok (.iconst 2, 1) := by decide +kernel
theorem dL_refused_225 : decode cL_refused 225 = .ok (.invokevirtual 135, 3) := by decide +kernel
theorem dL_refused_228 : decode cL_refused 228 = .ok (.bipush (-3), 2) := by decide +kernel
theorem dL_refused_230 : decode cL_refused 230 = .ok (.if_icmp .ne 60, 3) := by decide +kernel
theorem dL_refused_233 : decode cL_refused 233 = .ok (.aload_n 0, 1) := by decide +kernel
theorem dL_refused_234 : decode cL_refused 234 = .ok (.iconst 4, 1) := by decide +kernel
theorem dL_refused_235 : decode cL_refused 235 = .ok (.iconst 2, 1) := by decide +kernel
theorem dL_refused_236 : decode cL_refused 236 = .ok (.invokestatic 176, 3) := by decide +kernel
theorem dL_refused_239 : decode cL_refused 239 = .ok (.ifCond .eq 51, 3) := by decide +kernel
theorem dL_refused_242 : decode cL_refused 242 = .ok (.aload_n 0, 1) := by decide +kernel
theorem dL_refused_243 : decode cL_refused 243 = .ok (.iconst 2, 1) := by decide +kernel
theorem dL_refused_244 : decode cL_refused 244 = .ok (.iconst 2, 1) := by decide +kernel
theorem dL_refused_245 : decode cL_refused 245 = .ok (.invokevirtual 47, 3) := by decide +kernel
theorem dL_refused_248 : decode cL_refused 248 = .ok (.bipush (-3), 2) := by decide +kernel
theorem dL_refused_250 : decode cL_refused 250 = .ok (.if_icmp .ne 40, 3) := by decide +kernel
theorem dL_refused_253 : decode cL_refused 253 = .ok (.aload_n 0, 1) := by decide +kernel
theorem dL_refused_254 : decode cL_refused 254 = .ok (.iconst 3, 1) := by decide +kernel
theorem dL_refused_255 : decode cL_refused 255 = .ok (.iconst 2, 1) := by decide +kernel
theorem dL_refused_256 : decode cL_refused 256 = .ok (.invokestatic 176, 3) := by decide +kernel
theorem dL_refused_259 : decode cL_refused 259 = .ok (.ifCond .eq 31, 3) := by decide +kernel
theorem dL_refused_262 : decode cL_refused 262 = .ok (.goto 24, 3) := by decide +kernel
theorem dL_refused_265 : decode cL_refused 265 = .ok (.aload_n 0, 1) := by decide +kernel
theorem dL_refused_266 : decode cL_refused 266 = .ok (.iconst 2, 1) := by decide +kernel
theorem dL_refused_267 : decode cL_refused 267 = .ok (.iconst 0, 1) := by decide +kernel
theorem dL_refused_268 : decode cL_refused 268 = .ok (.invokevirtual 47, 3) := by decide +kernel
theorem dL_refused_271 : decode cL_refused 271 = .ok (.bipush (-3), 2) := by decide +kernel
theorem dL_refused_273 : decode cL_refused 273 = .ok (.if_icmp .ne 17, 3) := by decide +kernel
theorem dL_refused_276 : decode cL_refused 276 = .ok (.aload_n 0, 1) := by decide +kernel
theorem dL_refused_277 : decode cL_refused 277 = .ok (.iconst 2, 1) := by decide +kernel
theorem dL_refused_278 : decode cL_refused 278 = .ok (.iload 6, 2) := by decide +kernel
theorem dL_refused_280 : decode cL_refused 280 = .ok (.invokestatic 176, 3) := by decide +kernel
theorem dL_refused_283 : decode cL_refused 283 = .ok (.ifCond .eq 7, 3) := by decide +kernel
theorem dL_refused_286 : decode cL_refused 286 = .ok (.iconst 1, 1) := by decide +kernel
theorem dL_refused_287 : decode cL_refused 287 = .ok (.goto 4, 3) := by decide +kernel
theorem dL_refused_290 : decode cL_refused 290 = .ok (.iconst 0, 1) := by decide +kernel
theorem dL_refused_291 : decode cL_refused 291 = .ok (.istore 5, 2) := by decide +kernel
theorem dL_refused_293 : decode cL_refused 293 = .ok (.iload 5, 2) := by decide +kernel
theorem dL_refused_295 : decode cL_refused 295 = .ok (.ifCond .eq 363, 3) := by decide +kernel
theorem dL_refused_298 : decode cL_refused 298 = .ok (.aload_n 0, 1) := by decide +kernel
theorem dL_refused_299 : decode cL_refused 299 = .ok (.iload_n 3, 1) := by decide +kernel
theorem dL_refused_300 : decode cL_refused 300 = .ok (.bipush 9, 2) := by decide +kernel
theorem dL_refused_302 : decode cL_refused 302 = .ok (.invokevirtual 84, 3) := by decide +kernel
theorem dL_refused_305 : decode cL_refused 305 = .ok (.iconst (-1), 1) := by decide +kernel
theorem dL_refused_306 : decode cL_refused 306 = .ok (.if_icmp .ne 352, 3) := by decide +kernel
theorem dL_refused_309 : decode cL_refused 309 = .ok (.aload_n 0, 1) := by decide +kernel
theorem dL_refused_310 : decode cL_refused 310 = .ok (.iconst 0, 1) := by decide +kernel
theorem dL_refused_311 : decode cL_refused 311 = .ok (.bipush 7, 2) := by decide +kernel
theorem dL_refused_313 : decode cL_refused 313 = .ok (.invokevirtual 84, 3) := by decide +kernel
theorem dL_refused_316 : decode cL_refused 316 = .ok (.bipush (-2), 2) := by decide +kernel
theorem dL_refused_318 : decode cL_refused 318 = .ok (.if_icmp .ne 340, 3) := by decide +kernel
theorem dL_refused_321 : decode cL_refused 321 = .ok (.aload_n 0, 1) := by decide +kernel
theorem dL_refused_322 : decode cL_refused 322 = .ok (.iconst 0, 1) := by decide +kernel
theorem dL_refused_323 : decode cL_refused 323 = .ok (.iconst (-1), 1) := by decide +kernel
theorem dL_refused_324 : decode cL_refused 324 = .ok (.invokevirtual 84, 3) := by decide +kernel
theorem dL_refused_327 : decode cL_refused 327 = .ok (.bipush (-2), 2) := by decide +kernel
theorem dL_refused_329 : decode cL_refused 329 = .ok (.if_icmp .ne 329, 3) := by decide +kernel
theorem dL_refused_332 : decode cL_refused 332 = .ok (.aload_n 0, 1) := by decide +kernel
theorem dL_refused_333 : decode cL_refused 333 = .ok (.iload_n 3, 1) := by decide +kernel
theorem dL_refused_334 : decode cL_refused 334 = .ok (.bipush 9, 2) := by decide +kernel
theorem dL_refused_336 : decode cL_refused 336 = .ok (.invokevirtual 87, 3) := by decide +kernel
theorem dL_refused_339 : decode cL_refused 339 = .ok (.iconst (-1), 1) := by decide +kernel
theorem dL_refused_340 : decode cL_refused 340 = .ok (.if_icmp .ne 318, 3) := by decide +kernel
theorem dL_refused_343 : decode cL_refused 343 = .ok (.aload_n 0, 1) := by decide +kernel
theorem dL_refused_344 : decode cL_refused 344 = .ok (.iconst 0, 1) := by decide +kernel
theorem dL_refused_345 : decode cL_refused 345 = .ok (.bipush 7, 2) := by decide +kernel
theorem dL_refused_347 : decode cL_refused 347 = .ok (.invokevirtual 87, 3) := by decide +kernel
theorem dL_refused_350 : decode cL_refused 350 = .ok (.bipush (-2), 2) := by decide +kernel
theorem dL_refused_352 : decode cL_refused 352 = .ok (.if_icmp .ne 306, 3) := by decide +kernel
theorem dL_refused_355 : decode cL_refused 355 = .ok (.aload_n 0, 1) := by decide +kernel
theorem dL_refused_356 : decode cL_refused 356 = .ok (.iconst 0, 1) := by decide +kernel
theorem dL_refused_357 : decode cL_refused 357 = .ok (.iconst (-1), 1) := by decide +kernel
theorem dL_refused_358 : decode cL_refused 358 = .ok (.invokevirtual 87, 3) := by decide +kernel
theorem dL_refused_361 : decode cL_refused 361 = .ok (.bipush (-2), 2) := by decide +kernel
theorem dL_refused_363 : decode cL_refused 363 = .ok (.if_icmp .ne 295, 3) := by decide +kernel
theorem dL_refused_366 : decode cL_refused 366 = .ok (.aload_n 0, 1) := by decide +kernel
theorem dL_refused_367 : decode cL_refused 367 = .ok (.iload_n 3, 1) := by decide +kernel
theorem dL_refused_368 : decode cL_refused 368 = .ok (.iconst 0, 1) := by decide +kernel
theorem dL_refused_369 : decode cL_refused 369 = .ok (.invokevirtual 105, 3) := by decide +kernel
theorem dL_refused_372 : decode cL_refused 372 = .ok (.iconst (-1), 1) := by decide +kernel
theorem dL_refused_373 : decode cL_refused 373 = .ok (.if_icmp .ne 285, 3) := by decide +kernel
theorem dL_refused_376 : decode cL_refused 376 = .ok (.aload_n 0, 1) := by decide +kernel
theorem dL_refused_377 : decode cL_refused 377 = .ok (.iconst 0, 1) := by decide +kernel
theorem dL_refused_378 : decode cL_refused 378 = .ok (.iconst (-1), 1) := by decide +kernel
theorem dL_refused_379 : decode cL_refused 379 = .ok (.invokevirtual 105, 3) := by decide +kernel
theorem dL_refused_382 : decode cL_refused 382 = .ok (.iconst (-1), 1) := by decide +kernel
theorem dL_refused_383 : decode cL_refused 383 = .ok (.if_icmp .ne 275, 3) := by decide +kernel
theorem dL_refused_386 : decode cL_refused 386 = .ok (.aload_n 0, 1) := by decide +kernel
theorem dL_refused_387 : decode cL_refused 387 = .ok (.iconst 0, 1) := by decide +kernel
theorem dL_refused_388 : decode cL_refused 388 = .ok (.bipush 16, 2) := by decide +kernel
theorem dL_refused_390 : decode cL_refused 390 = .ok (.invokevirtual 105, 3) := by decide +kernel
theorem dL_refused_393 : decode cL_refused 393 = .ok (.iconst (-1), 1) := by decide +kernel
theorem dL_refused_394 : decode cL_refused 394 = .ok (.if_icmp .ne 264, 3) := by decide +kernel
theorem dL_refused_397 : decode cL_refused 397 = .ok (.aload_n 0, 1) := by decide +kernel
theorem dL_refused_398 : decode cL_refused 398 = .ok (.iload_n 3, 1) := by decide +kernel
theorem dL_refused_399 : decode cL_refused 399 = .ok (.invokevirtual 90, 3) := by decide +kernel
theorem dL_refused_402 : decode cL_refused 402 = .ok (.iconst (-1), 1) := by decide +kernel
theorem dL_refused_403 : decode cL_refused 403 = .ok (.if_icmp .ne 255, 3) := by decide +kernel
theorem dL_refused_406 : decode cL_refused 406 = .ok (.aload_n 0, 1) := by decide +kernel
theorem dL_refused_407 : decode cL_refused 407 = .ok (.iconst (-1), 1) := by decide +kernel
theorem dL_refused_408 : decode cL_refused 408 = .ok (.invokevirtual 93, 3) := by decide +kernel
theorem dL_refused_411 : decode cL_refused 411 = .ok (.iconst (-1), 1) := by decide +kernel
theorem dL_refused_412 : decode cL_refused 412 = .ok (.if_icmp .ne 246, 3) := by decide +kernel
theorem dL_refused_415 : decode cL_refused 415 = .ok (.aload_n 0, 1) := by decide +kernel
theorem dL_refused_416 : decode cL_refused 416 = .ok (.iload_n 3, 1) := by decide +kernel
theorem dL_refused_417 : decode cL_refused 417 = .ok (.invokevirtual 96, 3) := by decide +kernel
theorem dL_refused_420 : decode cL_refused 420 = .ok (.iconst (-1), 1) := by decide +kernel
theorem dL_refused_421 : decode cL_refused 421 = .ok (.if_icmp .ne 237, 3) := by decide +kernel
theorem dL_refused_424 : decode cL_refused 424 = .ok (.aload_n 0, 1) := by decide +kernel
theorem dL_refused_425 : decode cL_refused 425 = .ok (.iload_n 3, 1) := by decide +kernel
theorem dL_refused_426 : decode cL_refused 426 = .ok (.invokevirtual 99, 3) := by decide +kernel
theorem dL_refused_429 : decode cL_refused 429 = .ok (.iconst (-1), 1) := by decide +kernel
theorem dL_refused_430 : decode cL_refused 430 = .ok (.if_icmp .ne 228, 3) := by decide +kernel
theorem dL_refused_433 : decode cL_refused 433 = .ok (.aload_n 0, 1) := by decide +kernel
theorem dL_refused_434 : decode cL_refused 434 = .ok (.iconst (-1), 1) := by decide +kernel
theorem dL_refused_435 : decode cL_refused 435 = .ok (.invokevirtual 102, 3) := by decide +kernel
theorem dL_refused_438 : decode cL_refused 438 = .ok (.iconst (-1), 1) := by decide +kernel
theorem dL_refused_439 : decode cL_refused 439 = .ok (.if_icmp .ne 219, 3) := by decide +kernel
theorem dL_refused_442 : decode cL_refused 442 = .ok (.aload_n 0, 1) := by decide +kernel
theorem dL_refused_443 : decode cL_refused 443 = .ok (.iload_n 3, 1) := by decide +kernel
theorem dL_refused_444 : decode cL_refused 444 = .ok (.invokevirtual 108, 3) := by decide +kernel
theorem dL_refused_447 : decode cL_refused 447 = .ok (.iconst (-1), 1) := by decide +kernel
theorem dL_refused_448 : decode cL_refused 448 = .ok (.if_icmp .ne 210, 3) := by decide +kernel
theorem dL_refused_451 : decode cL_refused 451 = .ok (.aload_n 0, 1) := by decide +kernel
theorem dL_refused_452 : decode cL_refused 452 = .ok (.iload_n 3, 1) := by decide +kernel
theorem dL_refused_453 : decode cL_refused 453 = .ok (.invokevirtual 111, 3) := by decide +kernel
theorem dL_refused_456 : decode cL_refused 456 = .ok (.iconst (-1), 1) := by decide +kernel
theorem dL_refused_457 : decode cL_refused 457 = .ok (.if_icmp .ne 201, 3) := by decide +kernel
theorem dL_refused_460 : decode cL_refused 460 = .ok (.aload_n 0, 1) := by decide +kernel
theorem dL_refused_461 : decode cL_refused 461 = .ok (.iload_n 3, 1) := by decide +kernel
theorem dL_refused_462 : decode cL_refused 462 = .ok (.iconst 0, 1) := by decide +kernel
theorem dL_refused_463 : decode cL_refused 463 = .ok (.invokevirtual 114, 3) := by decide +kernel
theorem dL_refused_466 : decode cL_refused 466 = .ok (.iconst (-1), 1) := by decide +kernel
theorem dL_refused_467 : decode cL_refused 467 = .ok (.if_icmp .ne 191, 3) := by decide +kernel
theorem dL_refused_470 : decode cL_refused 470 = .ok (.aload_n 0, 1) := by decide +kernel
theorem dL_refused_471 : decode cL_refused 471 = .ok (.iconst 0, 1) := by decide +kernel
theorem dL_refused_472 : decode cL_refused 472 = .ok (.iconst (-1), 1) := by decide +kernel
theorem dL_refused_473 : decode cL_refused 473 = .ok (.invokevirtual 114, 3) := by decide +kernel
theorem dL_refused_476 : decode cL_refused 476 = .ok (.iconst (-1), 1) := by decide +kernel
theorem dL_refused_477 : decode cL_refused 477 = .ok (.if_icmp .ne 181, 3) := by decide +kernel
theorem dL_refused_480 : decode cL_refused 480 = .ok (.aload_n 0, 1) := by decide +kernel
theorem dL_refused_481 : decode cL_refused 481 = .ok (.iconst 0, 1) := by decide +kernel
theorem dL_refused_482 : decode cL_refused 482 = .ok (.iload_n 3, 1) := by decide +kernel
theorem dL_refused_483 : decode cL_refused 483 = .ok (.invokevirtual 117, 3) := by decide +kernel
theorem dL_refused_486 : decode cL_refused 486 = .ok (.iconst (-1), 1) := by decide +kernel
theorem dL_refused_487 : decode cL_refused 487 = .ok (.if_icmp .ne 171, 3) := by decide +kernel
theorem dL_refused_490 : decode cL_refused 490 = .ok (.aload_n 0, 1) := by decide +kernel
theorem dL_refused_491 : decode cL_refused 491 = .ok (.iconst 3, 1) := by decide +kernel
theorem dL_refused_492 : decode cL_refused 492 = .ok (.bipush 9, 2) := by decide +kernel
theorem dL_refused_494 : decode cL_refused 494 = .ok (.invokevirtual 126, 3) := by decide +kernel
theorem dL_refused_497 : decode cL_refused 497 = .ok (.iconst (-1), 1) := by decide +kernel
theorem dL_refused_498 : decode cL_refused 498 = .ok (.if_icmp .ne 160, 3) := by decide +kernel
theorem dL_refused_501 : decode cL_refused 501 = .ok (.aload_n 0, 1) := by decide +kernel
theorem dL_refused_502 : decode cL_refused 502 = .ok (.iconst (-1), 1) := by decide +kernel
theorem dL_refused_503 : decode cL_refused 503 = .ok (.iconst 0, 1) := by decide +kernel
theorem dL_refused_504 : decode cL_refused 504 = .ok (.invokevirtual 126, 3) := by decide +kernel
theorem dL_refused_507 : decode cL_refused 507 = .ok (.iconst (-1), 1) := by decide +kernel
theorem dL_refused_508 : decode cL_refused 508 = .ok (.if_icmp .ne 150, 3) := by decide +kernel
theorem dL_refused_511 : decode cL_refused 511 = .ok (.aload_n 0, 1) := by decide +kernel
theorem dL_refused_512 : decode cL_refused 512 = .ok (.iconst 0, 1) := by decide +kernel
theorem dL_refused_513 : decode cL_refused 513 = .ok (.iconst 4, 1) := by decide +kernel
theorem dL_refused_514 : decode cL_refused 514 = .ok (.invokevirtual 126, 3) := by decide +kernel
theorem dL_refused_517 : decode cL_refused 517 = .ok (.bipush (-2), 2) := by decide +kernel
theorem dL_refused_519 : decode cL_refused 519 = .ok (.if_icmp .ne 139, 3) := by decide +kernel
theorem dL_refused_522 : decode cL_refused 522 = .ok (.aload_n 0, 1) := by decide +kernel
theorem dL_refused_523 : decode cL_refused 523 = .ok (.iconst 0, 1) := by decide +kernel
theorem dL_refused_524 : decode cL_refused 524 = .ok (.iconst (-1), 1) := by decide +kernel
theorem dL_refused_525 : decode cL_refused 525 = .ok (.invokevirtual 126, 3) := by decide +kernel
theorem dL_refused_528 : decode cL_refused 528 = .ok (.bipush (-2), 2) := by decide +kernel
theorem dL_refused_530 : decode cL_refused 530 = .ok (.if_icmp .ne 128, 3) := by decide +kernel
theorem dL_refused_533 : decode cL_refused 533 = .ok (.aload_n 0, 1) := by decide +kernel
theorem dL_refused_534 : decode cL_refused 534 = .ok (.iload_n 3, 1) := by decide +kernel
theorem dL_refused_535 : decode cL_refused 535 = .ok (.invokevirtual 120, 3) := by decide +kernel
theorem dL_refused_538 : decode cL_refused 538 = .ok (.iconst (-1), 1) := by decide +kernel
theorem dL_refused_539 : decode cL_refused 539 = .ok (.if_icmp .ne 119, 3) := by decide +kernel
theorem dL_refused_542 : decode cL_refused 542 = .ok (.aload_n 0, 1) := by decide +kernel
theorem dL_refused_543 : decode cL_refused 543 = .ok (.iconst (-1), 1) := by decide +kernel
theorem dL_refused_544 : decode cL_refused 544 = .ok (.invokevirtual 120, 3) := by decide +kernel
theorem dL_refused_547 : decode cL_refused 547 = .ok (.iconst (-1), 1) := by decide +kernel
theorem dL_refused_548 : decode cL_refused 548 = .ok (.if_icmp .ne 110, 3) := by decide +kernel
theorem dL_refused_551 : decode cL_refused 551 = .ok (.aload_n 0, 1) := by decide +kernel
theorem dL_refused_552 : decode cL_refused 552 = .ok (.iload_n 3, 1) := by decide +kernel
theorem dL_refused_553 : decode cL_refused 553 = .ok (.invokevirtual 123, 3) := by decide +kernel
theorem dL_refused_556 : decode cL_refused 556 = .ok (.iconst (-1), 1) := by decide +kernel
theorem dL_refused_557 : decode cL_refused 557 = .ok (.if_icmp .ne 101, 3) := by decide +kernel
theorem dL_refused_560 : decode cL_refused 560 = .ok (.aload_n 0, 1) := by decide +kernel
theorem dL_refused_561 : decode cL_refused 561 = .ok (.iconst (-1), 1) := by decide +kernel
theorem dL_refused_562 : decode cL_refused 562 = .ok (.invokevirtual 123, 3) := by decide +kernel
theorem dL_refused_565 : decode cL_refused 565 = .ok (.iconst (-1), 1) := by decide +kernel
theorem dL_refused_566 : decode cL_refused 566 = .ok (.if_icmp .ne 92, 3) := by decide +kernel
theorem dL_refused_569 : decode cL_refused 569 = .ok (.aload_n 0, 1) := by decide +kernel
theorem dL_refused_570 : decode cL_refused 570 = .ok (.iconst (-1), 1) := by decide +kernel
theorem dL_refused_571 : decode cL_refused 571 = .ok (.invokevirtual 30, 3) := by decide +kernel
theorem dL_refused_574 : decode cL_refused 574 = .ok (.iconst (-1), 1) := by decide +kernel
theorem dL_refused_575 : decode cL_refused 575 = .ok (.if_icmp .ne 83, 3) := by decide +kernel
theorem dL_refused_578 : decode cL_refused 578 = .ok (.aload_n 0, 1) := by decide +kernel
theorem dL_refused_579 : decode cL_refused 579 = .ok (.sipush 200, 3) := by decide +kernel
theorem dL_refused_582 : decode cL_refused 582 = .ok (.invokevirtual 30, 3) := by decide +kernel
theorem dL_refused_585 : decode cL_refused 585 = .ok (.iconst (-1), 1) := by decide +kernel
theorem dL_refused_586 : decode cL_refused 586 = .ok (.if_icmp .ne 72, 3) := by decide +kernel
theorem dL_refused_589 : decode cL_refused 589 = .ok (.aload_n 0, 1) := by decide +kernel
theorem dL_refused_590 : decode cL_refused 590 = .ok (.bipush 13, 2) := by decide +kernel
theorem dL_refused_592 : decode cL_refused 592 = .ok (.invokevirtual 81, 3) := by decide +kernel
theorem dL_refused_595 : decode cL_refused 595 = .ok (.bipush (-2), 2) := by decide +kernel
theorem dL_refused_597 : decode cL_refused 597 = .ok (.if_icmp .ne 61, 3) := by decide +kernel
theorem dL_refused_600 : decode cL_refused 600 = .ok (.aload_n 0, 1) := by decide +kernel
theorem dL_refused_601 : decode cL_refused 601 = .ok (.iconst (-1), 1) := by decide +kernel
theorem dL_refused_602 : decode cL_refused 602 = .ok (.invokevirtual 81, 3) := by decide +kernel
theorem dL_refused_605 : decode cL_refused 605 = .ok (.bipush (-2), 2) := by decide +kernel
theorem dL_refused_607 : decode cL_refused 607 = .ok (.if_icmp .ne 51, 3) := by decide +kernel
theorem dL_refused_610 : decode cL_refused 610 = .ok (.aload_n 0, 1) := by decide +kernel
theorem dL_refused_611 : decode cL_refused 611 = .ok (.iconst 2, 1) := by decide +kernel
theorem dL_refused_612 : decode cL_refused 612 = .ok (.iconst 1, 1) := by decide +kernel
theorem dL_refused_613 : decode cL_refused 613 = .ok (.invokevirtual 26, 3) := by decide +kernel
theorem dL_refused_616 : decode cL_refused 616 = .ok (.bipush (-2), 2) := by decide +kernel
theorem dL_refused_618 : decode cL_refused 618 = .ok (.if_icmp .ne 40, 3) := by decide +kernel
theorem dL_refused_621 : decode cL_refused 621 = .ok (.aload_n 0, 1) := by decide +kernel
theorem dL_refused_622 : decode cL_refused 622 = .ok (.iconst (-1), 1) := by decide +kernel
theorem dL_refused_623 : decode cL_refused 623 = .ok (.iconst 1, 1) := by decide +kernel
theorem dL_refused_624 : decode cL_refused 624 = .ok (.invokevirtual 26, 3) := by decide +kernel
theorem dL_refused_627 : decode cL_refused 627 = .ok (.bipush (-2), 2) := by decide +kernel
theorem dL_refused_629 : decode cL_refused 629 = .ok (.if_icmp .ne 29, 3) := by decide +kernel
theorem dL_refused_632 : decode cL_refused 632 = .ok (.aload_n 0, 1) := by decide +kernel
theorem dL_refused_633 : decode cL_refused 633 = .ok (.bipush 31, 2) := by decide +kernel
theorem dL_refused_635 : decode cL_refused 635 = .ok (.invokevirtual 17, 3) := by decide +kernel
theorem dL_refused_638 : decode cL_refused 638 = .ok (.bipush (-2), 2) := by decide +kernel
theorem dL_refused_640 : decode cL_refused 640 = .ok (.if_icmp .ne 18, 3) := by decide +kernel
theorem dL_refused_643 : decode cL_refused 643 = .ok (.aload_n 0, 1) := by decide +kernel
theorem dL_refused_644 : decode cL_refused 644 = .ok (.bipush 127, 2) := by decide +kernel
theorem dL_refused_646 : decode cL_refused 646 = .ok (.invokevirtual 17, 3) := by decide +kernel
theorem dL_refused_649 : decode cL_refused 649 = .ok (.bipush (-2), 2) := by decide +kernel
theorem dL_refused_651 : decode cL_refused 651 = .ok (.if_icmp .ne 7, 3) := by decide +kernel
theorem dL_refused_654 : decode cL_refused 654 = .ok (.iconst 1, 1) := by decide +kernel
theorem dL_refused_655 : decode cL_refused 655 = .ok (.goto 4, 3) := by decide +kernel
theorem dL_refused_658 : decode cL_refused 658 = .ok (.iconst 0, 1) := by decide +kernel
theorem dL_refused_659 : decode cL_refused 659 = .ok (.istore 5, 2) := by decide +kernel
theorem dL_refused_661 : decode cL_refused 661 = .ok (.iload 5, 2) := by decide +kernel
theorem dL_refused_663 : decode cL_refused 663 = .ok (.ifCond .eq 102, 3) := by decide +kernel
theorem dL_refused_666 : decode cL_refused 666 = .ok (.aload_n 0, 1) := by decide +kernel
theorem dL_refused_667 : decode cL_refused 667 = .ok (.ldc 180, 2) := by decide +kernel
theorem dL_refused_669 : decode cL_refused 669 = .ok (.invokestatic 168, 3) := by decide +kernel
theorem dL_refused_672 : decode cL_refused 672 = .ok (.bipush (-2), 2) := by decide +kernel
theorem dL_refused_674 : decode cL_refused 674 = .ok (.if_icmp .ne 91, 3) := by decide +kernel
theorem dL_refused_677 : decode cL_refused 677 = .ok (.aload_n 0, 1) := by decide +kernel
theorem dL_refused_678 : decode cL_refused 678 = .ok (.invokevirtual 182, 3) := by decide +kernel
theorem dL_refused_681 : decode cL_refused 681 = .ok (.ifCond .ne 84, 3) := by decide +kernel
theorem dL_refused_684 : decode cL_refused 684 = .ok (.aload_n 0, 1) := by decide +kernel
theorem dL_refused_685 : decode cL_refused 685 = .ok (.ldc 185, 2) := by decide +kernel
theorem dL_refused_687 : decode cL_refused 687 = .ok (.invokestatic 168, 3) := by decide +kernel
theorem dL_refused_690 : decode cL_refused 690 = .ok (.bipush (-3), 2) := by decide +kernel
theorem dL_refused_692 : decode cL_refused 692 = .ok (.if_icmp .ne 73, 3) := by decide +kernel
theorem dL_refused_695 : decode cL_refused 695 = .ok (.aload_n 0, 1) := by decide +kernel
theorem dL_refused_696 : decode cL_refused 696 = .ok (.iconst 2, 1) := by decide +kernel
theorem dL_refused_697 : decode cL_refused 697 = .ok (.iconst 0, 1) := by decide +kernel
theorem dL_refused_698 : decode cL_refused 698 = .ok (.iconst 0, 1) := by decide +kernel
theorem dL_refused_699 : decode cL_refused 699 = .ok (.invokestatic 187, 3) := by decide +kernel
theorem dL_refused_702 : decode cL_refused 702 = .ok (.ifCond .eq 63, 3) := by decide +kernel
theorem dL_refused_705 : decode cL_refused 705 = .ok (.aload_n 0, 1) := by decide +kernel
theorem dL_refused_706 : decode cL_refused 706 = .ok (.new 147, 3) := by decide +kernel
theorem dL_refused_709 : decode cL_refused 709 = .ok (.dup, 1) := by decide +kernel
theorem dL_refused_710 : decode cL_refused 710 = .ok (.invokespecial 149, 3) := by decide +kernel
theorem dL_refused_713 : decode cL_refused 713 = .ok (.ldc 191, 2) := by decide +kernel
theorem dL_refused_715 : decode cL_refused 715 = .ok (.invokevirtual 152, 3) := by decide +kernel
theorem dL_refused_718 : decode cL_refused 718 = .ok (.iload 4, 2) := by decide +kernel
theorem dL_refused_720 : decode cL_refused 720 = .ok (.invokevirtual 155, 3) := by decide +kernel
theorem dL_refused_723 : decode cL_refused 723 = .ok (.invokevirtual 160, 3) := by decide +kernel
theorem dL_refused_726 : decode cL_refused 726 = .ok (.invokestatic 168, 3) := by decide +kernel
theorem dL_refused_729 : decode cL_refused 729 = .ok (.bipush (-3), 2) := by decide +kernel
theorem dL_refused_731 : decode cL_refused 731 = .ok (.if_icmp .ne 34, 3) := by decide +kernel
theorem dL_refused_734 : decode cL_refused 734 = .ok (.aload_n 0, 1) := by decide +kernel
theorem dL_refused_735 : decode cL_refused 735 = .ok (.iconst 1, 1) := by decide +kernel
theorem dL_refused_736 : decode cL_refused 736 = .ok (.iconst 5, 1) := by decide +kernel
theorem dL_refused_737 : decode cL_refused 737 = .ok (.iload 4, 2) := by decide +kernel
theorem dL_refused_739 : decode cL_refused 739 = .ok (.invokestatic 187, 3) := by decide +kernel
theorem dL_refused_742 : decode cL_refused 742 = .ok (.ifCond .eq 23, 3) := by decide +kernel
theorem dL_refused_745 : decode cL_refused 745 = .ok (.aload_n 0, 1) := by decide +kernel
theorem dL_refused_746 : decode cL_refused 746 = .ok (.invokevirtual 182, 3) := by decide +kernel
theorem dL_refused_749 : decode cL_refused 749 = .ok (.ifCond .ne 16, 3) := by decide +kernel
theorem dL_refused_752 : decode cL_refused 752 = .ok (.aload_n 0, 1) := by decide +kernel
theorem dL_refused_753 : decode cL_refused 753 = .ok (.invokestatic 172, 3) := by decide +kernel
theorem dL_refused_756 : decode cL_refused 756 = .ok (.lload_n 1, 1) := by decide +kernel
theorem dL_refused_757 : decode cL_refused 757 = .ok (.lcmp, 1) := by decide +kernel
theorem dL_refused_758 : decode cL_refused 758 = .ok (.ifCond .ne 7, 3) := by decide +kernel
theorem dL_refused_761 : decode cL_refused 761 = .ok (.iconst 1, 1) := by decide +kernel
theorem dL_refused_762 : decode cL_refused 762 = .ok (.goto 4, 3) := by decide +kernel
theorem dL_refused_765 : decode cL_refused 765 = .ok (.iconst 0, 1) := by decide +kernel
theorem dL_refused_766 : decode cL_refused 766 = .ok (.ireturn, 1) := by decide +kernel
theorem lcmp_eq (x : Int64) : lg_cmp x x = 0 := by
  unfold lg_cmp
  simp
abbrev rfF (a N : Nat) : Nat → Prop := fun z => qIn a 14 z ∨ qIn (a + 27) 140 z ∨ N ≤ z
def RfP (cs : qC) (N a : Nat) (q : qQV) (Q : List qQV) (c : Nat) (f : Int32 × Int32) (M0 : qM) : Option Value → qM → Nat → Prop := fun r M' N' => r = some (.int 1) ∧ ∃ (f' : Int32 × Int32) (qt' : qQV) (h' : qHV) (i' : qIV) (n' : qNV) (rs' : qRV), HI h' Q c ∧ f'.2 = f.2 ∧ qLX cs M' a f' ∧ qLQ cs M' (a + 1) q ∧ qLQ cs M' (a + 27) qt' ∧ qLH cs M' (a + 40) h' ∧ qLI cs M' (a + 159) i' ∧ qLN cs M' (a + 164) n' ∧ qLR cs M' (a + 166) rs' ∧ qFr (rfF a N) M0 M' ∧ N ≤ N'
theorem is_T (f : Int32 × Int32) (w y : Int32) (hw : ¬ w = 0) : s_L_is f (w, y, 0, 0) w y = true := by
  unfold s_L_is s_X10_reason s_X6_tell
  rw [if_neg (show ¬ (0 : Int32) < 0 by decide), if_pos (show (0 : Int32) ≤ 1 by decide), if_pos (rfl : (0 : Int32) = 0), if_neg hw, if_pos (rfl : (0 : Int32) = 0), if_pos (rfl : (0 : Int32) = 0), if_pos rfl]
  rw [if_neg (show ¬ (0 : Int32) < 0 by decide), if_pos (show (0 : Int32) ≤ 1 by decide), if_pos (rfl : (0 : Int32) = 0), if_neg hw, if_pos (rfl : (0 : Int32) = 0), if_neg (show ¬ (1 : Int32) = 0 by decide), if_pos rfl]
  rfl
theorem seven_1 (f : Int32 × Int32) : s_L_isSeven f (8, 2, 0, 0) 2 0 0 = true := by
  unfold s_L_isSeven s_X10_reason
  decide
theorem zStr.narrow {A B : Nat → Prop} {a t : Nat} {L : List Int32} {U : State} {H : Heap} (h : zStr A a t L U H) (hAB : ∀ q, B q → A q) : zStr B a t L U H := ⟨h.1.narrow hAB, h.2.1.narrow hAB, h.2.2.1.narrow hAB, h.2.2.2.narrow hAB⟩
theorem seven_2 (f : Int32 × Int32) (w : Int32) : s_L_isSeven f (7, 1, 5, w) 1 5 w = true := by
  unfold s_L_isSeven s_X10_reason s_X6_tell
  rw [if_neg (show ¬ (5 : Int32) = 0 by decide)]
  simp
theorem draft_H {h : qHV} {Q : List qQV} {c : Nat} {q : qQV} (hH : HI h Q c) : ∃ h1, s_X2_draft h q = h1 ∧ HI h1 Q c ∧ s_X2_draft h1 q = h1 := ⟨_, rfl, hH.draft q, draft_id hH⟩
set_option maxHeartbeats 1600000 in
set_option maxRecDepth 20000 in
theorem c_L_refused (l : Launch) (D : va_G) (cs : qC) {N00 : Nat} {M0 : qM} {N a cn c : Nat} {f : (Int32 × Int32)} {q qt : qQV} {h : qHV} {n : qNV} {rs : qRV} {Q : List qQV} (hd : qDom N00 M0 N) (ha : a + 167 ≤ N) (oX : qLX cs M0 a f) (oQ : qLQ cs M0 (a + 1) q) (oT : qLQ cs M0 (a + 27) qt) (oH : qLH cs M0 (a + 40) h) (oI : qLI cs M0 (a + 159) qI0) (oN : qLN cs M0 (a + 164) n) (oR : qLR cs M0 (a + 166) rs) (hq : Iv q) (hc : q.1.2.2 = nI cn) (hn4 : 4 ≤ cn) (hn16 : cn ≤ 16) (hsl : (0 : Int32) < q.2.2.1.2.2.2.2) (hH : HI h Q c) :
    qMetF l (jX N00 cs) D cs yL_refused (qws yL_refused cL_refused 7 (some .boolean)) ({ frames := 24, cells := 8, slots := 194, locals := 900 } : Room) M0 N [.ref a] (RfP cs N a q Q c f M0) 8 194 := by
  refine f_head (by decide +kernel) ?_ (Nat.le_of_ble_eq_true rfl)
  intro p e s m below meth c0 ls hx hb hret hlk hml hown hnm hg hK hN hP hI hl
  have hl : lv_has ls 7 [(0, .ref a)] := hl
  have hS : qFr (rfF a N) M0 M0 := qFr.rf
  obtain ⟨w, hw, hww⟩ := iB_nat (n := 99) (weight_B hq.1 (p := 1) (by decide)) (by decide)
  have tn : s_X1_isThere q.1 (nI cn) = false := there_no hc hn16 (Nat.le_refl _) (by omega)
  have tm : s_X1_isThere q.1 (-1) = false := there_F (Or.inl (by decide))
  have t0 : s_X1_isThere q.1 0 = true := there_nI (j := 0) hc hn16 (by omega)
  have t1 : s_X1_isThere q.1 1 = true := there_nI (j := 1) hc hn16 (by omega)
  have t2 : s_X1_isThere q.1 2 = true := there_nI (j := 2) hc hn16 (by omega)
  have t3 : s_X1_isThere q.1 3 = true := there_nI (j := 3) hc hn16 (by omega)
  refine lv_aload_n hx hb dL_refused_0 rfl (lv_at hl 0 rfl) ?_
  refine q_goP (q_runS (As := [.ref a]) (rest := []) hx hb hml hown hg (c_L_asks l D cs oX oQ oT oH oI oN (nan_no hq)) v_L_asks wl_L_172 rfl rfl ⟨Nat.le_of_ble_eq_true rfl, Nat.le_of_ble_eq_true rfl⟩ hI hK hl.1 rfl rfl (Nat.le_of_ble_eq_true rfl) dL_refused_1 ⟨Nat.le_of_ble_eq_true rfl, Nat.le_of_ble_eq_true rfl⟩) hI (fun M1 H locs hp hI => ?_)
  have he1 := ask_eq f hq qt h qI0 (n := n) oN.2.2.1
  generalize s_L_asks f q qt h qI0 n = A1 at hp he1 ⊢
  obtain ⟨z0, z1, hF⟩ := hp
  rw [he1]
  replace oT := z0
  replace oN := z1
  replace oX := oX.fr hF (fun z h1 h2 hz => by omega)
  replace oQ := oQ.fr hF (fun z h1 h2 hz => by omega)
  replace oH := oH.fr hF (fun z h1 h2 hz => by omega)
  replace oI := oI.fr hF (fun z h1 h2 hz => by omega)
  replace oR := oR.fr hF (fun z h1 h2 hz => by omega)
  replace hS := hS.tr hF (fun z hz => by omega)
  refine lv_lstore_n (lv' := [(1, .long (askV q)), (0, .ref a)]) hx hb dL_refused_4 rfl hl (by decide) rfl (fun ls hl => ?_)
  refine lv_aload_n hx hb dL_refused_5 rfl (lv_at hl 1 rfl) ?_
  refine lv_iconst (v := 0) hx hb dL_refused_6 (by decide) ?_
  refine q_goR (q_runV (As := [.int 0]) (rest := []) hx hb hml hown hg (c_X10_account l D cs oX oQ oH oI 0) v_X10_account wl_L_81 rfl rfl ⟨Nat.le_of_ble_eq_true rfl, Nat.le_of_ble_eq_true rfl⟩ hI hK 10 oX rfl hl.1 rfl rfl (Nat.le_of_ble_eq_true rfl) dL_refused_7 ⟨Nat.le_of_ble_eq_true rfl, Nat.le_of_ble_eq_true rfl⟩) hI (fun H locs hI => ?_)
  rw [acc0, hc]
  refine lv_istore_n (lv' := [(3, .int (nI cn)), (1, .long (askV q)), (0, .ref a)]) hx hb dL_refused_10 rfl hl (by decide) rfl (fun ls hl => ?_)
  refine lv_aload_n hx hb dL_refused_11 rfl (lv_at hl 2 rfl) ?_
  refine lv_iconst (v := 1) hx hb dL_refused_12 (by decide) ?_
  refine lv_iconst (v := 0) hx hb dL_refused_13 (by decide) ?_
  refine q_goR (q_runV (As := [.int 1, .int 0]) (rest := []) hx hb hml hown hg (c_X10_blockOf l D cs oX oQ 1 0) v_X10_blockOf wl_L_84 rfl rfl ⟨Nat.le_of_ble_eq_true rfl, Nat.le_of_ble_eq_true rfl⟩ hI hK 10 oX rfl hl.1 rfl rfl (Nat.le_of_ble_eq_true rfl) dL_refused_14 ⟨Nat.le_of_ble_eq_true rfl, Nat.le_of_ble_eq_true rfl⟩) hI (fun H locs hI => ?_)
  rw [e_blockOf3 t1, hww]
  refine lv_istore (lv' := [(4, .int (nI w)), (3, .int (nI cn)), (1, .long (askV q)), (0, .ref a)]) hx hb dL_refused_17 hl (by decide) rfl (fun ls hl => ?_)
  refine lv_aload_n hx hb dL_refused_19 rfl (lv_at hl 3 rfl) ?_
  refine lv_iconst (v := (-1)) hx hb dL_refused_20 (by decide) ?_
  obtain ⟨h1, eh1, hH1, hd1⟩ := draft_H (q := q) hH
  refine q_goP (q_runV (As := [.int (-1)]) (rest := []) hx hb hml hown hg (c_X10_block l D cs oX oQ oH oR (-1)) v_X10_block wl_L_44 rfl rfl ⟨Nat.le_of_ble_eq_true rfl, Nat.le_of_ble_eq_true rfl⟩ hI hK 10 oX rfl hl.1 rfl rfl (Nat.le_of_ble_eq_true rfl) dL_refused_21 ⟨Nat.le_of_ble_eq_true rfl, Nat.le_of_ble_eq_true rfl⟩) hI (fun M2 H locs hp hI => ?_)
  rw [e_block (x := -1) (by decide), eh1] at hp ⊢
  obtain ⟨z0, z1, z2, hF⟩ := hp
  replace oQ : qLQ cs M2 (a + 1) q := z0
  replace oH : qLH cs M2 (a + 40) h1 := z1
  replace oR : qLR cs M2 (a + 166) rs := z2
  replace oX := oX.fr hF (fun z h1 h2 hz => by omega)
  replace oT := oT.fr hF (fun z h1 h2 hz => by omega)
  replace oI := oI.fr hF (fun z h1 h2 hz => by omega)
  replace oN := oN.fr hF (fun z h1 h2 hz => by omega)
  replace hS := hS.tr hF (fun z hz => by omega)
  refine lv_bipush (v := (-2)) hx hb dL_refused_24 (by decide) ?_
  refine lv_icmp_ne (tgt := 202) hx hb dL_refused_26 (by decide) (fun h9 => absurd rfl h9) (fun h9 => ?_)
  refine lv_aload_n hx hb dL_refused_29 rfl (lv_at hl 3 rfl) ?_
  refine lv_bipush (v := 100) hx hb dL_refused_30 (by decide) ?_
  refine q_goP (q_runV (As := [.int 100]) (rest := []) hx hb hml hown hg (c_X10_block l D cs oX oQ oH oR 100) v_X10_block wl_L_44 rfl rfl ⟨Nat.le_of_ble_eq_true rfl, Nat.le_of_ble_eq_true rfl⟩ hI hK 10 oX rfl hl.1 rfl rfl (Nat.le_of_ble_eq_true rfl) dL_refused_32 ⟨Nat.le_of_ble_eq_true rfl, Nat.le_of_ble_eq_true rfl⟩) hI (fun M3 H locs hp hI => ?_)
  rw [e_block (x := 100) (by decide), hd1] at hp ⊢
  obtain ⟨z0, z1, z2, hF⟩ := hp
  replace oQ : qLQ cs M3 (a + 1) q := z0
  replace oH : qLH cs M3 (a + 40) h1 := z1
  replace oR : qLR cs M3 (a + 166) rs := z2
  replace oX := oX.fr hF (fun z h1 h2 hz => by omega)
  replace oT := oT.fr hF (fun z h1 h2 hz => by omega)
  replace oI := oI.fr hF (fun z h1 h2 hz => by omega)
  replace oN := oN.fr hF (fun z h1 h2 hz => by omega)
  replace hS := hS.tr hF (fun z hz => by omega)
  refine lv_bipush (v := (-2)) hx hb dL_refused_35 (by decide) ?_
  refine lv_icmp_ne (tgt := 202) hx hb dL_refused_37 (by decide) (fun h9 => absurd rfl h9) (fun h9 => ?_)
  refine lv_aload_n hx hb dL_refused_40 rfl (lv_at hl 3 rfl) ?_
  refine lv_iload_n hx hb dL_refused_41 rfl (lv_at hl 1 rfl) ?_
  refine lv_iconst (v := 0) hx hb dL_refused_42 (by decide) ?_
  refine q_goP (q_runV (As := [.int (nI cn), .int 0]) (rest := []) hx hb hml hown hg (c_X10_hang l D cs oX oQ oH oR (nI cn) 0) v_X10_hang wl_L_47 rfl rfl ⟨Nat.le_of_ble_eq_true rfl, Nat.le_of_ble_eq_true rfl⟩ hI hK 10 oX rfl hl.1 rfl rfl (Nat.le_of_ble_eq_true rfl) dL_refused_43 ⟨Nat.le_of_ble_eq_true rfl, Nat.le_of_ble_eq_true rfl⟩) hI (fun M4 H locs hp hI => ?_)
  rw [e_hang1 tn, hd1] at hp ⊢
  obtain ⟨z0, z1, z2, hF⟩ := hp
  replace oQ : qLQ cs M4 (a + 1) q := z0
  replace oH : qLH cs M4 (a + 40) h1 := z1
  replace oR : qLR cs M4 (a + 166) rs := z2
  replace oX := oX.fr hF (fun z h1 h2 hz => by omega)
  replace oT := oT.fr hF (fun z h1 h2 hz => by omega)
  replace oI := oI.fr hF (fun z h1 h2 hz => by omega)
  replace oN := oN.fr hF (fun z h1 h2 hz => by omega)
  replace hS := hS.tr hF (fun z hz => by omega)
  refine lv_iconst (v := (-1)) hx hb dL_refused_46 (by decide) ?_
  refine lv_icmp_ne (tgt := 202) hx hb dL_refused_47 (by decide) (fun h9 => absurd rfl h9) (fun h9 => ?_)
  refine lv_aload_n hx hb dL_refused_50 rfl (lv_at hl 3 rfl) ?_
  refine lv_iconst (v := 0) hx hb dL_refused_51 (by decide) ?_
  refine lv_iload_n hx hb dL_refused_52 rfl (lv_at hl 1 rfl) ?_
  refine q_goP (q_runV (As := [.int 0, .int (nI cn)]) (rest := []) hx hb hml hown hg (c_X10_hang l D cs oX oQ oH oR 0 (nI cn)) v_X10_hang wl_L_47 rfl rfl ⟨Nat.le_of_ble_eq_true rfl, Nat.le_of_ble_eq_true rfl⟩ hI hK 10 oX rfl hl.1 rfl rfl (Nat.le_of_ble_eq_true rfl) dL_refused_53 ⟨Nat.le_of_ble_eq_true rfl, Nat.le_of_ble_eq_true rfl⟩) hI (fun M5 H locs hp hI => ?_)
  rw [e_hang2 t0 tn, hd1] at hp ⊢
  obtain ⟨z0, z1, z2, hF⟩ := hp
  replace oQ : qLQ cs M5 (a + 1) q := z0
  replace oH : qLH cs M5 (a + 40) h1 := z1
  replace oR : qLR cs M5 (a + 166) rs := z2
  replace oX := oX.fr hF (fun z h1 h2 hz => by omega)
  replace oT := oT.fr hF (fun z h1 h2 hz => by omega)
  replace oI := oI.fr hF (fun z h1 h2 hz => by omega)
  replace oN := oN.fr hF (fun z h1 h2 hz => by omega)
  replace hS := hS.tr hF (fun z hz => by omega)
  refine lv_iconst (v := (-1)) hx hb dL_refused_56 (by decide) ?_
  refine lv_icmp_ne (tgt := 202) hx hb dL_refused_57 (by decide) (fun h9 => absurd rfl h9) (fun h9 => ?_)
  refine lv_aload_n hx hb dL_refused_60 rfl (lv_at hl 3 rfl) ?_
  refine lv_iconst (v := (-1)) hx hb dL_refused_61 (by decide) ?_
  refine lv_iconst (v := (-1)) hx hb dL_refused_62 (by decide) ?_
  refine q_goP (q_runV (As := [.int (-1), .int (-1)]) (rest := []) hx hb hml hown hg (c_X10_hang l D cs oX oQ oH oR (-1) (-1)) v_X10_hang wl_L_47 rfl rfl ⟨Nat.le_of_ble_eq_true rfl, Nat.le_of_ble_eq_true rfl⟩ hI hK 10 oX rfl hl.1 rfl rfl (Nat.le_of_ble_eq_true rfl) dL_refused_63 ⟨Nat.le_of_ble_eq_true rfl, Nat.le_of_ble_eq_true rfl⟩) hI (fun M6 H locs hp hI => ?_)
  rw [e_hang1 tm, hd1] at hp ⊢
  obtain ⟨z0, z1, z2, hF⟩ := hp
  replace oQ : qLQ cs M6 (a + 1) q := z0
  replace oH : qLH cs M6 (a + 40) h1 := z1
  replace oR : qLR cs M6 (a + 166) rs := z2
  replace oX := oX.fr hF (fun z h1 h2 hz => by omega)
  replace oT := oT.fr hF (fun z h1 h2 hz => by omega)
  replace oI := oI.fr hF (fun z h1 h2 hz => by omega)
  replace oN := oN.fr hF (fun z h1 h2 hz => by omega)
  replace hS := hS.tr hF (fun z hz => by omega)
  refine lv_iconst (v := (-1)) hx hb dL_refused_66 (by decide) ?_
  refine lv_icmp_ne (tgt := 202) hx hb dL_refused_67 (by decide) (fun h9 => absurd rfl h9) (fun h9 => ?_)
  refine lv_aload_n hx hb dL_refused_70 rfl (lv_at hl 3 rfl) ?_
  refine lv_iload_n hx hb dL_refused_71 rfl (lv_at hl 1 rfl) ?_
  refine q_goP (q_runV (As := [.int (nI cn)]) (rest := []) hx hb hml hown hg (c_X10_cut l D cs oX oQ oH oR (nI cn)) v_X10_cut wl_L_135 rfl rfl ⟨Nat.le_of_ble_eq_true rfl, Nat.le_of_ble_eq_true rfl⟩ hI hK 10 oX rfl hl.1 rfl rfl (Nat.le_of_ble_eq_true rfl) dL_refused_72 ⟨Nat.le_of_ble_eq_true rfl, Nat.le_of_ble_eq_true rfl⟩) hI (fun M7 H locs hp hI => ?_)
  rw [e_cut1 tn, hd1] at hp ⊢
  obtain ⟨z0, z1, z2, hF⟩ := hp
  replace oQ : qLQ cs M7 (a + 1) q := z0
  replace oH : qLH cs M7 (a + 40) h1 := z1
  replace oR : qLR cs M7 (a + 166) rs := z2
  replace oX := oX.fr hF (fun z h1 h2 hz => by omega)
  replace oT := oT.fr hF (fun z h1 h2 hz => by omega)
  replace oI := oI.fr hF (fun z h1 h2 hz => by omega)
  replace oN := oN.fr hF (fun z h1 h2 hz => by omega)
  replace hS := hS.tr hF (fun z hz => by omega)
  refine lv_iconst (v := (-1)) hx hb dL_refused_75 (by decide) ?_
  refine lv_icmp_ne (tgt := 202) hx hb dL_refused_76 (by decide) (fun h9 => absurd rfl h9) (fun h9 => ?_)
  refine lv_aload_n hx hb dL_refused_79 rfl (lv_at hl 3 rfl) ?_
  refine lv_iconst (v := (-1)) hx hb dL_refused_80 (by decide) ?_
  refine q_goP (q_runV (As := [.int (-1)]) (rest := []) hx hb hml hown hg (c_X10_cut l D cs oX oQ oH oR (-1)) v_X10_cut wl_L_135 rfl rfl ⟨Nat.le_of_ble_eq_true rfl, Nat.le_of_ble_eq_true rfl⟩ hI hK 10 oX rfl hl.1 rfl rfl (Nat.le_of_ble_eq_true rfl) dL_refused_81 ⟨Nat.le_of_ble_eq_true rfl, Nat.le_of_ble_eq_true rfl⟩) hI (fun M8 H locs hp hI => ?_)
  rw [e_cut1 tm, hd1] at hp ⊢
  obtain ⟨z0, z1, z2, hF⟩ := hp
  replace oQ : qLQ cs M8 (a + 1) q := z0
  replace oH : qLH cs M8 (a + 40) h1 := z1
  replace oR : qLR cs M8 (a + 166) rs := z2
  replace oX := oX.fr hF (fun z h1 h2 hz => by omega)
  replace oT := oT.fr hF (fun z h1 h2 hz => by omega)
  replace oI := oI.fr hF (fun z h1 h2 hz => by omega)
  replace oN := oN.fr hF (fun z h1 h2 hz => by omega)
  replace hS := hS.tr hF (fun z hz => by omega)
  refine lv_iconst (v := (-1)) hx hb dL_refused_84 (by decide) ?_
  refine lv_icmp_ne (tgt := 202) hx hb dL_refused_85 (by decide) (fun h9 => absurd rfl h9) (fun h9 => ?_)
  refine lv_aload_n hx hb dL_refused_88 rfl (lv_at hl 3 rfl) ?_
  refine lv_iload_n hx hb dL_refused_89 rfl (lv_at hl 1 rfl) ?_
  refine q_goP (q_runV (As := [.int (nI cn)]) (rest := []) hx hb hml hown hg (c_X10_walk l D cs oX oQ oH (nI cn)) v_X10_walk wl_L_50 rfl rfl ⟨Nat.le_of_ble_eq_true rfl, Nat.le_of_ble_eq_true rfl⟩ hI hK 10 oX rfl hl.1 rfl rfl (Nat.le_of_ble_eq_true rfl) dL_refused_90 ⟨Nat.le_of_ble_eq_true rfl, Nat.le_of_ble_eq_true rfl⟩) hI (fun M9 H locs hp hI => ?_)
  rw [e_walk1 tn, hd1] at hp ⊢
  obtain ⟨z0, z1, hF⟩ := hp
  replace oQ : qLQ cs M9 (a + 1) q := z0
  replace oH : qLH cs M9 (a + 40) h1 := z1
  replace oX := oX.fr hF (fun z h1 h2 hz => by omega)
  replace oT := oT.fr hF (fun z h1 h2 hz => by omega)
  replace oI := oI.fr hF (fun z h1 h2 hz => by omega)
  replace oN := oN.fr hF (fun z h1 h2 hz => by omega)
  replace oR := oR.fr hF (fun z h1 h2 hz => by omega)
  replace hS := hS.tr hF (fun z hz => by omega)
  refine lv_iconst (v := (-1)) hx hb dL_refused_93 (by decide) ?_
  refine lv_icmp_ne (tgt := 202) hx hb dL_refused_94 (by decide) (fun h9 => absurd rfl h9) (fun h9 => ?_)
  refine lv_aload_n hx hb dL_refused_97 rfl (lv_at hl 3 rfl) ?_
  refine lv_iconst (v := (-1)) hx hb dL_refused_98 (by decide) ?_
  refine q_goP (q_runV (As := [.int (-1)]) (rest := []) hx hb hml hown hg (c_X10_walk l D cs oX oQ oH (-1)) v_X10_walk wl_L_50 rfl rfl ⟨Nat.le_of_ble_eq_true rfl, Nat.le_of_ble_eq_true rfl⟩ hI hK 10 oX rfl hl.1 rfl rfl (Nat.le_of_ble_eq_true rfl) dL_refused_99 ⟨Nat.le_of_ble_eq_true rfl, Nat.le_of_ble_eq_true rfl⟩) hI (fun M10 H locs hp hI => ?_)
  rw [e_walk1 tm, hd1] at hp ⊢
  obtain ⟨z0, z1, hF⟩ := hp
  replace oQ : qLQ cs M10 (a + 1) q := z0
  replace oH : qLH cs M10 (a + 40) h1 := z1
  replace oX := oX.fr hF (fun z h1 h2 hz => by omega)
  replace oT := oT.fr hF (fun z h1 h2 hz => by omega)
  replace oI := oI.fr hF (fun z h1 h2 hz => by omega)
  replace oN := oN.fr hF (fun z h1 h2 hz => by omega)
  replace oR := oR.fr hF (fun z h1 h2 hz => by omega)
  replace hS := hS.tr hF (fun z hz => by omega)
  refine lv_iconst (v := (-1)) hx hb dL_refused_102 (by decide) ?_
  refine lv_icmp_ne (tgt := 202) hx hb dL_refused_103 (by decide) (fun h9 => absurd rfl h9) (fun h9 => ?_)
  refine lv_aload_n hx hb dL_refused_106 rfl (lv_at hl 3 rfl) ?_
  refine lv_iload_n hx hb dL_refused_107 rfl (lv_at hl 1 rfl) ?_
  refine q_goP (q_runV (As := [.int (nI cn)]) (rest := []) hx hb hml hown hg (c_X10_up l D cs oX oQ oH (nI cn)) v_X10_up wl_L_138 rfl rfl ⟨Nat.le_of_ble_eq_true rfl, Nat.le_of_ble_eq_true rfl⟩ hI hK 10 oX rfl hl.1 rfl rfl (Nat.le_of_ble_eq_true rfl) dL_refused_108 ⟨Nat.le_of_ble_eq_true rfl, Nat.le_of_ble_eq_true rfl⟩) hI (fun M11 H locs hp hI => ?_)
  rw [e_up1 tn, hd1] at hp ⊢
  obtain ⟨z0, z1, hF⟩ := hp
  replace oQ : qLQ cs M11 (a + 1) q := z0
  replace oH : qLH cs M11 (a + 40) h1 := z1
  replace oX := oX.fr hF (fun z h1 h2 hz => by omega)
  replace oT := oT.fr hF (fun z h1 h2 hz => by omega)
  replace oI := oI.fr hF (fun z h1 h2 hz => by omega)
  replace oN := oN.fr hF (fun z h1 h2 hz => by omega)
  replace oR := oR.fr hF (fun z h1 h2 hz => by omega)
  replace hS := hS.tr hF (fun z hz => by omega)
  refine lv_iconst (v := (-1)) hx hb dL_refused_111 (by decide) ?_
  refine lv_icmp_ne (tgt := 202) hx hb dL_refused_112 (by decide) (fun h9 => absurd rfl h9) (fun h9 => ?_)
  refine lv_aload_n hx hb dL_refused_115 rfl (lv_at hl 3 rfl) ?_
  refine lv_iconst (v := (-1)) hx hb dL_refused_116 (by decide) ?_
  refine q_goP (q_runV (As := [.int (-1)]) (rest := []) hx hb hml hown hg (c_X10_up l D cs oX oQ oH (-1)) v_X10_up wl_L_138 rfl rfl ⟨Nat.le_of_ble_eq_true rfl, Nat.le_of_ble_eq_true rfl⟩ hI hK 10 oX rfl hl.1 rfl rfl (Nat.le_of_ble_eq_true rfl) dL_refused_117 ⟨Nat.le_of_ble_eq_true rfl, Nat.le_of_ble_eq_true rfl⟩) hI (fun M12 H locs hp hI => ?_)
  rw [e_up1 tm, hd1] at hp ⊢
  obtain ⟨z0, z1, hF⟩ := hp
  replace oQ : qLQ cs M12 (a + 1) q := z0
  replace oH : qLH cs M12 (a + 40) h1 := z1
  replace oX := oX.fr hF (fun z h1 h2 hz => by omega)
  replace oT := oT.fr hF (fun z h1 h2 hz => by omega)
  replace oI := oI.fr hF (fun z h1 h2 hz => by omega)
  replace oN := oN.fr hF (fun z h1 h2 hz => by omega)
  replace oR := oR.fr hF (fun z h1 h2 hz => by omega)
  replace hS := hS.tr hF (fun z hz => by omega)
  refine lv_iconst (v := (-1)) hx hb dL_refused_120 (by decide) ?_
  refine lv_icmp_ne (tgt := 202) hx hb dL_refused_121 (by decide) (fun h9 => absurd rfl h9) (fun h9 => ?_)
  refine lv_aload_n hx hb dL_refused_124 rfl (lv_at hl 3 rfl) ?_
  refine lv_iload_n hx hb dL_refused_125 rfl (lv_at hl 1 rfl) ?_
  refine lv_bipush (v := 100) hx hb dL_refused_126 (by decide) ?_
  refine q_goP (q_runV (As := [.int (nI cn), .int 100]) (rest := []) hx hb hml hown hg (c_X10_weigh l D cs oX oQ oH oR (nI cn) 100) v_X10_weigh wl_L_141 rfl rfl ⟨Nat.le_of_ble_eq_true rfl, Nat.le_of_ble_eq_true rfl⟩ hI hK 10 oX rfl hl.1 rfl rfl (Nat.le_of_ble_eq_true rfl) dL_refused_128 ⟨Nat.le_of_ble_eq_true rfl, Nat.le_of_ble_eq_true rfl⟩) hI (fun M13 H locs hp hI => ?_)
  rw [e_weigh1 tn, hd1] at hp ⊢
  obtain ⟨z0, z1, z2, hF⟩ := hp
  replace oQ : qLQ cs M13 (a + 1) q := z0
  replace oH : qLH cs M13 (a + 40) h1 := z1
  replace oR : qLR cs M13 (a + 166) rs := z2
  replace oX := oX.fr hF (fun z h1 h2 hz => by omega)
  replace oT := oT.fr hF (fun z h1 h2 hz => by omega)
  replace oI := oI.fr hF (fun z h1 h2 hz => by omega)
  replace oN := oN.fr hF (fun z h1 h2 hz => by omega)
  replace hS := hS.tr hF (fun z hz => by omega)
  refine lv_iconst (v := (-1)) hx hb dL_refused_131 (by decide) ?_
  refine lv_icmp_ne (tgt := 202) hx hb dL_refused_132 (by decide) (fun h9 => absurd rfl h9) (fun h9 => ?_)
  refine lv_aload_n hx hb dL_refused_135 rfl (lv_at hl 3 rfl) ?_
  refine lv_iconst (v := 0) hx hb dL_refused_136 (by decide) ?_
  refine lv_bipush (v := 100) hx hb dL_refused_137 (by decide) ?_
  refine q_goP (q_runV (As := [.int 0, .int 100]) (rest := []) hx hb hml hown hg (c_X10_weigh l D cs oX oQ oH oR 0 100) v_X10_weigh wl_L_141 rfl rfl ⟨Nat.le_of_ble_eq_true rfl, Nat.le_of_ble_eq_true rfl⟩ hI hK 10 oX rfl hl.1 rfl rfl (Nat.le_of_ble_eq_true rfl) dL_refused_139 ⟨Nat.le_of_ble_eq_true rfl, Nat.le_of_ble_eq_true rfl⟩) hI (fun M14 H locs hp hI => ?_)
  rw [e_weigh2 (y := 100) t0 (by decide), hd1] at hp ⊢
  obtain ⟨z0, z1, z2, hF⟩ := hp
  replace oQ : qLQ cs M14 (a + 1) q := z0
  replace oH : qLH cs M14 (a + 40) h1 := z1
  replace oR : qLR cs M14 (a + 166) rs := z2
  replace oX := oX.fr hF (fun z h1 h2 hz => by omega)
  replace oT := oT.fr hF (fun z h1 h2 hz => by omega)
  replace oI := oI.fr hF (fun z h1 h2 hz => by omega)
  replace oN := oN.fr hF (fun z h1 h2 hz => by omega)
  replace hS := hS.tr hF (fun z hz => by omega)
  refine lv_bipush (v := (-2)) hx hb dL_refused_142 (by decide) ?_
  refine lv_icmp_ne (tgt := 202) hx hb dL_refused_144 (by decide) (fun h9 => absurd rfl h9) (fun h9 => ?_)
  refine lv_aload_n hx hb dL_refused_147 rfl (lv_at hl 3 rfl) ?_
  refine lv_iconst (v := 0) hx hb dL_refused_148 (by decide) ?_
  refine lv_iconst (v := (-1)) hx hb dL_refused_149 (by decide) ?_
  refine q_goP (q_runV (As := [.int 0, .int (-1)]) (rest := []) hx hb hml hown hg (c_X10_weigh l D cs oX oQ oH oR 0 (-1)) v_X10_weigh wl_L_141 rfl rfl ⟨Nat.le_of_ble_eq_true rfl, Nat.le_of_ble_eq_true rfl⟩ hI hK 10 oX rfl hl.1 rfl rfl (Nat.le_of_ble_eq_true rfl) dL_refused_150 ⟨Nat.le_of_ble_eq_true rfl, Nat.le_of_ble_eq_true rfl⟩) hI (fun M15 H locs hp hI => ?_)
  rw [e_weigh2 (y := -1) t0 (by decide), hd1] at hp ⊢
  obtain ⟨z0, z1, z2, hF⟩ := hp
  replace oQ : qLQ cs M15 (a + 1) q := z0
  replace oH : qLH cs M15 (a + 40) h1 := z1
  replace oR : qLR cs M15 (a + 166) rs := z2
  replace oX := oX.fr hF (fun z h1 h2 hz => by omega)
  replace oT := oT.fr hF (fun z h1 h2 hz => by omega)
  replace oI := oI.fr hF (fun z h1 h2 hz => by omega)
  replace oN := oN.fr hF (fun z h1 h2 hz => by omega)
  replace hS := hS.tr hF (fun z hz => by omega)
  refine lv_bipush (v := (-2)) hx hb dL_refused_153 (by decide) ?_
  refine lv_icmp_ne (tgt := 202) hx hb dL_refused_155 (by decide) (fun h9 => absurd rfl h9) (fun h9 => ?_)
  refine lv_aload_n hx hb dL_refused_158 rfl (lv_at hl 3 rfl) ?_
  refine lv_iconst (v := 1) hx hb dL_refused_159 (by decide) ?_
  refine lv_iload hx hb dL_refused_160 (lv_at hl 0 rfl) ?_
  refine q_goP (q_runV (As := [.int 1, .int (nI w)]) (rest := []) hx hb hml hown hg (c_X10_weigh l D cs oX oQ oH oR 1 (nI w)) v_X10_weigh wl_L_141 rfl rfl ⟨Nat.le_of_ble_eq_true rfl, Nat.le_of_ble_eq_true rfl⟩ hI hK 10 oX rfl hl.1 rfl rfl (Nat.le_of_ble_eq_true rfl) dL_refused_162 ⟨Nat.le_of_ble_eq_true rfl, Nat.le_of_ble_eq_true rfl⟩) hI (fun M16 H locs hp hI => ?_)
  rw [e_weigh3 t1 (isW_T hw) hww, hd1] at hp ⊢
  obtain ⟨z0, z1, z2, hF⟩ := hp
  replace oQ : qLQ cs M16 (a + 1) q := z0
  replace oH : qLH cs M16 (a + 40) h1 := z1
  replace oR : qLR cs M16 (a + 166) (5, nI w, 0, 0) := z2
  replace oX := oX.fr hF (fun z h1 h2 hz => by omega)
  replace oT := oT.fr hF (fun z h1 h2 hz => by omega)
  replace oI := oI.fr hF (fun z h1 h2 hz => by omega)
  replace oN := oN.fr hF (fun z h1 h2 hz => by omega)
  replace hS := hS.tr hF (fun z hz => by omega)
  refine lv_bipush (v := (-3)) hx hb dL_refused_165 (by decide) ?_
  refine lv_icmp_ne (tgt := 202) hx hb dL_refused_167 (by decide) (fun h9 => absurd rfl h9) (fun h9 => ?_)
  refine lv_aload_n hx hb dL_refused_170 rfl (lv_at hl 3 rfl) ?_
  refine lv_iconst (v := 5) hx hb dL_refused_171 (by decide) ?_
  refine lv_iload hx hb dL_refused_172 (lv_at hl 0 rfl) ?_
  refine q_goR (q_runS (As := [.ref a, .int 5, .int (nI w)]) (rest := []) hx hb hml hown hg (c_L_is l D cs oX oR 5 (nI w)) v_L_is wl_L_176 rfl rfl ⟨Nat.le_of_ble_eq_true rfl, Nat.le_of_ble_eq_true rfl⟩ hI hK hl.1 rfl rfl (Nat.le_of_ble_eq_true rfl) dL_refused_174 ⟨Nat.le_of_ble_eq_true rfl, Nat.le_of_ble_eq_true rfl⟩) hI (fun H locs hI => ?_)
  rw [is_T f 5 (nI w) (by decide)]
  refine lv_if_eq (tgt := 202) hx hb dL_refused_177 (by decide) (fun h9 => absurd h9 qb1) (fun h9 => ?_)
  refine lv_aload_n hx hb dL_refused_180 rfl (lv_at hl 3 rfl) ?_
  refine lv_iload_n hx hb dL_refused_181 rfl (lv_at hl 1 rfl) ?_
  refine q_goP (q_runV (As := [.int (nI cn)]) (rest := []) hx hb hml hown hg (c_X10_sledge l D cs oX oQ oH oR (nI cn)) v_X10_sledge wl_L_53 rfl rfl ⟨Nat.le_of_ble_eq_true rfl, Nat.le_of_ble_eq_true rfl⟩ hI hK 10 oX rfl hl.1 rfl rfl (Nat.le_of_ble_eq_true rfl) dL_refused_182 ⟨Nat.le_of_ble_eq_true rfl, Nat.le_of_ble_eq_true rfl⟩) hI (fun M17 H locs hp hI => ?_)
  rw [e_sledge1 tn, hd1] at hp ⊢
  obtain ⟨z0, z1, z2, hF⟩ := hp
  replace oQ : qLQ cs M17 (a + 1) q := z0
  replace oH : qLH cs M17 (a + 40) h1 := z1
  replace oR : qLR cs M17 (a + 166) (5, nI w, 0, 0) := z2
  replace oX := oX.fr hF (fun z h1 h2 hz => by omega)
  replace oT := oT.fr hF (fun z h1 h2 hz => by omega)
  replace oI := oI.fr hF (fun z h1 h2 hz => by omega)
  replace oN := oN.fr hF (fun z h1 h2 hz => by omega)
  replace hS := hS.tr hF (fun z hz => by omega)
  refine lv_iconst (v := (-1)) hx hb dL_refused_185 (by decide) ?_
  refine lv_icmp_ne (tgt := 202) hx hb dL_refused_186 (by decide) (fun h9 => absurd rfl h9) (fun h9 => ?_)
  refine lv_aload_n hx hb dL_refused_189 rfl (lv_at hl 3 rfl) ?_
  refine lv_iconst (v := (-1)) hx hb dL_refused_190 (by decide) ?_
  refine q_goP (q_runV (As := [.int (-1)]) (rest := []) hx hb hml hown hg (c_X10_sledge l D cs oX oQ oH oR (-1)) v_X10_sledge wl_L_53 rfl rfl ⟨Nat.le_of_ble_eq_true rfl, Nat.le_of_ble_eq_true rfl⟩ hI hK 10 oX rfl hl.1 rfl rfl (Nat.le_of_ble_eq_true rfl) dL_refused_191 ⟨Nat.le_of_ble_eq_true rfl, Nat.le_of_ble_eq_true rfl⟩) hI (fun M18 H locs hp hI => ?_)
  rw [e_sledge1 tm, hd1] at hp ⊢
  obtain ⟨z0, z1, z2, hF⟩ := hp
  replace oQ : qLQ cs M18 (a + 1) q := z0
  replace oH : qLH cs M18 (a + 40) h1 := z1
  replace oR : qLR cs M18 (a + 166) (5, nI w, 0, 0) := z2
  replace oX := oX.fr hF (fun z h1 h2 hz => by omega)
  replace oT := oT.fr hF (fun z h1 h2 hz => by omega)
  replace oI := oI.fr hF (fun z h1 h2 hz => by omega)
  replace oN := oN.fr hF (fun z h1 h2 hz => by omega)
  replace hS := hS.tr hF (fun z hz => by omega)
  refine lv_iconst (v := (-1)) hx hb dL_refused_194 (by decide) ?_
  refine lv_icmp_ne (tgt := 202) hx hb dL_refused_195 (by decide) (fun h9 => absurd rfl h9) (fun h9 => ?_)
  refine lv_iconst (v := 1) hx hb dL_refused_198 (by decide) ?_
  refine lv_goto (tgt := 203) hx hb dL_refused_199 (by decide) ?_
  refine lv_istore (lv' := [(5, .int 1), (4, .int (nI w)), (3, .int (nI cn)), (1, .long (askV q)), (0, .ref a)]) hx hb dL_refused_203 hl (by decide) rfl (fun ls hl => ?_)
  refine lv_aload_n hx hb dL_refused_205 rfl (lv_at hl 4 rfl) ?_
  refine lv_iconst (v := 2) hx hb dL_refused_206 (by decide) ?_
  refine lv_iconst (v := 1) hx hb dL_refused_207 (by decide) ?_
  refine q_goR (q_runV (As := [.int 2, .int 1]) (rest := []) hx hb hml hown hg (c_X10_blockOf l D cs oX oQ 2 1) v_X10_blockOf wl_L_84 rfl rfl ⟨Nat.le_of_ble_eq_true rfl, Nat.le_of_ble_eq_true rfl⟩ hI hK 10 oX rfl hl.1 rfl rfl (Nat.le_of_ble_eq_true rfl) dL_refused_208 ⟨Nat.le_of_ble_eq_true rfl, Nat.le_of_ble_eq_true rfl⟩) hI (fun H locs hI => ?_)
  rw [e_blockOf4 t2]
  refine lv_istore (lv' := [(6, .int (s_X10_orNothing (s_X1_holderOf q.1 2))), (5, .int 1), (4, .int (nI w)), (3, .int (nI cn)), (1, .long (askV q)), (0, .ref a)]) hx hb dL_refused_211 hl (by decide) rfl (fun ls hl => ?_)
  refine lv_iload hx hb dL_refused_213 (lv_at hl 1 rfl) ?_
  refine lv_if_eq (tgt := 290) hx hb dL_refused_215 (by decide) (fun h9 => absurd h9 (by decide)) (fun h9 => ?_)
  have tail : ∀ (hz : Int32) (rs1 : qRV) (qt1 : qQV) (n1 : qNV) (M : qM) (H : Heap) (locs : List Loc) (ls : Array Slot), qLX cs M a f → qLQ cs M (a + 1) q → qLQ cs M (a + 27) qt1 → qLH cs M (a + 40) h1 → qLI cs M (a + 159) qI0 → qLN cs M (a + 164) n1 → qLR cs M (a + 166) rs1 → qFr (rfF a N) M0 M → qI D M0 s.heap M N H locs → lv_has ls 7 [(6, .int hz), (5, .int 1), (4, .int (nI w)), (3, .int (nI cn)), (1, .long (askV q)), (0, .ref a)] → W p l e ({ frames := 24, cells := 8, slots := 194, locals := 900 } : Room) s m [Value.ref a].toArray below meth c0 H locs 0 0 (MQ below (qQ D M0 N (RfP cs N a q Q c f M0)) [Value.ref a].toArray s 8 194 (qA M0 N)) (F0 m 286 ls []) := by
    intro hz rs1 qt1 n1 M H locs ls oX oQ oT oH oI oN oR hS hI hl
    refine lv_iconst (v := 1) hx hb dL_refused_286 (by decide) ?_
    refine lv_goto (tgt := 291) hx hb dL_refused_287 (by decide) ?_
    refine lv_istore (lv' := [(5, .int 1), (6, .int hz), (4, .int (nI w)), (3, .int (nI cn)), (1, .long (askV q)), (0, .ref a)]) hx hb dL_refused_291 hl (by decide) rfl (fun ls hl => ?_)
    refine lv_iload hx hb dL_refused_293 (lv_at hl 0 rfl) ?_
    refine lv_if_eq (tgt := 658) hx hb dL_refused_295 (by decide) (fun h9 => absurd h9 (by decide)) (fun h9 => ?_)
    refine lv_aload_n hx hb dL_refused_298 rfl (lv_at hl 5 rfl) ?_
    refine lv_iload_n hx hb dL_refused_299 rfl (lv_at hl 3 rfl) ?_
    refine lv_bipush (v := 9) hx hb dL_refused_300 (by decide) ?_
    refine q_goR (q_runV (As := [.int (nI cn), .int 9]) (rest := []) hx hb hml hown hg (c_X10_blockOf l D cs oX oQ (nI cn) 9) v_X10_blockOf wl_L_84 rfl rfl ⟨Nat.le_of_ble_eq_true rfl, Nat.le_of_ble_eq_true rfl⟩ hI hK 10 oX rfl hl.1 rfl rfl (Nat.le_of_ble_eq_true rfl) dL_refused_302 ⟨Nat.le_of_ble_eq_true rfl, Nat.le_of_ble_eq_true rfl⟩) hI (fun H locs hI => ?_)
    rw [e_blockOf1 tn]
    refine lv_iconst (v := (-1)) hx hb dL_refused_305 (by decide) ?_
    refine lv_icmp_ne (tgt := 658) hx hb dL_refused_306 (by decide) (fun h9 => absurd rfl h9) (fun h9 => ?_)
    refine lv_aload_n hx hb dL_refused_309 rfl (lv_at hl 5 rfl) ?_
    refine lv_iconst (v := 0) hx hb dL_refused_310 (by decide) ?_
    refine lv_bipush (v := 7) hx hb dL_refused_311 (by decide) ?_
    refine q_goR (q_runV (As := [.int 0, .int 7]) (rest := []) hx hb hml hown hg (c_X10_blockOf l D cs oX oQ 0 7) v_X10_blockOf wl_L_84 rfl rfl ⟨Nat.le_of_ble_eq_true rfl, Nat.le_of_ble_eq_true rfl⟩ hI hK 10 oX rfl hl.1 rfl rfl (Nat.le_of_ble_eq_true rfl) dL_refused_313 ⟨Nat.le_of_ble_eq_true rfl, Nat.le_of_ble_eq_true rfl⟩) hI (fun H locs hI => ?_)
    rw [e_blockOf2 t0 (Or.inl rfl)]
    refine lv_bipush (v := (-2)) hx hb dL_refused_316 (by decide) ?_
    refine lv_icmp_ne (tgt := 658) hx hb dL_refused_318 (by decide) (fun h9 => absurd rfl h9) (fun h9 => ?_)
    refine lv_aload_n hx hb dL_refused_321 rfl (lv_at hl 5 rfl) ?_
    refine lv_iconst (v := 0) hx hb dL_refused_322 (by decide) ?_
    refine lv_iconst (v := (-1)) hx hb dL_refused_323 (by decide) ?_
    refine q_goR (q_runV (As := [.int 0, .int (-1)]) (rest := []) hx hb hml hown hg (c_X10_blockOf l D cs oX oQ 0 (-1)) v_X10_blockOf wl_L_84 rfl rfl ⟨Nat.le_of_ble_eq_true rfl, Nat.le_of_ble_eq_true rfl⟩ hI hK 10 oX rfl hl.1 rfl rfl (Nat.le_of_ble_eq_true rfl) dL_refused_324 ⟨Nat.le_of_ble_eq_true rfl, Nat.le_of_ble_eq_true rfl⟩) hI (fun H locs hI => ?_)
    rw [e_blockOf2 t0 (Or.inr rfl)]
    refine lv_bipush (v := (-2)) hx hb dL_refused_327 (by decide) ?_
    refine lv_icmp_ne (tgt := 658) hx hb dL_refused_329 (by decide) (fun h9 => absurd rfl h9) (fun h9 => ?_)
    refine lv_aload_n hx hb dL_refused_332 rfl (lv_at hl 5 rfl) ?_
    refine lv_iload_n hx hb dL_refused_333 rfl (lv_at hl 3 rfl) ?_
    refine lv_bipush (v := 9) hx hb dL_refused_334 (by decide) ?_
    refine q_goR (q_runV (As := [.int (nI cn), .int 9]) (rest := []) hx hb hml hown hg (c_X10_treeOf l D cs oX oQ (nI cn) 9) v_X10_treeOf wl_L_87 rfl rfl ⟨Nat.le_of_ble_eq_true rfl, Nat.le_of_ble_eq_true rfl⟩ hI hK 10 oX rfl hl.1 rfl rfl (Nat.le_of_ble_eq_true rfl) dL_refused_336 ⟨Nat.le_of_ble_eq_true rfl, Nat.le_of_ble_eq_true rfl⟩) hI (fun H locs hI => ?_)
    rw [e_treeOf1 tn]
    refine lv_iconst (v := (-1)) hx hb dL_refused_339 (by decide) ?_
    refine lv_icmp_ne (tgt := 658) hx hb dL_refused_340 (by decide) (fun h9 => absurd rfl h9) (fun h9 => ?_)
    refine lv_aload_n hx hb dL_refused_343 rfl (lv_at hl 5 rfl) ?_
    refine lv_iconst (v := 0) hx hb dL_refused_344 (by decide) ?_
    refine lv_bipush (v := 7) hx hb dL_refused_345 (by decide) ?_
    refine q_goR (q_runV (As := [.int 0, .int 7]) (rest := []) hx hb hml hown hg (c_X10_treeOf l D cs oX oQ 0 7) v_X10_treeOf wl_L_87 rfl rfl ⟨Nat.le_of_ble_eq_true rfl, Nat.le_of_ble_eq_true rfl⟩ hI hK 10 oX rfl hl.1 rfl rfl (Nat.le_of_ble_eq_true rfl) dL_refused_347 ⟨Nat.le_of_ble_eq_true rfl, Nat.le_of_ble_eq_true rfl⟩) hI (fun H locs hI => ?_)
    rw [e_treeOf2 t0 (Or.inl rfl)]
    refine lv_bipush (v := (-2)) hx hb dL_refused_350 (by decide) ?_
    refine lv_icmp_ne (tgt := 658) hx hb dL_refused_352 (by decide) (fun h9 => absurd rfl h9) (fun h9 => ?_)
    refine lv_aload_n hx hb dL_refused_355 rfl (lv_at hl 5 rfl) ?_
    refine lv_iconst (v := 0) hx hb dL_refused_356 (by decide) ?_
    refine lv_iconst (v := (-1)) hx hb dL_refused_357 (by decide) ?_
    refine q_goR (q_runV (As := [.int 0, .int (-1)]) (rest := []) hx hb hml hown hg (c_X10_treeOf l D cs oX oQ 0 (-1)) v_X10_treeOf wl_L_87 rfl rfl ⟨Nat.le_of_ble_eq_true rfl, Nat.le_of_ble_eq_true rfl⟩ hI hK 10 oX rfl hl.1 rfl rfl (Nat.le_of_ble_eq_true rfl) dL_refused_358 ⟨Nat.le_of_ble_eq_true rfl, Nat.le_of_ble_eq_true rfl⟩) hI (fun H locs hI => ?_)
    rw [e_treeOf2 t0 (Or.inr rfl)]
    refine lv_bipush (v := (-2)) hx hb dL_refused_361 (by decide) ?_
    refine lv_icmp_ne (tgt := 658) hx hb dL_refused_363 (by decide) (fun h9 => absurd rfl h9) (fun h9 => ?_)
    refine lv_aload_n hx hb dL_refused_366 rfl (lv_at hl 5 rfl) ?_
    refine lv_iload_n hx hb dL_refused_367 rfl (lv_at hl 3 rfl) ?_
    refine lv_iconst (v := 0) hx hb dL_refused_368 (by decide) ?_
    refine q_goR (q_runV (As := [.int (nI cn), .int 0]) (rest := []) hx hb hml hown hg (c_X10_ropeOf l D cs oX oQ (nI cn) 0) v_X10_ropeOf wl_L_105 rfl rfl ⟨Nat.le_of_ble_eq_true rfl, Nat.le_of_ble_eq_true rfl⟩ hI hK 10 oX rfl hl.1 rfl rfl (Nat.le_of_ble_eq_true rfl) dL_refused_369 ⟨Nat.le_of_ble_eq_true rfl, Nat.le_of_ble_eq_true rfl⟩) hI (fun H locs hI => ?_)
    rw [e_ropeOf1 tn]
    refine lv_iconst (v := (-1)) hx hb dL_refused_372 (by decide) ?_
    refine lv_icmp_ne (tgt := 658) hx hb dL_refused_373 (by decide) (fun h9 => absurd rfl h9) (fun h9 => ?_)
    refine lv_aload_n hx hb dL_refused_376 rfl (lv_at hl 5 rfl) ?_
    refine lv_iconst (v := 0) hx hb dL_refused_377 (by decide) ?_
    refine lv_iconst (v := (-1)) hx hb dL_refused_378 (by decide) ?_
    refine q_goR (q_runV (As := [.int 0, .int (-1)]) (rest := []) hx hb hml hown hg (c_X10_ropeOf l D cs oX oQ 0 (-1)) v_X10_ropeOf wl_L_105 rfl rfl ⟨Nat.le_of_ble_eq_true rfl, Nat.le_of_ble_eq_true rfl⟩ hI hK 10 oX rfl hl.1 rfl rfl (Nat.le_of_ble_eq_true rfl) dL_refused_379 ⟨Nat.le_of_ble_eq_true rfl, Nat.le_of_ble_eq_true rfl⟩) hI (fun H locs hI => ?_)
    rw [e_ropeOf2 t0 (Or.inr rfl)]
    refine lv_iconst (v := (-1)) hx hb dL_refused_382 (by decide) ?_
    refine lv_icmp_ne (tgt := 658) hx hb dL_refused_383 (by decide) (fun h9 => absurd rfl h9) (fun h9 => ?_)
    refine lv_aload_n hx hb dL_refused_386 rfl (lv_at hl 5 rfl) ?_
    refine lv_iconst (v := 0) hx hb dL_refused_387 (by decide) ?_
    refine lv_bipush (v := 16) hx hb dL_refused_388 (by decide) ?_
    refine q_goR (q_runV (As := [.int 0, .int 16]) (rest := []) hx hb hml hown hg (c_X10_ropeOf l D cs oX oQ 0 16) v_X10_ropeOf wl_L_105 rfl rfl ⟨Nat.le_of_ble_eq_true rfl, Nat.le_of_ble_eq_true rfl⟩ hI hK 10 oX rfl hl.1 rfl rfl (Nat.le_of_ble_eq_true rfl) dL_refused_390 ⟨Nat.le_of_ble_eq_true rfl, Nat.le_of_ble_eq_true rfl⟩) hI (fun H locs hI => ?_)
    rw [e_ropeOf2 t0 (Or.inl rfl)]
    refine lv_iconst (v := (-1)) hx hb dL_refused_393 (by decide) ?_
    refine lv_icmp_ne (tgt := 658) hx hb dL_refused_394 (by decide) (fun h9 => absurd rfl h9) (fun h9 => ?_)
    refine lv_aload_n hx hb dL_refused_397 rfl (lv_at hl 5 rfl) ?_
    refine lv_iload_n hx hb dL_refused_398 rfl (lv_at hl 3 rfl) ?_
    refine q_goR (q_runV (As := [.int (nI cn)]) (rest := []) hx hb hml hown hg (c_X10_placeOf l D cs oX oQ (nI cn)) v_X10_placeOf wl_L_90 rfl rfl ⟨Nat.le_of_ble_eq_true rfl, Nat.le_of_ble_eq_true rfl⟩ hI hK 10 oX rfl hl.1 rfl rfl (Nat.le_of_ble_eq_true rfl) dL_refused_399 ⟨Nat.le_of_ble_eq_true rfl, Nat.le_of_ble_eq_true rfl⟩) hI (fun H locs hI => ?_)
    rw [e_placeOf tn]
    refine lv_iconst (v := (-1)) hx hb dL_refused_402 (by decide) ?_
    refine lv_icmp_ne (tgt := 658) hx hb dL_refused_403 (by decide) (fun h9 => absurd rfl h9) (fun h9 => ?_)
    refine lv_aload_n hx hb dL_refused_406 rfl (lv_at hl 5 rfl) ?_
    refine lv_iconst (v := (-1)) hx hb dL_refused_407 (by decide) ?_
    refine q_goR (q_runV (As := [.int (-1)]) (rest := []) hx hb hml hown hg (c_X10_ropesAbove l D cs oX oQ (-1)) v_X10_ropesAbove wl_L_93 rfl rfl ⟨Nat.le_of_ble_eq_true rfl, Nat.le_of_ble_eq_true rfl⟩ hI hK 10 oX rfl hl.1 rfl rfl (Nat.le_of_ble_eq_true rfl) dL_refused_408 ⟨Nat.le_of_ble_eq_true rfl, Nat.le_of_ble_eq_true rfl⟩) hI (fun H locs hI => ?_)
    rw [e_ropesAbove tm]
    refine lv_iconst (v := (-1)) hx hb dL_refused_411 (by decide) ?_
    refine lv_icmp_ne (tgt := 658) hx hb dL_refused_412 (by decide) (fun h9 => absurd rfl h9) (fun h9 => ?_)
    refine lv_aload_n hx hb dL_refused_415 rfl (lv_at hl 5 rfl) ?_
    refine lv_iload_n hx hb dL_refused_416 rfl (lv_at hl 3 rfl) ?_
    refine q_goP (q_runV (As := [.int (nI cn)]) (rest := []) hx hb hml hown hg (c_X10_turnsFor l D cs oX oQ oT (nI cn)) v_X10_turnsFor wl_L_96 rfl rfl ⟨Nat.le_of_ble_eq_true rfl, Nat.le_of_ble_eq_true rfl⟩ hI hK 10 oX rfl hl.1 rfl rfl (Nat.le_of_ble_eq_true rfl) dL_refused_417 ⟨Nat.le_of_ble_eq_true rfl, Nat.le_of_ble_eq_true rfl⟩) hI (fun M101 H locs hp hI => ?_)
    rw [e_turnsFor tn] at hp ⊢
    obtain ⟨z0, hF⟩ := hp
    replace oT : qLQ cs M101 (a + 27) qt1 := z0
    replace oX := oX.fr hF (fun z h1 h2 hz => by omega)
    replace oQ := oQ.fr hF (fun z h1 h2 hz => by omega)
    replace oH := oH.fr hF (fun z h1 h2 hz => by omega)
    replace oI := oI.fr hF (fun z h1 h2 hz => by omega)
    replace oN := oN.fr hF (fun z h1 h2 hz => by omega)
    replace oR := oR.fr hF (fun z h1 h2 hz => by omega)
    replace hS := hS.tr hF (fun z hz => by omega)
    refine lv_iconst (v := (-1)) hx hb dL_refused_420 (by decide) ?_
    refine lv_icmp_ne (tgt := 658) hx hb dL_refused_421 (by decide) (fun h9 => absurd rfl h9) (fun h9 => ?_)
    refine lv_aload_n hx hb dL_refused_424 rfl (lv_at hl 5 rfl) ?_
    refine lv_iload_n hx hb dL_refused_425 rfl (lv_at hl 3 rfl) ?_
    refine q_goR (q_runV (As := [.int (nI cn)]) (rest := []) hx hb hml hown hg (c_X10_sum l D cs oX oQ (nI cn)) v_X10_sum wl_L_99 rfl rfl ⟨Nat.le_of_ble_eq_true rfl, Nat.le_of_ble_eq_true rfl⟩ hI hK 10 oX rfl hl.1 rfl rfl (Nat.le_of_ble_eq_true rfl) dL_refused_426 ⟨Nat.le_of_ble_eq_true rfl, Nat.le_of_ble_eq_true rfl⟩) hI (fun H locs hI => ?_)
    rw [e_sum tn]
    refine lv_iconst (v := (-1)) hx hb dL_refused_429 (by decide) ?_
    refine lv_icmp_ne (tgt := 658) hx hb dL_refused_430 (by decide) (fun h9 => absurd rfl h9) (fun h9 => ?_)
    refine lv_aload_n hx hb dL_refused_433 rfl (lv_at hl 5 rfl) ?_
    refine lv_iconst (v := (-1)) hx hb dL_refused_434 (by decide) ?_
    refine q_goR (q_runV (As := [.int (-1)]) (rest := []) hx hb hml hown hg (c_X10_sumAgain l D cs oX oQ (-1)) v_X10_sumAgain wl_L_102 rfl rfl ⟨Nat.le_of_ble_eq_true rfl, Nat.le_of_ble_eq_true rfl⟩ hI hK 10 oX rfl hl.1 rfl rfl (Nat.le_of_ble_eq_true rfl) dL_refused_435 ⟨Nat.le_of_ble_eq_true rfl, Nat.le_of_ble_eq_true rfl⟩) hI (fun H locs hI => ?_)
    rw [e_sumAgain tm]
    refine lv_iconst (v := (-1)) hx hb dL_refused_438 (by decide) ?_
    refine lv_icmp_ne (tgt := 658) hx hb dL_refused_439 (by decide) (fun h9 => absurd rfl h9) (fun h9 => ?_)
    refine lv_aload_n hx hb dL_refused_442 rfl (lv_at hl 5 rfl) ?_
    refine lv_iload_n hx hb dL_refused_443 rfl (lv_at hl 3 rfl) ?_
    refine q_goR (q_runV (As := [.int (nI cn)]) (rest := []) hx hb hml hown hg (c_X10_root l D cs oX oQ (nI cn)) v_X10_root wl_L_108 rfl rfl ⟨Nat.le_of_ble_eq_true rfl, Nat.le_of_ble_eq_true rfl⟩ hI hK 10 oX rfl hl.1 rfl rfl (Nat.le_of_ble_eq_true rfl) dL_refused_444 ⟨Nat.le_of_ble_eq_true rfl, Nat.le_of_ble_eq_true rfl⟩) hI (fun H locs hI => ?_)
    rw [e_root tn]
    refine lv_iconst (v := (-1)) hx hb dL_refused_447 (by decide) ?_
    refine lv_icmp_ne (tgt := 658) hx hb dL_refused_448 (by decide) (fun h9 => absurd rfl h9) (fun h9 => ?_)
    refine lv_aload_n hx hb dL_refused_451 rfl (lv_at hl 5 rfl) ?_
    refine lv_iload_n hx hb dL_refused_452 rfl (lv_at hl 3 rfl) ?_
    refine q_goR (q_runV (As := [.int (nI cn)]) (rest := []) hx hb hml hown hg (c_X10_rootAgain l D cs oX oQ (nI cn)) v_X10_rootAgain wl_L_111 rfl rfl ⟨Nat.le_of_ble_eq_true rfl, Nat.le_of_ble_eq_true rfl⟩ hI hK 10 oX rfl hl.1 rfl rfl (Nat.le_of_ble_eq_true rfl) dL_refused_453 ⟨Nat.le_of_ble_eq_true rfl, Nat.le_of_ble_eq_true rfl⟩) hI (fun H locs hI => ?_)
    rw [e_rootAgain tn]
    refine lv_iconst (v := (-1)) hx hb dL_refused_456 (by decide) ?_
    refine lv_icmp_ne (tgt := 658) hx hb dL_refused_457 (by decide) (fun h9 => absurd rfl h9) (fun h9 => ?_)
    refine lv_aload_n hx hb dL_refused_460 rfl (lv_at hl 5 rfl) ?_
    refine lv_iload_n hx hb dL_refused_461 rfl (lv_at hl 3 rfl) ?_
    refine lv_iconst (v := 0) hx hb dL_refused_462 (by decide) ?_
    refine q_goR (q_runV (As := [.int (nI cn), .int 0]) (rest := []) hx hb hml hown hg (c_X10_joint l D cs oX oQ (nI cn) 0) v_X10_joint wl_L_114 rfl rfl ⟨Nat.le_of_ble_eq_true rfl, Nat.le_of_ble_eq_true rfl⟩ hI hK 10 oX rfl hl.1 rfl rfl (Nat.le_of_ble_eq_true rfl) dL_refused_463 ⟨Nat.le_of_ble_eq_true rfl, Nat.le_of_ble_eq_true rfl⟩) hI (fun H locs hI => ?_)
    rw [e_joint1 tn]
    refine lv_iconst (v := (-1)) hx hb dL_refused_466 (by decide) ?_
    refine lv_icmp_ne (tgt := 658) hx hb dL_refused_467 (by decide) (fun h9 => absurd rfl h9) (fun h9 => ?_)
    refine lv_aload_n hx hb dL_refused_470 rfl (lv_at hl 5 rfl) ?_
    refine lv_iconst (v := 0) hx hb dL_refused_471 (by decide) ?_
    refine lv_iconst (v := (-1)) hx hb dL_refused_472 (by decide) ?_
    refine q_goR (q_runV (As := [.int 0, .int (-1)]) (rest := []) hx hb hml hown hg (c_X10_joint l D cs oX oQ 0 (-1)) v_X10_joint wl_L_114 rfl rfl ⟨Nat.le_of_ble_eq_true rfl, Nat.le_of_ble_eq_true rfl⟩ hI hK 10 oX rfl hl.1 rfl rfl (Nat.le_of_ble_eq_true rfl) dL_refused_473 ⟨Nat.le_of_ble_eq_true rfl, Nat.le_of_ble_eq_true rfl⟩) hI (fun H locs hI => ?_)
    rw [e_joint2 t0 tm]
    refine lv_iconst (v := (-1)) hx hb dL_refused_476 (by decide) ?_
    refine lv_icmp_ne (tgt := 658) hx hb dL_refused_477 (by decide) (fun h9 => absurd rfl h9) (fun h9 => ?_)
    refine lv_aload_n hx hb dL_refused_480 rfl (lv_at hl 5 rfl) ?_
    refine lv_iconst (v := 0) hx hb dL_refused_481 (by decide) ?_
    refine lv_iload_n hx hb dL_refused_482 rfl (lv_at hl 3 rfl) ?_
    refine q_goR (q_runV (As := [.int 0, .int (nI cn)]) (rest := []) hx hb hml hown hg (c_X10_jointAgain l D cs oX oQ 0 (nI cn)) v_X10_jointAgain wl_L_117 rfl rfl ⟨Nat.le_of_ble_eq_true rfl, Nat.le_of_ble_eq_true rfl⟩ hI hK 10 oX rfl hl.1 rfl rfl (Nat.le_of_ble_eq_true rfl) dL_refused_483 ⟨Nat.le_of_ble_eq_true rfl, Nat.le_of_ble_eq_true rfl⟩) hI (fun H locs hI => ?_)
    rw [e_jointAgain2 t0 tn]
    refine lv_iconst (v := (-1)) hx hb dL_refused_486 (by decide) ?_
    refine lv_icmp_ne (tgt := 658) hx hb dL_refused_487 (by decide) (fun h9 => absurd rfl h9) (fun h9 => ?_)
    refine lv_aload_n hx hb dL_refused_490 rfl (lv_at hl 5 rfl) ?_
    refine lv_iconst (v := 3) hx hb dL_refused_491 (by decide) ?_
    refine lv_bipush (v := 9) hx hb dL_refused_492 (by decide) ?_
    refine q_goR (q_runV (As := [.int 3, .int 9]) (rest := []) hx hb hml hown hg (c_X10_sledgeOf l D cs oX oQ 3 9) v_X10_sledgeOf wl_L_126 rfl rfl ⟨Nat.le_of_ble_eq_true rfl, Nat.le_of_ble_eq_true rfl⟩ hI hK 10 oX rfl hl.1 rfl rfl (Nat.le_of_ble_eq_true rfl) dL_refused_494 ⟨Nat.le_of_ble_eq_true rfl, Nat.le_of_ble_eq_true rfl⟩) hI (fun H locs hI => ?_)
    rw [e_sledgeOf1 (Or.inr (by rw [i_le, i3]; exact hq.2.2.2))]
    refine lv_iconst (v := (-1)) hx hb dL_refused_497 (by decide) ?_
    refine lv_icmp_ne (tgt := 658) hx hb dL_refused_498 (by decide) (fun h9 => absurd rfl h9) (fun h9 => ?_)
    refine lv_aload_n hx hb dL_refused_501 rfl (lv_at hl 5 rfl) ?_
    refine lv_iconst (v := (-1)) hx hb dL_refused_502 (by decide) ?_
    refine lv_iconst (v := 0) hx hb dL_refused_503 (by decide) ?_
    refine q_goR (q_runV (As := [.int (-1), .int 0]) (rest := []) hx hb hml hown hg (c_X10_sledgeOf l D cs oX oQ (-1) 0) v_X10_sledgeOf wl_L_126 rfl rfl ⟨Nat.le_of_ble_eq_true rfl, Nat.le_of_ble_eq_true rfl⟩ hI hK 10 oX rfl hl.1 rfl rfl (Nat.le_of_ble_eq_true rfl) dL_refused_504 ⟨Nat.le_of_ble_eq_true rfl, Nat.le_of_ble_eq_true rfl⟩) hI (fun H locs hI => ?_)
    rw [e_sledgeOf1 (x := -1) (Or.inl (by decide))]
    refine lv_iconst (v := (-1)) hx hb dL_refused_507 (by decide) ?_
    refine lv_icmp_ne (tgt := 658) hx hb dL_refused_508 (by decide) (fun h9 => absurd rfl h9) (fun h9 => ?_)
    refine lv_aload_n hx hb dL_refused_511 rfl (lv_at hl 5 rfl) ?_
    refine lv_iconst (v := 0) hx hb dL_refused_512 (by decide) ?_
    refine lv_iconst (v := 4) hx hb dL_refused_513 (by decide) ?_
    refine q_goR (q_runV (As := [.int 0, .int 4]) (rest := []) hx hb hml hown hg (c_X10_sledgeOf l D cs oX oQ 0 4) v_X10_sledgeOf wl_L_126 rfl rfl ⟨Nat.le_of_ble_eq_true rfl, Nat.le_of_ble_eq_true rfl⟩ hI hK 10 oX rfl hl.1 rfl rfl (Nat.le_of_ble_eq_true rfl) dL_refused_514 ⟨Nat.le_of_ble_eq_true rfl, Nat.le_of_ble_eq_true rfl⟩) hI (fun H locs hI => ?_)
    rw [e_sledgeOf2 hsl (Or.inl rfl)]
    refine lv_bipush (v := (-2)) hx hb dL_refused_517 (by decide) ?_
    refine lv_icmp_ne (tgt := 658) hx hb dL_refused_519 (by decide) (fun h9 => absurd rfl h9) (fun h9 => ?_)
    refine lv_aload_n hx hb dL_refused_522 rfl (lv_at hl 5 rfl) ?_
    refine lv_iconst (v := 0) hx hb dL_refused_523 (by decide) ?_
    refine lv_iconst (v := (-1)) hx hb dL_refused_524 (by decide) ?_
    refine q_goR (q_runV (As := [.int 0, .int (-1)]) (rest := []) hx hb hml hown hg (c_X10_sledgeOf l D cs oX oQ 0 (-1)) v_X10_sledgeOf wl_L_126 rfl rfl ⟨Nat.le_of_ble_eq_true rfl, Nat.le_of_ble_eq_true rfl⟩ hI hK 10 oX rfl hl.1 rfl rfl (Nat.le_of_ble_eq_true rfl) dL_refused_525 ⟨Nat.le_of_ble_eq_true rfl, Nat.le_of_ble_eq_true rfl⟩) hI (fun H locs hI => ?_)
    rw [e_sledgeOf2 hsl (Or.inr rfl)]
    refine lv_bipush (v := (-2)) hx hb dL_refused_528 (by decide) ?_
    refine lv_icmp_ne (tgt := 658) hx hb dL_refused_530 (by decide) (fun h9 => absurd rfl h9) (fun h9 => ?_)
    refine lv_aload_n hx hb dL_refused_533 rfl (lv_at hl 5 rfl) ?_
    refine lv_iload_n hx hb dL_refused_534 rfl (lv_at hl 3 rfl) ?_
    refine q_goR (q_runV (As := [.int (nI cn)]) (rest := []) hx hb hml hown hg (c_X10_ranked l D cs oX oQ (nI cn)) v_X10_ranked wl_L_120 rfl rfl ⟨Nat.le_of_ble_eq_true rfl, Nat.le_of_ble_eq_true rfl⟩ hI hK 10 oX rfl hl.1 rfl rfl (Nat.le_of_ble_eq_true rfl) dL_refused_535 ⟨Nat.le_of_ble_eq_true rfl, Nat.le_of_ble_eq_true rfl⟩) hI (fun H locs hI => ?_)
    rw [e_ranked f hn16 hc _ (fun r hr z => absurd ((nI_eq (by omega) (by omega)).mp z) (by omega))]
    refine lv_iconst (v := (-1)) hx hb dL_refused_538 (by decide) ?_
    refine lv_icmp_ne (tgt := 658) hx hb dL_refused_539 (by decide) (fun h9 => absurd rfl h9) (fun h9 => ?_)
    refine lv_aload_n hx hb dL_refused_542 rfl (lv_at hl 5 rfl) ?_
    refine lv_iconst (v := (-1)) hx hb dL_refused_543 (by decide) ?_
    refine q_goR (q_runV (As := [.int (-1)]) (rest := []) hx hb hml hown hg (c_X10_ranked l D cs oX oQ (-1)) v_X10_ranked wl_L_120 rfl rfl ⟨Nat.le_of_ble_eq_true rfl, Nat.le_of_ble_eq_true rfl⟩ hI hK 10 oX rfl hl.1 rfl rfl (Nat.le_of_ble_eq_true rfl) dL_refused_544 ⟨Nat.le_of_ble_eq_true rfl, Nat.le_of_ble_eq_true rfl⟩) hI (fun H locs hI => ?_)
    rw [e_ranked f hn16 hc _ (fun r hr z => absurd (congrArg Int32.toInt z) (by rw [nI_toInt (by omega), im1]; omega))]
    refine lv_iconst (v := (-1)) hx hb dL_refused_547 (by decide) ?_
    refine lv_icmp_ne (tgt := 658) hx hb dL_refused_548 (by decide) (fun h9 => absurd rfl h9) (fun h9 => ?_)
    refine lv_aload_n hx hb dL_refused_551 rfl (lv_at hl 5 rfl) ?_
    refine lv_iload_n hx hb dL_refused_552 rfl (lv_at hl 3 rfl) ?_
    refine q_goP (q_runV (As := [.int (nI cn)]) (rest := []) hx hb hml hown hg (c_X10_tellTree l D cs oX oQ oN (nI cn)) v_X10_tellTree wl_L_123 rfl rfl ⟨Nat.le_of_ble_eq_true rfl, Nat.le_of_ble_eq_true rfl⟩ hI hK 10 oX rfl hl.1 rfl rfl (Nat.le_of_ble_eq_true rfl) dL_refused_553 ⟨Nat.le_of_ble_eq_true rfl, Nat.le_of_ble_eq_true rfl⟩) hI (fun M102 H locs hp hI => ?_)
    rw [e_tellTree tn] at hp ⊢
    obtain ⟨z0, hF⟩ := hp
    replace oN : qLN cs M102 (a + 164) n1 := z0
    replace oX := oX.fr hF (fun z h1 h2 hz => by omega)
    replace oQ := oQ.fr hF (fun z h1 h2 hz => by omega)
    replace oT := oT.fr hF (fun z h1 h2 hz => by omega)
    replace oH := oH.fr hF (fun z h1 h2 hz => by omega)
    replace oI := oI.fr hF (fun z h1 h2 hz => by omega)
    replace oR := oR.fr hF (fun z h1 h2 hz => by omega)
    replace hS := hS.tr hF (fun z hz => by omega)
    refine lv_iconst (v := (-1)) hx hb dL_refused_556 (by decide) ?_
    refine lv_icmp_ne (tgt := 658) hx hb dL_refused_557 (by decide) (fun h9 => absurd rfl h9) (fun h9 => ?_)
    refine lv_aload_n hx hb dL_refused_560 rfl (lv_at hl 5 rfl) ?_
    refine lv_iconst (v := (-1)) hx hb dL_refused_561 (by decide) ?_
    refine q_goP (q_runV (As := [.int (-1)]) (rest := []) hx hb hml hown hg (c_X10_tellTree l D cs oX oQ oN (-1)) v_X10_tellTree wl_L_123 rfl rfl ⟨Nat.le_of_ble_eq_true rfl, Nat.le_of_ble_eq_true rfl⟩ hI hK 10 oX rfl hl.1 rfl rfl (Nat.le_of_ble_eq_true rfl) dL_refused_562 ⟨Nat.le_of_ble_eq_true rfl, Nat.le_of_ble_eq_true rfl⟩) hI (fun M103 H locs hp hI => ?_)
    rw [e_tellTree tm] at hp ⊢
    obtain ⟨z0, hF⟩ := hp
    replace oN : qLN cs M103 (a + 164) n1 := z0
    replace oX := oX.fr hF (fun z h1 h2 hz => by omega)
    replace oQ := oQ.fr hF (fun z h1 h2 hz => by omega)
    replace oT := oT.fr hF (fun z h1 h2 hz => by omega)
    replace oH := oH.fr hF (fun z h1 h2 hz => by omega)
    replace oI := oI.fr hF (fun z h1 h2 hz => by omega)
    replace oR := oR.fr hF (fun z h1 h2 hz => by omega)
    replace hS := hS.tr hF (fun z hz => by omega)
    refine lv_iconst (v := (-1)) hx hb dL_refused_565 (by decide) ?_
    refine lv_icmp_ne (tgt := 658) hx hb dL_refused_566 (by decide) (fun h9 => absurd rfl h9) (fun h9 => ?_)
    refine lv_aload_n hx hb dL_refused_569 rfl (lv_at hl 5 rfl) ?_
    refine lv_iconst (v := (-1)) hx hb dL_refused_570 (by decide) ?_
    refine q_goR (q_runV (As := [.int (-1)]) (rest := []) hx hb hml hown hg (c_X10_written l D cs oX oN (-1)) v_X10_written wl_L_30 rfl rfl ⟨Nat.le_of_ble_eq_true rfl, Nat.le_of_ble_eq_true rfl⟩ hI hK 10 oX rfl hl.1 rfl rfl (Nat.le_of_ble_eq_true rfl) dL_refused_571 ⟨Nat.le_of_ble_eq_true rfl, Nat.le_of_ble_eq_true rfl⟩) hI (fun H locs hI => ?_)
    rw [e_written oN.2.2.1 (Or.inr rfl)]
    refine lv_iconst (v := (-1)) hx hb dL_refused_574 (by decide) ?_
    refine lv_icmp_ne (tgt := 658) hx hb dL_refused_575 (by decide) (fun h9 => absurd rfl h9) (fun h9 => ?_)
    refine lv_aload_n hx hb dL_refused_578 rfl (lv_at hl 5 rfl) ?_
    refine lv_sipush (v := 200) hx hb dL_refused_579 (by decide) ?_
    refine q_goR (q_runV (As := [.int 200]) (rest := []) hx hb hml hown hg (c_X10_written l D cs oX oN 200) v_X10_written wl_L_30 rfl rfl ⟨Nat.le_of_ble_eq_true rfl, Nat.le_of_ble_eq_true rfl⟩ hI hK 10 oX rfl hl.1 rfl rfl (Nat.le_of_ble_eq_true rfl) dL_refused_582 ⟨Nat.le_of_ble_eq_true rfl, Nat.le_of_ble_eq_true rfl⟩) hI (fun H locs hI => ?_)
    rw [e_written oN.2.2.1 (Or.inl rfl)]
    refine lv_iconst (v := (-1)) hx hb dL_refused_585 (by decide) ?_
    refine lv_icmp_ne (tgt := 658) hx hb dL_refused_586 (by decide) (fun h9 => absurd rfl h9) (fun h9 => ?_)
    refine lv_aload_n hx hb dL_refused_589 rfl (lv_at hl 5 rfl) ?_
    refine lv_bipush (v := 13) hx hb dL_refused_590 (by decide) ?_
    refine q_goR (q_runV (As := [.int 13]) (rest := []) hx hb hml hown hg (c_X10_account l D cs oX oQ oH oI 13) v_X10_account wl_L_81 rfl rfl ⟨Nat.le_of_ble_eq_true rfl, Nat.le_of_ble_eq_true rfl⟩ hI hK 10 oX rfl hl.1 rfl rfl (Nat.le_of_ble_eq_true rfl) dL_refused_592 ⟨Nat.le_of_ble_eq_true rfl, Nat.le_of_ble_eq_true rfl⟩) hI (fun H locs hI => ?_)
    rw [e_account (Or.inl rfl)]
    refine lv_bipush (v := (-2)) hx hb dL_refused_595 (by decide) ?_
    refine lv_icmp_ne (tgt := 658) hx hb dL_refused_597 (by decide) (fun h9 => absurd rfl h9) (fun h9 => ?_)
    refine lv_aload_n hx hb dL_refused_600 rfl (lv_at hl 5 rfl) ?_
    refine lv_iconst (v := (-1)) hx hb dL_refused_601 (by decide) ?_
    refine q_goR (q_runV (As := [.int (-1)]) (rest := []) hx hb hml hown hg (c_X10_account l D cs oX oQ oH oI (-1)) v_X10_account wl_L_81 rfl rfl ⟨Nat.le_of_ble_eq_true rfl, Nat.le_of_ble_eq_true rfl⟩ hI hK 10 oX rfl hl.1 rfl rfl (Nat.le_of_ble_eq_true rfl) dL_refused_602 ⟨Nat.le_of_ble_eq_true rfl, Nat.le_of_ble_eq_true rfl⟩) hI (fun H locs hI => ?_)
    rw [e_account (Or.inr rfl)]
    refine lv_bipush (v := (-2)) hx hb dL_refused_605 (by decide) ?_
    refine lv_icmp_ne (tgt := 658) hx hb dL_refused_607 (by decide) (fun h9 => absurd rfl h9) (fun h9 => ?_)
    refine lv_aload_n hx hb dL_refused_610 rfl (lv_at hl 5 rfl) ?_
    refine lv_iconst (v := 2) hx hb dL_refused_611 (by decide) ?_
    refine lv_iconst (v := 1) hx hb dL_refused_612 (by decide) ?_
    refine q_goR (q_runV (As := [.int 2, .int 1]) (rest := []) hx hb hml hown hg (c_X10_reason l D cs oX oR 2 1) v_X10_reason wl_L_26 rfl rfl ⟨Nat.le_of_ble_eq_true rfl, Nat.le_of_ble_eq_true rfl⟩ hI hK 10 oX rfl hl.1 rfl rfl (Nat.le_of_ble_eq_true rfl) dL_refused_613 ⟨Nat.le_of_ble_eq_true rfl, Nat.le_of_ble_eq_true rfl⟩) hI (fun H locs hI => ?_)
    rw [e_reason (Or.inl rfl)]
    refine lv_bipush (v := (-2)) hx hb dL_refused_616 (by decide) ?_
    refine lv_icmp_ne (tgt := 658) hx hb dL_refused_618 (by decide) (fun h9 => absurd rfl h9) (fun h9 => ?_)
    refine lv_aload_n hx hb dL_refused_621 rfl (lv_at hl 5 rfl) ?_
    refine lv_iconst (v := (-1)) hx hb dL_refused_622 (by decide) ?_
    refine lv_iconst (v := 1) hx hb dL_refused_623 (by decide) ?_
    refine q_goR (q_runV (As := [.int (-1), .int 1]) (rest := []) hx hb hml hown hg (c_X10_reason l D cs oX oR (-1) 1) v_X10_reason wl_L_26 rfl rfl ⟨Nat.le_of_ble_eq_true rfl, Nat.le_of_ble_eq_true rfl⟩ hI hK 10 oX rfl hl.1 rfl rfl (Nat.le_of_ble_eq_true rfl) dL_refused_624 ⟨Nat.le_of_ble_eq_true rfl, Nat.le_of_ble_eq_true rfl⟩) hI (fun H locs hI => ?_)
    rw [e_reason (Or.inr rfl)]
    refine lv_bipush (v := (-2)) hx hb dL_refused_627 (by decide) ?_
    refine lv_icmp_ne (tgt := 658) hx hb dL_refused_629 (by decide) (fun h9 => absurd rfl h9) (fun h9 => ?_)
    refine lv_aload_n hx hb dL_refused_632 rfl (lv_at hl 5 rfl) ?_
    refine lv_bipush (v := 31) hx hb dL_refused_633 (by decide) ?_
    refine q_goP (q_runV (As := [.int 31]) (rest := []) hx hb hml hown hg (c_X10_append l D cs oX oI 31) v_X10_append wl_L_17 rfl rfl ⟨Nat.le_of_ble_eq_true rfl, Nat.le_of_ble_eq_true rfl⟩ hI hK 10 oX rfl hl.1 rfl rfl (Nat.le_of_ble_eq_true rfl) dL_refused_635 ⟨Nat.le_of_ble_eq_true rfl, Nat.le_of_ble_eq_true rfl⟩) hI (fun M104 H locs hp hI => ?_)
    rw [e_append (Or.inl rfl)] at hp ⊢
    obtain ⟨z0, hF⟩ := hp
    replace oI : qLI cs M104 (a + 159) qI0 := z0
    replace oX := oX.fr hF (fun z h1 h2 hz => by omega)
    replace oQ := oQ.fr hF (fun z h1 h2 hz => by omega)
    replace oT := oT.fr hF (fun z h1 h2 hz => by omega)
    replace oH := oH.fr hF (fun z h1 h2 hz => by omega)
    replace oN := oN.fr hF (fun z h1 h2 hz => by omega)
    replace oR := oR.fr hF (fun z h1 h2 hz => by omega)
    replace hS := hS.tr hF (fun z hz => by omega)
    refine lv_bipush (v := (-2)) hx hb dL_refused_638 (by decide) ?_
    refine lv_icmp_ne (tgt := 658) hx hb dL_refused_640 (by decide) (fun h9 => absurd rfl h9) (fun h9 => ?_)
    refine lv_aload_n hx hb dL_refused_643 rfl (lv_at hl 5 rfl) ?_
    refine lv_bipush (v := 127) hx hb dL_refused_644 (by decide) ?_
    refine q_goP (q_runV (As := [.int 127]) (rest := []) hx hb hml hown hg (c_X10_append l D cs oX oI 127) v_X10_append wl_L_17 rfl rfl ⟨Nat.le_of_ble_eq_true rfl, Nat.le_of_ble_eq_true rfl⟩ hI hK 10 oX rfl hl.1 rfl rfl (Nat.le_of_ble_eq_true rfl) dL_refused_646 ⟨Nat.le_of_ble_eq_true rfl, Nat.le_of_ble_eq_true rfl⟩) hI (fun M105 H locs hp hI => ?_)
    rw [e_append (Or.inr rfl)] at hp ⊢
    obtain ⟨z0, hF⟩ := hp
    replace oI : qLI cs M105 (a + 159) qI0 := z0
    replace oX := oX.fr hF (fun z h1 h2 hz => by omega)
    replace oQ := oQ.fr hF (fun z h1 h2 hz => by omega)
    replace oT := oT.fr hF (fun z h1 h2 hz => by omega)
    replace oH := oH.fr hF (fun z h1 h2 hz => by omega)
    replace oN := oN.fr hF (fun z h1 h2 hz => by omega)
    replace oR := oR.fr hF (fun z h1 h2 hz => by omega)
    replace hS := hS.tr hF (fun z hz => by omega)
    refine lv_bipush (v := (-2)) hx hb dL_refused_649 (by decide) ?_
    refine lv_icmp_ne (tgt := 658) hx hb dL_refused_651 (by decide) (fun h9 => absurd rfl h9) (fun h9 => ?_)
    refine lv_iconst (v := 1) hx hb dL_refused_654 (by decide) ?_
    refine lv_goto (tgt := 659) hx hb dL_refused_655 (by decide) ?_
    refine lv_istore (lv' := [(5, .int 1), (6, .int hz), (4, .int (nI w)), (3, .int (nI cn)), (1, .long (askV q)), (0, .ref a)]) hx hb dL_refused_659 hl (by decide) rfl (fun ls hl => ?_)
    refine lv_iload hx hb dL_refused_661 (lv_at hl 0 rfl) ?_
    refine lv_if_eq (tgt := 765) hx hb dL_refused_663 (by decide) (fun h9 => absurd h9 (by decide)) (fun h9 => ?_)
    refine lv_aload_n hx hb dL_refused_666 rfl (lv_at hl 5 rfl) ?_
    refine va_ldcS hx hb hown (hP.2.2 4 (by decide)).1 dL_refused_667 ?_
    refine q_goP (q_runSP (As := [.ref a, .ref (cs (72 + 4))]) (rest := []) hx hb hml hown hg (c_L_reads l D cs (L := jCt 4) (hI.dom hN hd) (by decide) oX oQ oH oI oR) v_L_reads wl_L_168 rfl rfl ⟨Nat.le_of_ble_eq_true rfl, Nat.le_of_ble_eq_true rfl⟩ hI hK (hI.jx hN hd hP).1 (fun U V H hv h => zStr.moved hv h) (zStr.narrow ((hI.jx hN hd hP).2.2 4 (by decide)).2 (fun z hz => (hI.dom hN hd).in hz)) hl.1 rfl rfl (Nat.le_of_ble_eq_true rfl) dL_refused_669 ⟨Nat.le_of_ble_eq_true rfl, Nat.le_of_ble_eq_true rfl⟩) hI (fun M106 H locs hp hI => ?_)
    rw [read_1 f q h1 rs1] at hp ⊢
    obtain ⟨z0, z1, z2, z3, z4, hF⟩ := hp
    replace oX : qLX cs M106 a (0, f.2) := z0
    replace oQ : qLQ cs M106 (a + 1) q := z1
    replace oH : qLH cs M106 (a + 40) h1 := z2
    replace oI : qLI cs M106 (a + 159) iA1 := z3
    replace oR : qLR cs M106 (a + 166) rs1 := z4
    replace oT := oT.fr hF (fun z h1 h2 hz => by omega)
    replace oN := oN.fr hF (fun z h1 h2 hz => by omega)
    replace hS := hS.tr hF (fun z hz => by omega)
    refine lv_bipush (v := (-2)) hx hb dL_refused_672 (by decide) ?_
    refine lv_icmp_ne (tgt := 765) hx hb dL_refused_674 (by decide) (fun h9 => absurd rfl h9) (fun h9 => ?_)
    refine lv_aload_n hx hb dL_refused_677 rfl (lv_at hl 5 rfl) ?_
    refine q_goR (q_runV (As := []) (rest := []) hx hb hml hown hg (c_X10_fault l D cs oX) v_X10_fault wl_L_182 rfl rfl ⟨Nat.le_of_ble_eq_true rfl, Nat.le_of_ble_eq_true rfl⟩ hI hK 10 oX rfl hl.1 rfl rfl (Nat.le_of_ble_eq_true rfl) dL_refused_678 ⟨Nat.le_of_ble_eq_true rfl, Nat.le_of_ble_eq_true rfl⟩) hI (fun H locs hI => ?_)
    rw [show s_X10_fault (0, f.2) = 0 from rfl]
    refine lv_if_ne (tgt := 765) hx hb dL_refused_681 (by decide) (fun h9 => absurd rfl h9) (fun h9 => ?_)
    refine lv_aload_n hx hb dL_refused_684 rfl (lv_at hl 5 rfl) ?_
    refine va_ldcS hx hb hown (hP.2.2 5 (by decide)).1 dL_refused_685 ?_
    refine q_goP (q_runSP (As := [.ref a, .ref (cs (72 + 5))]) (rest := []) hx hb hml hown hg (c_L_reads l D cs (L := jCt 5) (hI.dom hN hd) (by decide) oX oQ oH oI oR) v_L_reads wl_L_168 rfl rfl ⟨Nat.le_of_ble_eq_true rfl, Nat.le_of_ble_eq_true rfl⟩ hI hK (hI.jx hN hd hP).1 (fun U V H hv h => zStr.moved hv h) (zStr.narrow ((hI.jx hN hd hP).2.2 5 (by decide)).2 (fun z hz => (hI.dom hN hd).in hz)) hl.1 rfl rfl (Nat.le_of_ble_eq_true rfl) dL_refused_687 ⟨Nat.le_of_ble_eq_true rfl, Nat.le_of_ble_eq_true rfl⟩) hI (fun M107 H locs hp hI => ?_)
    rw [read_2 (0, f.2) rs1 hq hc hn4 hn16 hH1, hd1] at hp ⊢
    obtain ⟨z0, z1, z2, z3, z4, hF⟩ := hp
    replace oX : qLX cs M107 a (0, f.2) := z0
    replace oQ : qLQ cs M107 (a + 1) q := z1
    replace oH : qLH cs M107 (a + 40) h1 := z2
    replace oI : qLI cs M107 (a + 159) iA2 := z3
    replace oR : qLR cs M107 (a + 166) (8, 2, 0, 0) := z4
    replace oT := oT.fr hF (fun z h1 h2 hz => by omega)
    replace oN := oN.fr hF (fun z h1 h2 hz => by omega)
    replace hS := hS.tr hF (fun z hz => by omega)
    refine lv_bipush (v := (-3)) hx hb dL_refused_690 (by decide) ?_
    refine lv_icmp_ne (tgt := 765) hx hb dL_refused_692 (by decide) (fun h9 => absurd rfl h9) (fun h9 => ?_)
    refine lv_aload_n hx hb dL_refused_695 rfl (lv_at hl 5 rfl) ?_
    refine lv_iconst (v := 2) hx hb dL_refused_696 (by decide) ?_
    refine lv_iconst (v := 0) hx hb dL_refused_697 (by decide) ?_
    refine lv_iconst (v := 0) hx hb dL_refused_698 (by decide) ?_
    refine q_goR (q_runS (As := [.ref a, .int 2, .int 0, .int 0]) (rest := []) hx hb hml hown hg (c_L_isSeven l D cs oX oR 2 0 0) v_L_isSeven wl_L_187 rfl rfl ⟨Nat.le_of_ble_eq_true rfl, Nat.le_of_ble_eq_true rfl⟩ hI hK hl.1 rfl rfl (Nat.le_of_ble_eq_true rfl) dL_refused_699 ⟨Nat.le_of_ble_eq_true rfl, Nat.le_of_ble_eq_true rfl⟩) hI (fun H locs hI => ?_)
    rw [seven_1 (0, f.2)]
    refine lv_if_eq (tgt := 765) hx hb dL_refused_702 (by decide) (fun h9 => absurd h9 qb1) (fun h9 => ?_)
    refine lv_aload_n hx hb dL_refused_705 rfl (lv_at hl 5 rfl) ?_
    obtain ⟨Mb, hMb⟩ : ∃ z : qM, z = M107 := ⟨_, rfl⟩
    rw [← hMb] at hI oX oQ oT oH oI oN oR hS
    refine q_new hx hb 1 hg in_J4 tyJ4_ok hown wx_cSB wx_inst wx_iniSB hK hI rfl [.null, .int 0, .int 0, .int 0] (fun j hj => by match j, hj with | 0, _ => rfl | 1, _ => rfl | 2, _ => rfl | 3, _ => rfl) (Nat.le_of_ble_eq_true rfl) (Nat.le_of_ble_eq_true rfl) dL_refused_706 (fun H hI => ?_)
    refine lv_dup hx hb dL_refused_709 rfl ?_
    refine q_go (f_runI (As := []) (rest := [.ref N, .ref a]) hx hb hml hown hg (c_J4_init l D cs (hI.dom hN hd) (K := N) (Nat.le_refl _) (by omega) (qUp_at _ _ _)) v_J4_init_da8c8 wl_L_149 rfl rfl ⟨Nat.le_of_ble_eq_true rfl, Nat.le_of_ble_eq_true rfl⟩ hI hK jW.sw (hI.jx hN hd hP).2.1 hl.1 rfl rfl (Nat.le_of_ble_eq_true rfl) dL_refused_710 ⟨Nat.le_of_ble_eq_true rfl, Nat.le_of_ble_eq_true rfl⟩) hI (fun r M N1 H locs hp hI => ?_)
    obtain ⟨rfl, hB, hF1, hle1⟩ := hp
    have hFM : qFr (qK0 N) Mb M := qFr.tr (F := qK0 N) (G := qK0 N) (fun q hq => qUp_ne (by omega)) hF1 (fun q hq => hq)
    have hNN : N ≤ N1 := by omega
    clear hF1 hle1
    have hB : qB cs N 0 ([] : List Int32).length M N1 N [] := by obtain ⟨v, n, f0, z1, z2, -, z3⟩ := hB; exact ⟨v, n, f0, z1, z2, Nat.zero_le _, z3⟩
    refine va_ldcS hx hb hown (hP.2.2 6 (by decide)).1 dL_refused_713 ?_
    refine q_go (f_runV (As := [.ref (cs (72 + 6))]) (rest := [.ref a]) hx hb hml hown hg (c_J4_appendS l D cs (hI.dom hN hd) (K := N) (T := jCt 6) (by decide) (jCt_fit 6 (by decide)) hB) v_J4_append_15ec4 wl_L_152 rfl rfl ⟨Nat.le_of_ble_eq_true rfl, Nat.le_of_ble_eq_true rfl⟩ hI hK jWS.sw ⟨(hI.jx hN hd hP).2.1, ((hI.jx hN hd hP).2.2 6 (by decide)).2⟩ (hI.rcB hK hB) hl.1 rfl rfl (Nat.le_of_ble_eq_true rfl) dL_refused_715 ⟨Nat.le_of_ble_eq_true rfl, Nat.le_of_ble_eq_true rfl⟩) hI (fun r M N2 H locs hp hI => ?_)
    obtain ⟨rfl, hB, hF1, hle1⟩ := hp
    replace hFM := hFM.tr hF1 (fun q hq => hq)
    have hNN : N ≤ N2 := by omega
    clear hF1 hle1
    refine lv_iload hx hb dL_refused_718 (lv_at hl 2 rfl) ?_
    refine q_go (f_runV (As := [.int (nI w)]) (rest := [.ref a]) hx hb hml hown hg (c_J4_appendI l D cs (hI.dom hN hd) (K := N) (x := w) (by omega) (by decide) hB) v_J4_append_bf812 wl_L_155 rfl rfl ⟨Nat.le_of_ble_eq_true rfl, Nat.le_of_ble_eq_true rfl⟩ hI hK jW.sw (hI.jx hN hd hP).2.1 (hI.rcB hK hB) hl.1 rfl rfl (Nat.le_of_ble_eq_true rfl) dL_refused_720 ⟨Nat.le_of_ble_eq_true rfl, Nat.le_of_ble_eq_true rfl⟩) hI (fun r M N3 H locs hp hI => ?_)
    obtain ⟨rfl, hB, hF1, hle1⟩ := hp
    replace hFM := hFM.tr hF1 (fun q hq => hq)
    have hNN : N ≤ N3 := by omega
    clear hF1 hle1
    refine q_go (f_runV (As := []) (rest := [.ref a]) hx hb hml hown hg (c_J4_toString l D cs (hI.dom hN hd) (K := N) (L := L3 w) hB) v_J4_toString_0e30d wl_L_160 rfl rfl ⟨Nat.le_of_ble_eq_true rfl, Nat.le_of_ble_eq_true rfl⟩ hI hK jW.sw (hI.jx hN hd hP).2.1 (hI.rcB hK hB) hl.1 rfl rfl (Nat.le_of_ble_eq_true rfl) dL_refused_723 ⟨Nat.le_of_ble_eq_true rfl, Nat.le_of_ble_eq_true rfl⟩) hI (fun r M N4 H locs hp hI => ?_)
    obtain ⟨aS, rfl, hKa, ⟨tS, fS, hKt, hMa, hMt, hfS⟩, hF1, hle1⟩ := hp
    replace hFM := hFM.tr hF1 (fun q hq => hq)
    have hNN : N ≤ N4 := by omega
    clear hF1 hle1 hB
    have hSt : zStr (qA (qCut N M) N4) aS tS (L3 w) s H := hI.str hg hK hMa hMt hfS (fun z => z.elim (fun z => z (if_neg (by omega))) (fun z => absurd (hI.lt hMa) (by omega))) (fun z => z.elim (fun z => z (if_neg (by omega))) (fun z => absurd (hI.lt hMt) (by omega)))
    replace hI := hI.cut N
    have hM2 : ∀ z, z < N → qCut N M z = Mb z := fun z hz => (qCut_lt hz).trans (hFM z (by omega))
    generalize qCut N M = M at hI hM2 hSt
    replace oX := oX.same (fun z h1 h2 => hM2 z (by omega))
    replace oQ := oQ.same (fun z h1 h2 => hM2 z (by omega))
    replace oT := oT.same (fun z h1 h2 => hM2 z (by omega))
    replace oH := oH.same (fun z h1 h2 => hM2 z (by omega))
    replace oI := oI.same (fun z h1 h2 => hM2 z (by omega))
    replace oN := oN.same (fun z h1 h2 => hM2 z (by omega))
    replace oR := oR.same (fun z h1 h2 => hM2 z (by omega))
    replace hS : qFr (rfF a N) M0 M := fun z hz => (hM2 z (by omega)).trans (hS z hz)
    have hL31 : (L3 w).length < 2 ^ 31 := by have := dg_le w; unfold L3; simp only [List.length_append, ds_len, List.length_nil]; simp only [jl6]; omega
    refine q_goP (q_runSP (As := [.ref a, .ref aS]) (rest := []) hx hb hml hown hg (c_L_reads l D cs (L := L3 w) (hI.dom hN hd) (hL31) oX oQ oH oI oR) v_L_reads wl_L_168 rfl rfl ⟨Nat.le_of_ble_eq_true rfl, Nat.le_of_ble_eq_true rfl⟩ hI hK (hI.jx hN hd hP).1 (fun U V H hv h => zStr.moved hv h) (hSt) hl.1 rfl rfl (Nat.le_of_ble_eq_true rfl) dL_refused_726 ⟨Nat.le_of_ble_eq_true rfl, Nat.le_of_ble_eq_true rfl⟩) hI (fun M108 H locs hp hI => ?_)
    rw [read_3 (0, f.2) (8, 2, 0, 0) hq hc hn4 hn16 hH1 hw hww, hd1] at hp ⊢
    obtain ⟨z0, z1, z2, z3, z4, hF⟩ := hp
    replace oX : qLX cs M108 a (0, f.2) := z0
    replace oQ : qLQ cs M108 (a + 1) q := z1
    replace oH : qLH cs M108 (a + 40) h1 := z2
    replace oI : qLI cs M108 (a + 159) (iA3 w) := z3
    replace oR : qLR cs M108 (a + 166) (7, 1, 5, nI w) := z4
    replace oT := oT.fr hF (fun z h1 h2 hz => by omega)
    replace oN := oN.fr hF (fun z h1 h2 hz => by omega)
    replace hS := hS.tr hF (fun z hz => by omega)
    refine lv_bipush (v := (-3)) hx hb dL_refused_729 (by decide) ?_
    refine lv_icmp_ne (tgt := 765) hx hb dL_refused_731 (by decide) (fun h9 => absurd rfl h9) (fun h9 => ?_)
    refine lv_aload_n hx hb dL_refused_734 rfl (lv_at hl 5 rfl) ?_
    refine lv_iconst (v := 1) hx hb dL_refused_735 (by decide) ?_
    refine lv_iconst (v := 5) hx hb dL_refused_736 (by decide) ?_
    refine lv_iload hx hb dL_refused_737 (lv_at hl 2 rfl) ?_
    refine q_goR (q_runS (As := [.ref a, .int 1, .int 5, .int (nI w)]) (rest := []) hx hb hml hown hg (c_L_isSeven l D cs oX oR 1 5 (nI w)) v_L_isSeven wl_L_187 rfl rfl ⟨Nat.le_of_ble_eq_true rfl, Nat.le_of_ble_eq_true rfl⟩ hI hK hl.1 rfl rfl (Nat.le_of_ble_eq_true rfl) dL_refused_739 ⟨Nat.le_of_ble_eq_true rfl, Nat.le_of_ble_eq_true rfl⟩) hI (fun H locs hI => ?_)
    rw [seven_2 (0, f.2) (nI w)]
    refine lv_if_eq (tgt := 765) hx hb dL_refused_742 (by decide) (fun h9 => absurd h9 qb1) (fun h9 => ?_)
    refine lv_aload_n hx hb dL_refused_745 rfl (lv_at hl 5 rfl) ?_
    refine q_goR (q_runV (As := []) (rest := []) hx hb hml hown hg (c_X10_fault l D cs oX) v_X10_fault wl_L_182 rfl rfl ⟨Nat.le_of_ble_eq_true rfl, Nat.le_of_ble_eq_true rfl⟩ hI hK 10 oX rfl hl.1 rfl rfl (Nat.le_of_ble_eq_true rfl) dL_refused_746 ⟨Nat.le_of_ble_eq_true rfl, Nat.le_of_ble_eq_true rfl⟩) hI (fun H locs hI => ?_)
    rw [show s_X10_fault (0, f.2) = 0 from rfl]
    refine lv_if_ne (tgt := 765) hx hb dL_refused_749 (by decide) (fun h9 => absurd rfl h9) (fun h9 => ?_)
    refine lv_aload_n hx hb dL_refused_752 rfl (lv_at hl 5 rfl) ?_
    refine q_goP (q_runS (As := [.ref a]) (rest := []) hx hb hml hown hg (c_L_asks l D cs oX oQ oT oH oI oN (nan_no hq)) v_L_asks wl_L_172 rfl rfl ⟨Nat.le_of_ble_eq_true rfl, Nat.le_of_ble_eq_true rfl⟩ hI hK hl.1 rfl rfl (Nat.le_of_ble_eq_true rfl) dL_refused_753 ⟨Nat.le_of_ble_eq_true rfl, Nat.le_of_ble_eq_true rfl⟩) hI (fun M109 H locs hp hI => ?_)
    have he109 := ask_eq (0, f.2) hq qt1 h1 (iA3 w) (n := n1) oN.2.2.1
    generalize s_L_asks (0, f.2) q qt1 h1 (iA3 w) n1 = A109 at hp he109 ⊢
    obtain ⟨z0, z1, hF⟩ := hp
    rw [he109]
    replace oT := z0
    replace oN := z1
    replace oX := oX.fr hF (fun z h1 h2 hz => by omega)
    replace oQ := oQ.fr hF (fun z h1 h2 hz => by omega)
    replace oH := oH.fr hF (fun z h1 h2 hz => by omega)
    replace oI := oI.fr hF (fun z h1 h2 hz => by omega)
    replace oR := oR.fr hF (fun z h1 h2 hz => by omega)
    replace hS := hS.tr hF (fun z hz => by omega)
    refine lv_lload_n hx hb dL_refused_756 rfl (lv_at hl 4 rfl) ?_
    refine W.lcmp hx hb dL_refused_757 ?_
    rw [lcmp_eq]
    refine lv_if_ne (tgt := 765) hx hb dL_refused_758 (by decide) (fun h9 => absurd rfl h9) (fun h9 => ?_)
    refine lv_iconst (v := 1) hx hb dL_refused_761 (by decide) ?_
    refine lv_goto (tgt := 766) hx hb dL_refused_762 (by decide) ?_
    refine W.widen (k := 8) (n := 194) (Nat.le_of_ble_eq_true rfl) (Nat.le_of_ble_eq_true rfl) ?_
    exact q_zret hx hb hret rfl hlk hN hI ⟨rfl, (0, f.2), _, _, _, _, _, hH1, rfl, oX, oQ, oT, oH, oI, oN, oR, hS, hNN⟩ dL_refused_766
  by_cases hh : s_X1_holderOf q.1 2 < 0
  · have ho : s_X10_orNothing (s_X1_holderOf q.1 2) = -4 := by unfold s_X10_orNothing; rw [if_neg (show ¬ 0 ≤ s_X1_holderOf q.1 2 by rw [i_le]; rw [i_lt] at hh; omega)]
    rw [ho] at hl
    refine lv_iload hx hb dL_refused_218 (lv_at hl 0 rfl) ?_
    refine lv_if_ge (tgt := 265) hx hb dL_refused_220 (by decide) (fun h9 => absurd h9 (by decide)) (fun h9 => ?_)
    refine lv_aload_n hx hb dL_refused_223 rfl (lv_at hl 5 rfl) ?_
    refine lv_iconst (v := 2) hx hb dL_refused_224 (by decide) ?_
    refine q_goP (q_runV (As := [.int 2]) (rest := []) hx hb hml hown hg (c_X10_cut l D cs oX oQ oH oR 2) v_X10_cut wl_L_135 rfl rfl ⟨Nat.le_of_ble_eq_true rfl, Nat.le_of_ble_eq_true rfl⟩ hI hK 10 oX rfl hl.1 rfl rfl (Nat.le_of_ble_eq_true rfl) dL_refused_225 ⟨Nat.le_of_ble_eq_true rfl, Nat.le_of_ble_eq_true rfl⟩) hI (fun M201 H locs hp hI => ?_)
    rw [e_cut2 t2 hh, hd1] at hp ⊢
    obtain ⟨z0, z1, z2, hF⟩ := hp
    replace oQ : qLQ cs M201 (a + 1) q := z0
    replace oH : qLH cs M201 (a + 40) h1 := z1
    replace oR : qLR cs M201 (a + 166) (4, 2, 0, 0) := z2
    replace oX := oX.fr hF (fun z h1 h2 hz => by omega)
    replace oT := oT.fr hF (fun z h1 h2 hz => by omega)
    replace oI := oI.fr hF (fun z h1 h2 hz => by omega)
    replace oN := oN.fr hF (fun z h1 h2 hz => by omega)
    replace hS := hS.tr hF (fun z hz => by omega)
    refine lv_bipush (v := (-3)) hx hb dL_refused_228 (by decide) ?_
    refine lv_icmp_ne (tgt := 290) hx hb dL_refused_230 (by decide) (fun h9 => absurd rfl h9) (fun h9 => ?_)
    refine lv_aload_n hx hb dL_refused_233 rfl (lv_at hl 5 rfl) ?_
    refine lv_iconst (v := 4) hx hb dL_refused_234 (by decide) ?_
    refine lv_iconst (v := 2) hx hb dL_refused_235 (by decide) ?_
    refine q_goR (q_runS (As := [.ref a, .int 4, .int 2]) (rest := []) hx hb hml hown hg (c_L_is l D cs oX oR 4 2) v_L_is wl_L_176 rfl rfl ⟨Nat.le_of_ble_eq_true rfl, Nat.le_of_ble_eq_true rfl⟩ hI hK hl.1 rfl rfl (Nat.le_of_ble_eq_true rfl) dL_refused_236 ⟨Nat.le_of_ble_eq_true rfl, Nat.le_of_ble_eq_true rfl⟩) hI (fun H locs hI => ?_)
    rw [is_T f 4 2 (by decide)]
    refine lv_if_eq (tgt := 290) hx hb dL_refused_239 (by decide) (fun h9 => absurd h9 qb1) (fun h9 => ?_)
    refine lv_aload_n hx hb dL_refused_242 rfl (lv_at hl 5 rfl) ?_
    refine lv_iconst (v := 2) hx hb dL_refused_243 (by decide) ?_
    refine lv_iconst (v := 2) hx hb dL_refused_244 (by decide) ?_
    refine q_goP (q_runV (As := [.int 2, .int 2]) (rest := []) hx hb hml hown hg (c_X10_hang l D cs oX oQ oH oR 2 2) v_X10_hang wl_L_47 rfl rfl ⟨Nat.le_of_ble_eq_true rfl, Nat.le_of_ble_eq_true rfl⟩ hI hK 10 oX rfl hl.1 rfl rfl (Nat.le_of_ble_eq_true rfl) dL_refused_245 ⟨Nat.le_of_ble_eq_true rfl, Nat.le_of_ble_eq_true rfl⟩) hI (fun M202 H locs hp hI => ?_)
    rw [e_hang3 t2 hh, hd1] at hp ⊢
    obtain ⟨z0, z1, z2, hF⟩ := hp
    replace oQ : qLQ cs M202 (a + 1) q := z0
    replace oH : qLH cs M202 (a + 40) h1 := z1
    replace oR : qLR cs M202 (a + 166) (3, 2, 0, 0) := z2
    replace oX := oX.fr hF (fun z h1 h2 hz => by omega)
    replace oT := oT.fr hF (fun z h1 h2 hz => by omega)
    replace oI := oI.fr hF (fun z h1 h2 hz => by omega)
    replace oN := oN.fr hF (fun z h1 h2 hz => by omega)
    replace hS := hS.tr hF (fun z hz => by omega)
    refine lv_bipush (v := (-3)) hx hb dL_refused_248 (by decide) ?_
    refine lv_icmp_ne (tgt := 290) hx hb dL_refused_250 (by decide) (fun h9 => absurd rfl h9) (fun h9 => ?_)
    refine lv_aload_n hx hb dL_refused_253 rfl (lv_at hl 5 rfl) ?_
    refine lv_iconst (v := 3) hx hb dL_refused_254 (by decide) ?_
    refine lv_iconst (v := 2) hx hb dL_refused_255 (by decide) ?_
    refine q_goR (q_runS (As := [.ref a, .int 3, .int 2]) (rest := []) hx hb hml hown hg (c_L_is l D cs oX oR 3 2) v_L_is wl_L_176 rfl rfl ⟨Nat.le_of_ble_eq_true rfl, Nat.le_of_ble_eq_true rfl⟩ hI hK hl.1 rfl rfl (Nat.le_of_ble_eq_true rfl) dL_refused_256 ⟨Nat.le_of_ble_eq_true rfl, Nat.le_of_ble_eq_true rfl⟩) hI (fun H locs hI => ?_)
    rw [is_T f 3 2 (by decide)]
    refine lv_if_eq (tgt := 290) hx hb dL_refused_259 (by decide) (fun h9 => absurd h9 qb1) (fun h9 => ?_)
    refine lv_goto (tgt := 286) hx hb dL_refused_262 (by decide) ?_
    exact tail _ _ _ _ _ _ _ _ oX oQ oT oH oI oN oR hS hI (lv_sub hl [0, 1, 2, 3, 4, 5] rfl)
  · have ho : s_X10_orNothing (s_X1_holderOf q.1 2) = s_X1_holderOf q.1 2 := by unfold s_X10_orNothing; rw [if_pos (q_nlt hh)]
    rw [ho] at hl
    refine lv_iload hx hb dL_refused_218 (lv_at hl 0 rfl) ?_
    refine lv_if_ge (tgt := 265) hx hb dL_refused_220 (by decide) (fun h9 => ?_) (fun h9 => absurd (q_nlt hh) h9)
    refine lv_aload_n hx hb dL_refused_265 rfl (lv_at hl 5 rfl) ?_
    refine lv_iconst (v := 2) hx hb dL_refused_266 (by decide) ?_
    refine lv_iconst (v := 0) hx hb dL_refused_267 (by decide) ?_
    refine q_goP (q_runV (As := [.int 2, .int 0]) (rest := []) hx hb hml hown hg (c_X10_hang l D cs oX oQ oH oR 2 0) v_X10_hang wl_L_47 rfl rfl ⟨Nat.le_of_ble_eq_true rfl, Nat.le_of_ble_eq_true rfl⟩ hI hK 10 oX rfl hl.1 rfl rfl (Nat.le_of_ble_eq_true rfl) dL_refused_268 ⟨Nat.le_of_ble_eq_true rfl, Nat.le_of_ble_eq_true rfl⟩) hI (fun M301 H locs hp hI => ?_)
    rw [e_hang4 t2 t0 hh, hd1] at hp ⊢
    obtain ⟨z0, z1, z2, hF⟩ := hp
    replace oQ : qLQ cs M301 (a + 1) q := z0
    replace oH : qLH cs M301 (a + 40) h1 := z1
    replace oR : qLR cs M301 (a + 166) (2, s_X1_holderOf q.1 2, 0, 0) := z2
    replace oX := oX.fr hF (fun z h1 h2 hz => by omega)
    replace oT := oT.fr hF (fun z h1 h2 hz => by omega)
    replace oI := oI.fr hF (fun z h1 h2 hz => by omega)
    replace oN := oN.fr hF (fun z h1 h2 hz => by omega)
    replace hS := hS.tr hF (fun z hz => by omega)
    refine lv_bipush (v := (-3)) hx hb dL_refused_271 (by decide) ?_
    refine lv_icmp_ne (tgt := 290) hx hb dL_refused_273 (by decide) (fun h9 => absurd rfl h9) (fun h9 => ?_)
    refine lv_aload_n hx hb dL_refused_276 rfl (lv_at hl 5 rfl) ?_
    refine lv_iconst (v := 2) hx hb dL_refused_277 (by decide) ?_
    refine lv_iload hx hb dL_refused_278 (lv_at hl 0 rfl) ?_
    refine q_goR (q_runS (As := [.ref a, .int 2, .int (s_X1_holderOf q.1 2)]) (rest := []) hx hb hml hown hg (c_L_is l D cs oX oR 2 (s_X1_holderOf q.1 2)) v_L_is wl_L_176 rfl rfl ⟨Nat.le_of_ble_eq_true rfl, Nat.le_of_ble_eq_true rfl⟩ hI hK hl.1 rfl rfl (Nat.le_of_ble_eq_true rfl) dL_refused_280 ⟨Nat.le_of_ble_eq_true rfl, Nat.le_of_ble_eq_true rfl⟩) hI (fun H locs hI => ?_)
    rw [is_T f 2 (s_X1_holderOf q.1 2) (by decide)]
    refine lv_if_eq (tgt := 290) hx hb dL_refused_283 (by decide) (fun h9 => absurd h9 qb1) (fun h9 => ?_)
    exact tail _ _ _ _ _ _ _ _ oX oQ oT oH oI oN oR hS hI (lv_sub hl [0, 1, 2, 3, 4, 5] rfl)

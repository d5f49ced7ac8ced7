/-! LAW: the known run of its first object -/
theorem dL_law_0 : decode cL_law 0 = .ok (.new 18, 3) := by decide +kernel
theorem dL_law_3 : decode cL_law 3 = .ok (.dup, 1) := by decide +kernel
theorem dL_law_4 : decode cL_law 4 = .ok (.invokespecial 193, 3) := by decide +kernel
theorem dL_law_7 : decode cL_law 7 = .ok (.astore_n 1, 1) := by decide +kernel
theorem dL_law_8 : decode cL_law 8 = .ok (.aload_n 1, 1) := by decide +kernel
theorem dL_law_9 : decode cL_law 9 = .ok (.invokevirtual 194, 3) := by decide +kernel
theorem dL_law_12 : decode cL_law 12 = .ok (.bipush (-4), 2) := by decide +kernel
theorem dL_law_14 : decode cL_law 14 = .ok (.if_icmp .ne 19, 3) := by decide +kernel
theorem dL_law_17 : decode cL_law 17 = .ok (.aload_n 1, 1) := by decide +kernel
theorem dL_law_18 : decode cL_law 18 = .ok (.invokevirtual 197, 3) := by decide +kernel
theorem dL_law_21 : decode cL_law 21 = .ok (.bipush (-4), 2) := by decide +kernel
theorem dL_law_23 : decode cL_law 23 = .ok (.if_icmp .ne 10, 3) := by decide +kernel
theorem dL_law_26 : decode cL_law 26 = .ok (.aload_n 1, 1) := by decide +kernel
theorem dL_law_27 : decode cL_law 27 = .ok (.invokevirtual 200, 3) := by decide +kernel
theorem dL_law_30 : decode cL_law 30 = .ok (.ifCond .eq 5, 3) := by decide +kernel
theorem dL_law_33 : decode cL_law 33 = .ok (.iconst 0, 1) := by decide +kernel
theorem dL_law_34 : decode cL_law 34 = .ok (.ireturn, 1) := by decide +kernel
theorem dL_law_35 : decode cL_law 35 = .ok (.iconst 0, 1) := by decide +kernel
theorem dL_law_36 : decode cL_law 36 = .ok (.istore_n 2, 1) := by decide +kernel
theorem dL_law_37 : decode cL_law 37 = .ok (.iload_n 2, 1) := by decide +kernel
theorem dL_law_38 : decode cL_law 38 = .ok (.bipush 60, 2) := by decide +kernel
theorem dL_law_40 : decode cL_law 40 = .ok (.if_icmp .ge 26, 3) := by decide +kernel
theorem dL_law_43 : decode cL_law 43 = .ok (.aload_n 1, 1) := by decide +kernel
theorem dL_law_44 : decode cL_law 44 = .ok (.bipush 65, 2) := by decide +kernel
theorem dL_law_46 : decode cL_law 46 = .ok (.iload_n 2, 1) := by decide +kernel
theorem dL_law_47 : decode cL_law 47 = .ok (.iadd, 1) := by decide +kernel
theorem dL_law_48 : decode cL_law 48 = .ok (.i2c, 1) := by decide +kernel
theorem dL_law_49 : decode cL_law 49 = .ok (.invokevirtual 17, 3) := by decide +kernel
theorem dL_law_52 : decode cL_law 52 = .ok (.iload_n 2, 1) := by decide +kernel
theorem dL_law_53 : decode cL_law 53 = .ok (.iconst 1, 1) := by decide +kernel
theorem dL_law_54 : decode cL_law 54 = .ok (.iadd, 1) := by decide +kernel
theorem dL_law_55 : decode cL_law 55 = .ok (.if_icmp .eq 5, 3) := by decide +kernel
theorem dL_law_58 : decode cL_law 58 = .ok (.iconst 0, 1) := by decide +kernel
theorem dL_law_59 : decode cL_law 59 = .ok (.ireturn, 1) := by decide +kernel
theorem dL_law_60 : decode cL_law 60 = .ok (.iinc 2 1, 3) := by decide +kernel
theorem dL_law_63 : decode cL_law 63 = .ok (.goto (-26), 3) := by decide +kernel
theorem dL_law_66 : decode cL_law 66 = .ok (.aload_n 1, 1) := by decide +kernel
theorem dL_law_67 : decode cL_law 67 = .ok (.bipush 112, 2) := by decide +kernel
theorem dL_law_69 : decode cL_law 69 = .ok (.invokevirtual 17, 3) := by decide +kernel
theorem dL_law_72 : decode cL_law 72 = .ok (.bipush (-2), 2) := by decide +kernel
theorem dL_law_74 : decode cL_law 74 = .ok (.if_icmp .ne 39, 3) := by decide +kernel
theorem dL_law_77 : decode cL_law 77 = .ok (.aload_n 1, 1) := by decide +kernel
theorem dL_law_78 : decode cL_law 78 = .ok (.bipush 11, 2) := by decide +kernel
theorem dL_law_80 : decode cL_law 80 = .ok (.invokevirtual 81, 3) := by decide +kernel
theorem dL_law_83 : decode cL_law 83 = .ok (.bipush 60, 2) := by decide +kernel
theorem dL_law_85 : decode cL_law 85 = .ok (.if_icmp .ne 28, 3) := by decide +kernel
theorem dL_law_88 : decode cL_law 88 = .ok (.aload_n 1, 1) := by decide +kernel
theorem dL_law_89 : decode cL_law 89 = .ok (.invokevirtual 23, 3) := by decide +kernel
theorem dL_law_92 : decode cL_law 92 = .ok (.bipush (-2), 2) := by decide +kernel
theorem dL_law_94 : decode cL_law 94 = .ok (.if_icmp .ne 19, 3) := by decide +kernel
theorem dL_law_97 : decode cL_law 97 = .ok (.aload_n 1, 1) := by decide +kernel
theorem dL_law_98 : decode cL_law 98 = .ok (.invokevirtual 182, 3) := by decide +kernel
theorem dL_law_101 : decode cL_law 101 = .ok (.ifCond .ne 12, 3) := by decide +kernel
theorem dL_law_104 : decode cL_law 104 = .ok (.aload_n 1, 1) := by decide +kernel
theorem dL_law_105 : decode cL_law 105 = .ok (.bipush 11, 2) := by decide +kernel
theorem dL_law_107 : decode cL_law 107 = .ok (.invokevirtual 81, 3) := by decide +kernel
theorem dL_law_110 : decode cL_law 110 = .ok (.ifCond .eq 5, 3) := by decide +kernel
theorem dL_law_113 : decode cL_law 113 = .ok (.iconst 0, 1) := by decide +kernel
theorem dL_law_114 : decode cL_law 114 = .ok (.ireturn, 1) := by decide +kernel
theorem dL_law_115 : decode cL_law 115 = .ok (.iconst 0, 1) := by decide +kernel
theorem dL_law_116 : decode cL_law 116 = .ok (.istore_n 2, 1) := by decide +kernel
theorem dL_law_117 : decode cL_law 117 = .ok (.iload_n 2, 1) := by decide +kernel
theorem dL_law_118 : decode cL_law 118 = .ok (.bipush 16, 2) := by decide +kernel
theorem dL_law_120 : decode cL_law 120 = .ok (.if_icmp .ge 20, 3) := by decide +kernel
theorem dL_law_123 : decode cL_law 123 = .ok (.aload_n 1, 1) := by decide +kernel
theorem dL_law_124 : decode cL_law 124 = .ok (.iload_n 2, 1) := by decide +kernel
theorem dL_law_125 : decode cL_law 125 = .ok (.invokevirtual 44, 3) := by decide +kernel
theorem dL_law_128 : decode cL_law 128 = .ok (.iload_n 2, 1) := by decide +kernel
theorem dL_law_129 : decode cL_law 129 = .ok (.if_icmp .eq 5, 3) := by decide +kernel
theorem dL_law_132 : decode cL_law 132 = .ok (.iconst 0, 1) := by decide +kernel
theorem dL_law_133 : decode cL_law 133 = .ok (.ireturn, 1) := by decide +kernel
theorem dL_law_134 : decode cL_law 134 = .ok (.iinc 2 1, 3) := by decide +kernel
theorem dL_law_137 : decode cL_law 137 = .ok (.goto (-20), 3) := by decide +kernel
theorem dL_law_140 : decode cL_law 140 = .ok (.aload_n 1, 1) := by decide +kernel
theorem dL_law_141 : decode cL_law 141 = .ok (.iconst 1, 1) := by decide +kernel
theorem dL_law_142 : decode cL_law 142 = .ok (.invokevirtual 44, 3) := by decide +kernel
theorem dL_law_145 : decode cL_law 145 = .ok (.bipush (-3), 2) := by decide +kernel
theorem dL_law_147 : decode cL_law 147 = .ok (.if_icmp .ne 34, 3) := by decide +kernel
theorem dL_law_150 : decode cL_law 150 = .ok (.aload_n 1, 1) := by decide +kernel
theorem dL_law_151 : decode cL_law 151 = .ok (.iconst 1, 1) := by decide +kernel
theorem dL_law_152 : decode cL_law 152 = .ok (.bipush 16, 2) := by decide +kernel
theorem dL_law_154 : decode cL_law 154 = .ok (.invokestatic 176, 3) := by decide +kernel
theorem dL_law_157 : decode cL_law 157 = .ok (.ifCond .eq 24, 3) := by decide +kernel
theorem dL_law_160 : decode cL_law 160 = .ok (.aload_n 1, 1) := by decide +kernel
theorem dL_law_161 : decode cL_law 161 = .ok (.bipush 12, 2) := by decide +kernel
theorem dL_law_163 : decode cL_law 163 = .ok (.invokevirtual 81, 3) := by decide +kernel
theorem dL_law_166 : decode cL_law 166 = .ok (.bipush 8, 2) := by decide +kernel
theorem dL_law_168 : decode cL_law 168 = .ok (.if_icmp .ne 13, 3) := by decide +kernel
theorem dL_law_171 : decode cL_law 171 = .ok (.aload_n 1, 1) := by decide +kernel
theorem dL_law_172 : decode cL_law 172 = .ok (.iconst 3, 1) := by decide +kernel
theorem dL_law_173 : decode cL_law 173 = .ok (.invokevirtual 81, 3) := by decide +kernel
theorem dL_law_176 : decode cL_law 176 = .ok (.bipush 120, 2) := by decide +kernel
theorem dL_law_178 : decode cL_law 178 = .ok (.if_icmp .eq 5, 3) := by decide +kernel
theorem dL_law_181 : decode cL_law 181 = .ok (.iconst 0, 1) := by decide +kernel
theorem dL_law_182 : decode cL_law 182 = .ok (.ireturn, 1) := by decide +kernel
theorem dL_law_183 : decode cL_law 183 = .ok (.iconst 1, 1) := by decide +kernel
theorem dL_law_184 : decode cL_law 184 = .ok (.istore_n 2, 1) := by decide +kernel
theorem dL_law_185 : decode cL_law 185 = .ok (.iload_n 2, 1) := by decide +kernel
theorem dL_law_186 : decode cL_law 186 = .ok (.bipush 16, 2) := by decide +kernel
theorem dL_law_188 : decode cL_law 188 = .ok (.if_icmp .ge 23, 3) := by decide +kernel
theorem dL_law_191 : decode cL_law 191 = .ok (.aload_n 1, 1) := by decide +kernel
theorem dL_law_192 : decode cL_law 192 = .ok (.iload_n 2, 1) := by decide +kernel
theorem dL_law_193 : decode cL_law 193 = .ok (.iload_n 2, 1) := by decide +kernel
theorem dL_law_194 : decode cL_law 194 = .ok (.iconst 1, 1) := by decide +kernel
theorem dL_law_195 : decode cL_law 195 = .ok (.isub, 1) := by decide +kernel
theorem dL_law_196 : decode cL_law 196 = .ok (.invokevirtual 47, 3) := by decide +kernel
theorem dL_law_199 : decode cL_law 199 = .ok (.iload_n 2, 1) := by decide +kernel
theorem dL_law_200 : decode cL_law 200 = .ok (.if_icmp .eq 5, 3) := by decide +kernel
theorem dL_law_203 : decode cL_law 203 = .ok (.iconst 0, 1) := by decide +kernel
theorem dL_law_204 : decode cL_law 204 = .ok (.ireturn, 1) := by decide +kernel
theorem dL_law_205 : decode cL_law 205 = .ok (.iinc 2 1, 3) := by decide +kernel
theorem dL_law_208 : decode cL_law 208 = .ok (.goto (-23), 3) := by decide +kernel
theorem dL_law_211 : decode cL_law 211 = .ok (.aload_n 1, 1) := by decide +kernel
theorem dL_law_212 : decode cL_law 212 = .ok (.bipush 15, 2) := by decide +kernel
theorem dL_law_214 : decode cL_law 214 = .ok (.invokevirtual 50, 3) := by decide +kernel
theorem dL_law_217 : decode cL_law 217 = .ok (.bipush 120, 2) := by decide +kernel
theorem dL_law_219 : decode cL_law 219 = .ok (.if_icmp .ne 121, 3) := by decide +kernel
theorem dL_law_222 : decode cL_law 222 = .ok (.aload_n 1, 1) := by decide +kernel
theorem dL_law_223 : decode cL_law 223 = .ok (.invokevirtual 132, 3) := by decide +kernel
theorem dL_law_226 : decode cL_law 226 = .ok (.iconst 1, 1) := by decide +kernel
theorem dL_law_227 : decode cL_law 227 = .ok (.if_icmp .ne 113, 3) := by decide +kernel
theorem dL_law_230 : decode cL_law 230 = .ok (.aload_n 1, 1) := by decide +kernel
theorem dL_law_231 : decode cL_law 231 = .ok (.bipush 15, 2) := by decide +kernel
theorem dL_law_233 : decode cL_law 233 = .ok (.invokevirtual 138, 3) := by decide +kernel
theorem dL_law_236 : decode cL_law 236 = .ok (.ifCond .ne 104, 3) := by decide +kernel
theorem dL_law_239 : decode cL_law 239 = .ok (.aload_n 1, 1) := by decide +kernel
theorem dL_law_240 : decode cL_law 240 = .ok (.iconst 0, 1) := by decide +kernel
theorem dL_law_241 : decode cL_law 241 = .ok (.iconst 5, 1) := by decide +kernel
theorem dL_law_242 : decode cL_law 242 = .ok (.invokevirtual 87, 3) := by decide +kernel
theorem dL_law_245 : decode cL_law 245 = .ok (.bipush 16, 2) := by decide +kernel
theorem dL_law_247 : decode cL_law 247 = .ok (.if_icmp .ne 93, 3) := by decide +kernel
theorem dL_law_250 : decode cL_law 250 = .ok (.aload_n 1, 1) := by decide +kernel
theorem dL_law_251 : decode cL_law 251 = .ok (.iconst 0, 1) := by decide +kernel
theorem dL_law_252 : decode cL_law 252 = .ok (.bipush 6, 2) := by decide +kernel
theorem dL_law_254 : decode cL_law 254 = .ok (.invokevirtual 87, 3) := by decide +kernel
theorem dL_law_257 : decode cL_law 257 = .ok (.bipush 120, 2) := by decide +kernel
theorem dL_law_259 : decode cL_law 259 = .ok (.if_icmp .ne 81, 3) := by decide +kernel
theorem dL_law_262 : decode cL_law 262 = .ok (.aload_n 1, 1) := by decide +kernel
theorem dL_law_263 : decode cL_law 263 = .ok (.bipush 15, 2) := by decide +kernel
theorem dL_law_265 : decode cL_law 265 = .ok (.invokevirtual 53, 3) := by decide +kernel
theorem dL_law_268 : decode cL_law 268 = .ok (.ifCond .ne 72, 3) := by decide +kernel
theorem dL_law_271 : decode cL_law 271 = .ok (.aload_n 1, 1) := by decide +kernel
theorem dL_law_272 : decode cL_law 272 = .ok (.bipush 15, 2) := by decide +kernel
theorem dL_law_274 : decode cL_law 274 = .ok (.invokevirtual 53, 3) := by decide +kernel
theorem dL_law_277 : decode cL_law 277 = .ok (.iconst 1, 1) := by decide +kernel
theorem dL_law_278 : decode cL_law 278 = .ok (.if_icmp .ne 62, 3) := by decide +kernel
theorem dL_law_281 : decode cL_law 281 = .ok (.aload_n 1, 1) := by decide +kernel
theorem dL_law_282 : decode cL_law 282 = .ok (.iconst 0, 1) := by decide +kernel
theorem dL_law_283 : decode cL_law 283 = .ok (.invokevirtual 53, 3) := by decide +kernel
theorem dL_law_286 : decode cL_law 286 = .ok (.iconst 2, 1) := by decide +kernel
theorem dL_law_287 : decode cL_law 287 = .ok (.if_icmp .ne 53, 3) := by decide +kernel
theorem dL_law_290 : decode cL_law 290 = .ok (.aload_n 1, 1) := by decide +kernel
theorem dL_law_291 : decode cL_law 291 = .ok (.iconst 3, 1) := by decide +kernel
theorem dL_law_292 : decode cL_law 292 = .ok (.invokevirtual 53, 3) := by decide +kernel
theorem dL_law_295 : decode cL_law 295 = .ok (.bipush (-3), 2) := by decide +kernel
theorem dL_law_297 : decode cL_law 297 = .ok (.if_icmp .ne 43, 3) := by decide +kernel
theorem dL_law_300 : decode cL_law 300 = .ok (.aload_n 1, 1) := by decide +kernel
theorem dL_law_301 : decode cL_law 301 = .ok (.iconst 1, 1) := by decide +kernel
theorem dL_law_302 : decode cL_law 302 = .ok (.iconst 3, 1) := by decide +kernel
theorem dL_law_303 : decode cL_law 303 = .ok (.invokestatic 176, 3) := by decide +kernel
theorem dL_law_306 : decode cL_law 306 = .ok (.ifCond .eq 34, 3) := by decide +kernel
theorem dL_law_309 : decode cL_law 309 = .ok (.aload_n 1, 1) := by decide +kernel
theorem dL_law_310 : decode cL_law 310 = .ok (.invokevirtual 144, 3) := by decide +kernel
theorem dL_law_313 : decode cL_law 313 = .ok (.iconst 1, 1) := by decide +kernel
theorem dL_law_314 : decode cL_law 314 = .ok (.if_icmp .ne 26, 3) := by decide +kernel
theorem dL_law_317 : decode cL_law 317 = .ok (.aload_n 1, 1) := by decide +kernel
theorem dL_law_318 : decode cL_law 318 = .ok (.iconst 1, 1) := by decide +kernel
theorem dL_law_319 : decode cL_law 319 = .ok (.iconst 0, 1) := by decide +kernel
theorem dL_law_320 : decode cL_law 320 = .ok (.invokevirtual 126, 3) := by decide +kernel
theorem dL_law_323 : decode cL_law 323 = .ok (.bipush 14, 2) := by decide +kernel
theorem dL_law_325 : decode cL_law 325 = .ok (.if_icmp .ne 15, 3) := by decide +kernel
theorem dL_law_328 : decode cL_law 328 = .ok (.aload_n 1, 1) := by decide +kernel
theorem dL_law_329 : decode cL_law 329 = .ok (.bipush 14, 2) := by decide +kernel
theorem dL_law_331 : decode cL_law 331 = .ok (.bipush 6, 2) := by decide +kernel
theorem dL_law_333 : decode cL_law 333 = .ok (.invokevirtual 84, 3) := by decide +kernel
theorem dL_law_336 : decode cL_law 336 = .ok (.iconst 2, 1) := by decide +kernel
theorem dL_law_337 : decode cL_law 337 = .ok (.if_icmp .eq 5, 3) := by decide +kernel
theorem dL_law_340 : decode cL_law 340 = .ok (.iconst 0, 1) := by decide +kernel
theorem dL_law_341 : decode cL_law 341 = .ok (.ireturn, 1) := by decide +kernel
theorem dL_law_342 : decode cL_law 342 = .ok (.aload_n 1, 1) := by decide +kernel
theorem dL_law_343 : decode cL_law 343 = .ok (.invokevirtual 194, 3) := by decide +kernel
theorem dL_law_346 : decode cL_law 346 = .ok (.bipush 7, 2) := by decide +kernel
theorem dL_law_348 : decode cL_law 348 = .ok (.if_icmp .ne 153, 3) := by decide +kernel
theorem dL_law_351 : decode cL_law 351 = .ok (.aload_n 1, 1) := by decide +kernel
theorem dL_law_352 : decode cL_law 352 = .ok (.iconst 2, 1) := by decide +kernel
theorem dL_law_353 : decode cL_law 353 = .ok (.iconst 3, 1) := by decide +kernel
theorem dL_law_354 : decode cL_law 354 = .ok (.invokevirtual 126, 3) := by decide +kernel
theorem dL_law_357 : decode cL_law 357 = .ok (.ifCond .ne 144, 3) := by decide +kernel
theorem dL_law_360 : decode cL_law 360 = .ok (.aload_n 1, 1) := by decide +kernel
theorem dL_law_361 : decode cL_law 361 = .ok (.invokevirtual 194, 3) := by decide +kernel
theorem dL_law_364 : decode cL_law 364 = .ok (.bipush 6, 2) := by decide +kernel
theorem dL_law_366 : decode cL_law 366 = .ok (.if_icmp .ne 135, 3) := by decide +kernel
theorem dL_law_369 : decode cL_law 369 = .ok (.aload_n 1, 1) := by decide +kernel
theorem dL_law_370 : decode cL_law 370 = .ok (.iconst 2, 1) := by decide +kernel
theorem dL_law_371 : decode cL_law 371 = .ok (.iconst 0, 1) := by decide +kernel
theorem dL_law_372 : decode cL_law 372 = .ok (.invokevirtual 126, 3) := by decide +kernel
theorem dL_law_375 : decode cL_law 375 = .ok (.iconst (-1), 1) := by decide +kernel
theorem dL_law_376 : decode cL_law 376 = .ok (.if_icmp .ne 125, 3) := by decide +kernel
theorem dL_law_379 : decode cL_law 379 = .ok (.aload_n 1, 1) := by decide +kernel
theorem dL_law_380 : decode cL_law 380 = .ok (.invokevirtual 194, 3) := by decide +kernel
theorem dL_law_383 : decode cL_law 383 = .ok (.iconst 5, 1) := by decide +kernel
theorem dL_law_384 : decode cL_law 384 = .ok (.if_icmp .ne 117, 3) := by decide +kernel
theorem dL_law_387 : decode cL_law 387 = .ok (.aload_n 1, 1) := by decide +kernel
theorem dL_law_388 : decode cL_law 388 = .ok (.invokevirtual 194, 3) := by decide +kernel
theorem dL_law_391 : decode cL_law 391 = .ok (.iconst 4, 1) := by decide +kernel
theorem dL_law_392 : decode cL_law 392 = .ok (.if_icmp .ne 109, 3) := by decide +kernel
theorem dL_law_395 : decode cL_law 395 = .ok (.aload_n 1, 1) := by decide +kernel
theorem dL_law_396 : decode cL_law 396 = .ok (.iconst 0, 1) := by decide +kernel
theorem dL_law_397 : decode cL_law 397 = .ok (.iconst 5, 1) := by decide +kernel
theorem dL_law_398 : decode cL_law 398 = .ok (.invokevirtual 87, 3) := by decide +kernel
theorem dL_law_401 : decode cL_law 401 = .ok (.bipush 16, 2) := by decide +kernel
theorem dL_law_403 : decode cL_law 403 = .ok (.if_icmp .ne 98, 3) := by decide +kernel
theorem dL_law_406 : decode cL_law 406 = .ok (.aload_n 1, 1) := by decide +kernel
theorem dL_law_407 : decode cL_law 407 = .ok (.invokevirtual 194, 3) := by decide +kernel
theorem dL_law_410 : decode cL_law 410 = .ok (.iconst 3, 1) := by decide +kernel
theorem dL_law_411 : decode cL_law 411 = .ok (.if_icmp .ne 90, 3) := by decide +kernel
theorem dL_law_414 : decode cL_law 414 = .ok (.aload_n 1, 1) := by decide +kernel
theorem dL_law_415 : decode cL_law 415 = .ok (.bipush 15, 2) := by decide +kernel
theorem dL_law_417 : decode cL_law 417 = .ok (.iconst 2, 1) := by decide +kernel
theorem dL_law_418 : decode cL_law 418 = .ok (.invokevirtual 87, 3) := by decide +kernel
theorem dL_law_421 : decode cL_law 421 = .ok (.bipush (-4), 2) := by decide +kernel
theorem dL_law_423 : decode cL_law 423 = .ok (.if_icmp .ne 78, 3) := by decide +kernel
theorem dL_law_426 : decode cL_law 426 = .ok (.aload_n 1, 1) := by decide +kernel
theorem dL_law_427 : decode cL_law 427 = .ok (.invokevirtual 194, 3) := by decide +kernel
theorem dL_law_430 : decode cL_law 430 = .ok (.iconst 2, 1) := by decide +kernel
theorem dL_law_431 : decode cL_law 431 = .ok (.if_icmp .ne 70, 3) := by decide +kernel
theorem dL_law_434 : decode cL_law 434 = .ok (.aload_n 1, 1) := by decide +kernel
theorem dL_law_435 : decode cL_law 435 = .ok (.invokevirtual 132, 3) := by decide +kernel
theorem dL_law_438 : decode cL_law 438 = .ok (.iconst 2, 1) := by decide +kernel
theorem dL_law_439 : decode cL_law 439 = .ok (.if_icmp .ne 62, 3) := by decide +kernel
theorem dL_law_442 : decode cL_law 442 = .ok (.aload_n 1, 1) := by decide +kernel
theorem dL_law_443 : decode cL_law 443 = .ok (.invokevirtual 194, 3) := by decide +kernel
theorem dL_law_446 : decode cL_law 446 = .ok (.iconst 1, 1) := by decide +kernel
theorem dL_law_447 : decode cL_law 447 = .ok (.if_icmp .ne 54, 3) := by decide +kernel
theorem dL_law_450 : decode cL_law 450 = .ok (.aload_n 1, 1) := by decide +kernel
theorem dL_law_451 : decode cL_law 451 = .ok (.bipush 15, 2) := by decide +kernel
theorem dL_law_453 : decode cL_law 453 = .ok (.iconst 1, 1) := by decide +kernel
theorem dL_law_454 : decode cL_law 454 = .ok (.invokevirtual 84, 3) := by decide +kernel
theorem dL_law_457 : decode cL_law 457 = .ok (.bipush (-4), 2) := by decide +kernel
theorem dL_law_459 : decode cL_law 459 = .ok (.if_icmp .ne 42, 3) := by decide +kernel
theorem dL_law_462 : decode cL_law 462 = .ok (.aload_n 1, 1) := by decide +kernel
theorem dL_law_463 : decode cL_law 463 = .ok (.invokevirtual 194, 3) := by decide +kernel
theorem dL_law_466 : decode cL_law 466 = .ok (.ifCond .ne 35, 3) := by decide +kernel
theorem dL_law_469 : decode cL_law 469 = .ok (.aload_n 1, 1) := by decide +kernel
theorem dL_law_470 : decode cL_law 470 = .ok (.bipush 14, 2) := by decide +kernel
theorem dL_law_472 : decode cL_law 472 = .ok (.iconst 1, 1) := by decide +kernel
theorem dL_law_473 : decode cL_law 473 = .ok (.invokevirtual 84, 3) := by decide +kernel
theorem dL_law_476 : decode cL_law 476 = .ok (.bipush (-4), 2) := by decide +kernel
theorem dL_law_478 : decode cL_law 478 = .ok (.if_icmp .ne 23, 3) := by decide +kernel
theorem dL_law_481 : decode cL_law 481 = .ok (.aload_n 1, 1) := by decide +kernel
theorem dL_law_482 : decode cL_law 482 = .ok (.bipush 6, 2) := by decide +kernel
theorem dL_law_484 : decode cL_law 484 = .ok (.invokevirtual 81, 3) := by decide +kernel
theorem dL_law_487 : decode cL_law 487 = .ok (.bipush 13, 2) := by decide +kernel
theorem dL_law_489 : decode cL_law 489 = .ok (.if_icmp .ne 12, 3) := by decide +kernel
theorem dL_law_492 : decode cL_law 492 = .ok (.aload_n 1, 1) := by decide +kernel
theorem dL_law_493 : decode cL_law 493 = .ok (.invokevirtual 194, 3) := by decide +kernel
theorem dL_law_496 : decode cL_law 496 = .ok (.bipush (-4), 2) := by decide +kernel
theorem dL_law_498 : decode cL_law 498 = .ok (.if_icmp .eq 5, 3) := by decide +kernel
theorem dL_law_501 : decode cL_law 501 = .ok (.iconst 0, 1) := by decide +kernel
theorem dL_law_502 : decode cL_law 502 = .ok (.ireturn, 1) := by decide +kernel
theorem dL_law_503 : decode cL_law 503 = .ok (.aload_n 1, 1) := by decide +kernel
theorem dL_law_504 : decode cL_law 504 = .ok (.invokevirtual 197, 3) := by decide +kernel
theorem dL_law_507 : decode cL_law 507 = .ok (.ifCond .ne 20, 3) := by decide +kernel
theorem dL_law_510 : decode cL_law 510 = .ok (.aload_n 1, 1) := by decide +kernel
theorem dL_law_511 : decode cL_law 511 = .ok (.iconst 0, 1) := by decide +kernel
theorem dL_law_512 : decode cL_law 512 = .ok (.invokevirtual 81, 3) := by decide +kernel
theorem dL_law_515 : decode cL_law 515 = .ok (.ifCond .ne 12, 3) := by decide +kernel
theorem dL_law_518 : decode cL_law 518 = .ok (.aload_n 1, 1) := by decide +kernel
theorem dL_law_519 : decode cL_law 519 = .ok (.invokevirtual 194, 3) := by decide +kernel
theorem dL_law_522 : decode cL_law 522 = .ok (.bipush (-4), 2) := by decide +kernel
theorem dL_law_524 : decode cL_law 524 = .ok (.if_icmp .eq 5, 3) := by decide +kernel
theorem dL_law_527 : decode cL_law 527 = .ok (.iconst 0, 1) := by decide +kernel
theorem dL_law_528 : decode cL_law 528 = .ok (.ireturn, 1) := by decide +kernel
theorem dL_law_529 : decode cL_law 529 = .ok (.new 18, 3) := by decide +kernel
theorem dL_law_532 : decode cL_law 532 = .ok (.dup, 1) := by decide +kernel
theorem dL_law_533 : decode cL_law 533 = .ok (.invokespecial 193, 3) := by decide +kernel
theorem dL_law_536 : decode cL_law 536 = .ok (.astore_n 2, 1) := by decide +kernel
theorem dL_law_537 : decode cL_law 537 = .ok (.aload_n 2, 1) := by decide +kernel
theorem dL_law_538 : decode cL_law 538 = .ok (.aload_n 0, 1) := by decide +kernel
theorem dL_law_539 : decode cL_law 539 = .ok (.invokestatic 203, 3) := by decide +kernel
theorem dL_law_542 : decode cL_law 542 = .ok (.ifCond .ne 5, 3) := by decide +kernel
theorem dL_law_545 : decode cL_law 545 = .ok (.iconst 0, 1) := by decide +kernel
theorem dL_law_546 : decode cL_law 546 = .ok (.ireturn, 1) := by decide +kernel
theorem dL_law_547 : decode cL_law 547 = .ok (.aload_n 2, 1) := by decide +kernel
theorem dL_law_548 : decode cL_law 548 = .ok (.invokestatic 172, 3) := by decide +kernel
theorem dL_law_551 : decode cL_law 551 = .ok (.lstore_n 3, 1) := by decide +kernel
theorem dL_law_552 : decode cL_law 552 = .ok (.aload_n 2, 1) := by decide +kernel
theorem dL_law_553 : decode cL_law 553 = .ok (.invokestatic 172, 3) := by decide +kernel
theorem dL_law_556 : decode cL_law 556 = .ok (.lload_n 3, 1) := by decide +kernel
theorem dL_law_557 : decode cL_law 557 = .ok (.lcmp, 1) := by decide +kernel
theorem dL_law_558 : decode cL_law 558 = .ok (.ifCond .ne 10, 3) := by decide +kernel
theorem dL_law_561 : decode cL_law 561 = .ok (.aload_n 2, 1) := by decide +kernel
theorem dL_law_562 : decode cL_law 562 = .ok (.invokestatic 207, 3) := by decide +kernel
theorem dL_law_565 : decode cL_law 565 = .ok (.ifCond .ne 5, 3) := by decide +kernel
theorem dL_law_568 : decode cL_law 568 = .ok (.iconst 0, 1) := by decide +kernel
theorem dL_law_569 : decode cL_law 569 = .ok (.ireturn, 1) := by decide +kernel
theorem dL_law_570 : decode cL_law 570 = .ok (.aload_n 2, 1) := by decide +kernel
theorem dL_law_571 : decode cL_law 571 = .ok (.invokevirtual 200, 3) := by decide +kernel
theorem dL_law_574 : decode cL_law 574 = .ok (.istore 5, 2) := by decide +kernel
theorem dL_law_576 : decode cL_law 576 = .ok (.iload 5, 2) := by decide +kernel
theorem dL_law_578 : decode cL_law 578 = .ok (.aload_n 2, 1) := by decide +kernel
theorem dL_law_579 : decode cL_law 579 = .ok (.iconst 0, 1) := by decide +kernel
theorem dL_law_580 : decode cL_law 580 = .ok (.invokevirtual 81, 3) := by decide +kernel
theorem dL_law_583 : decode cL_law 583 = .ok (.if_icmp .ne 12, 3) := by decide +kernel
theorem dL_law_586 : decode cL_law 586 = .ok (.aload_n 2, 1) := by decide +kernel
theorem dL_law_587 : decode cL_law 587 = .ok (.invokestatic 172, 3) := by decide +kernel
theorem dL_law_590 : decode cL_law 590 = .ok (.lload_n 3, 1) := by decide +kernel
theorem dL_law_591 : decode cL_law 591 = .ok (.lcmp, 1) := by decide +kernel
theorem dL_law_592 : decode cL_law 592 = .ok (.ifCond .eq 5, 3) := by decide +kernel
theorem dL_law_595 : decode cL_law 595 = .ok (.iconst 0, 1) := by decide +kernel
theorem dL_law_596 : decode cL_law 596 = .ok (.ireturn, 1) := by decide +kernel
theorem dL_law_597 : decode cL_law 597 = .ok (.bipush 11, 2) := by decide +kernel
theorem dL_law_599 : decode cL_law 599 = .ok (.newarray .long, 2) := by decide +kernel
theorem dL_law_601 : decode cL_law 601 = .ok (.astore 6, 2) := by decide +kernel
theorem dL_law_603 : decode cL_law 603 = .ok (.iconst 0, 1) := by decide +kernel
theorem dL_law_604 : decode cL_law 604 = .ok (.istore 7, 2) := by decide +kernel
theorem dL_law_606 : decode cL_law 606 = .ok (.iconst 0, 1) := by decide +kernel
theorem dL_law_607 : decode cL_law 607 = .ok (.istore 8, 2) := by decide +kernel
theorem dL_law_609 : decode cL_law 609 = .ok (.iload 8, 2) := by decide +kernel
theorem dL_law_611 : decode cL_law 611 = .ok (.bipush 10, 2) := by decide +kernel
theorem dL_law_613 : decode cL_law 613 = .ok (.if_icmp .ge 63, 3) := by decide +kernel
theorem dL_law_616 : decode cL_law 616 = .ok (.aload_n 2, 1) := by decide +kernel
theorem dL_law_617 : decode cL_law 617 = .ok (.invokestatic 172, 3) := by decide +kernel
theorem dL_law_620 : decode cL_law 620 = .ok (.lstore 9, 2) := by decide +kernel
theorem dL_law_622 : decode cL_law 622 = .ok (.aload_n 2, 1) := by decide +kernel
theorem dL_law_623 : decode cL_law 623 = .ok (.aload_n 0, 1) := by decide +kernel
theorem dL_law_624 : decode cL_law 624 = .ok (.bipush 20, 2) := by decide +kernel
theorem dL_law_626 : decode cL_law 626 = .ok (.iload 8, 2) := by decide +kernel
theorem dL_law_628 : decode cL_law 628 = .ok (.iadd, 1) := by decide +kernel
theorem dL_law_629 : decode cL_law 629 = .ok (.invokestatic 34, 3) := by decide +kernel
theorem dL_law_632 : decode cL_law 632 = .ok (.iload 8, 2) := by decide +kernel
theorem dL_law_634 : decode cL_law 634 = .ok (.sipush 977, 3) := by decide +kernel
theorem dL_law_637 : decode cL_law 637 = .ok (.imul, 1) := by decide +kernel
theorem dL_law_638 : decode cL_law 638 = .ok (.ixor, 1) := by decide +kernel
theorem dL_law_639 : decode cL_law 639 = .ok (.invokestatic 211, 3) := by decide +kernel
theorem dL_law_642 : decode cL_law 642 = .ok (.ifCond .eq 16, 3) := by decide +kernel
theorem dL_law_645 : decode cL_law 645 = .ok (.aload 6, 2) := by decide +kernel
theorem dL_law_647 : decode cL_law 647 = .ok (.iload 7, 2) := by decide +kernel
theorem dL_law_649 : decode cL_law 649 = .ok (.iinc 7 1, 3) := by decide +kernel
theorem dL_law_652 : decode cL_law 652 = .ok (.lload 9, 2) := by decide +kernel
theorem dL_law_654 : decode cL_law 654 = .ok (.lastore, 1) := by decide +kernel
theorem dL_law_655 : decode cL_law 655 = .ok (.goto 15, 3) := by decide +kernel
theorem dL_law_658 : decode cL_law 658 = .ok (.aload_n 2, 1) := by decide +kernel
theorem dL_law_659 : decode cL_law 659 = .ok (.invokestatic 172, 3) := by decide +kernel
theorem dL_law_662 : decode cL_law 662 = .ok (.lload 9, 2) := by decide +kernel
theorem dL_law_664 : decode cL_law 664 = .ok (.lcmp, 1) := by decide +kernel
theorem dL_law_665 : decode cL_law 665 = .ok (.ifCond .eq 5, 3) := by decide +kernel
theorem dL_law_668 : decode cL_law 668 = .ok (.iconst 0, 1) := by decide +kernel
theorem dL_law_669 : decode cL_law 669 = .ok (.ireturn, 1) := by decide +kernel
theorem dL_law_670 : decode cL_law 670 = .ok (.iinc 8 1, 3) := by decide +kernel
theorem dL_law_673 : decode cL_law 673 = .ok (.goto (-64), 3) := by decide +kernel
theorem dL_law_676 : decode cL_law 676 = .ok (.bipush 8, 2) := by decide +kernel
theorem dL_law_678 : decode cL_law 678 = .ok (.iload 7, 2) := by decide +kernel
theorem dL_law_680 : decode cL_law 680 = .ok (.invokestatic 215, 3) := by decide +kernel
theorem dL_law_683 : decode cL_law 683 = .ok (.istore 8, 2) := by decide +kernel
theorem dL_law_685 : decode cL_law 685 = .ok (.iconst 1, 1) := by decide +kernel
theorem dL_law_686 : decode cL_law 686 = .ok (.istore 9, 2) := by decide +kernel
theorem dL_law_688 : decode cL_law 688 = .ok (.iload 9, 2) := by decide +kernel
theorem dL_law_690 : decode cL_law 690 = .ok (.iload 8, 2) := by decide +kernel
theorem dL_law_692 : decode cL_law 692 = .ok (.if_icmp .gt 53, 3) := by decide +kernel
theorem dL_law_695 : decode cL_law 695 = .ok (.aload_n 2, 1) := by decide +kernel
theorem dL_law_696 : decode cL_law 696 = .ok (.invokevirtual 194, 3) := by decide +kernel
theorem dL_law_699 : decode cL_law 699 = .ok (.istore 10, 2) := by decide +kernel
theorem dL_law_701 : decode cL_law 701 = .ok (.iload 10, 2) := by decide +kernel
theorem dL_law_703 : decode cL_law 703 = .ok (.iload 8, 2) := by decide +kernel
theorem dL_law_705 : decode cL_law 705 = .ok (.iload 9, 2) := by decide +kernel
theorem dL_law_707 : decode cL_law 707 = .ok (.isub, 1) := by decide +kernel
theorem dL_law_708 : decode cL_law 708 = .ok (.if_icmp .lt 29, 3) := by decide +kernel
theorem dL_law_711 : decode cL_law 711 = .ok (.iload 10, 2) := by decide +kernel
theorem dL_law_713 : decode cL_law 713 = .ok (.bipush 8, 2) := by decide +kernel
theorem dL_law_715 : decode cL_law 715 = .ok (.iload 9, 2) := by decide +kernel
theorem dL_law_717 : decode cL_law 717 = .ok (.isub, 1) := by decide +kernel
theorem dL_law_718 : decode cL_law 718 = .ok (.if_icmp .gt 19, 3) := by decide +kernel
theorem dL_law_721 : decode cL_law 721 = .ok (.aload_n 2, 1) := by decide +kernel
theorem dL_law_722 : decode cL_law 722 = .ok (.invokestatic 172, 3) := by decide +kernel
theorem dL_law_725 : decode cL_law 725 = .ok (.aload 6, 2) := by decide +kernel
theorem dL_law_727 : decode cL_law 727 = .ok (.iload 7, 2) := by decide +kernel
theorem dL_law_729 : decode cL_law 729 = .ok (.iload 9, 2) := by decide +kernel
theorem dL_law_731 : decode cL_law 731 = .ok (.isub, 1) := by decide +kernel
theorem dL_law_732 : decode cL_law 732 = .ok (.laload, 1) := by decide +kernel
theorem dL_law_733 : decode cL_law 733 = .ok (.lcmp, 1) := by decide +kernel
theorem dL_law_734 : decode cL_law 734 = .ok (.ifCond .eq 5, 3) := by decide +kernel
theorem dL_law_737 : decode cL_law 737 = .ok (.iconst 0, 1) := by decide +kernel
theorem dL_law_738 : decode cL_law 738 = .ok (.ireturn, 1) := by decide +kernel
theorem dL_law_739 : decode cL_law 739 = .ok (.iinc 9 1, 3) := by decide +kernel
theorem dL_law_742 : decode cL_law 742 = .ok (.goto (-54), 3) := by decide +kernel
theorem dL_law_745 : decode cL_law 745 = .ok (.aload_n 2, 1) := by decide +kernel
theorem dL_law_746 : decode cL_law 746 = .ok (.invokevirtual 197, 3) := by decide +kernel
theorem dL_law_749 : decode cL_law 749 = .ok (.iload 5, 2) := by decide +kernel
theorem dL_law_751 : decode cL_law 751 = .ok (.if_icmp .ne 43, 3) := by decide +kernel
theorem dL_law_754 : decode cL_law 754 = .ok (.aload_n 2, 1) := by decide +kernel
theorem dL_law_755 : decode cL_law 755 = .ok (.invokevirtual 194, 3) := by decide +kernel
theorem dL_law_758 : decode cL_law 758 = .ok (.bipush (-4), 2) := by decide +kernel
theorem dL_law_760 : decode cL_law 760 = .ok (.if_icmp .ne 34, 3) := by decide +kernel
theorem dL_law_763 : decode cL_law 763 = .ok (.aload_n 2, 1) := by decide +kernel
theorem dL_law_764 : decode cL_law 764 = .ok (.invokestatic 172, 3) := by decide +kernel
theorem dL_law_767 : decode cL_law 767 = .ok (.lload_n 3, 1) := by decide +kernel
theorem dL_law_768 : decode cL_law 768 = .ok (.lcmp, 1) := by decide +kernel
theorem dL_law_769 : decode cL_law 769 = .ok (.ifCond .ne 25, 3) := by decide +kernel
theorem dL_law_772 : decode cL_law 772 = .ok (.aload_n 2, 1) := by decide +kernel
theorem dL_law_773 : decode cL_law 773 = .ok (.invokevirtual 197, 3) := by decide +kernel
theorem dL_law_776 : decode cL_law 776 = .ok (.iload 5, 2) := by decide +kernel
theorem dL_law_778 : decode cL_law 778 = .ok (.if_icmp .ne 16, 3) := by decide +kernel
theorem dL_law_781 : decode cL_law 781 = .ok (.aload_n 2, 1) := by decide +kernel
theorem dL_law_782 : decode cL_law 782 = .ok (.invokestatic 172, 3) := by decide +kernel
theorem dL_law_785 : decode cL_law 785 = .ok (.lload_n 3, 1) := by decide +kernel
theorem dL_law_786 : decode cL_law 786 = .ok (.lcmp, 1) := by decide +kernel
theorem dL_law_787 : decode cL_law 787 = .ok (.ifCond .ne 7, 3) := by decide +kernel
theorem dL_law_790 : decode cL_law 790 = .ok (.iconst 1, 1) := by decide +kernel
theorem dL_law_791 : decode cL_law 791 = .ok (.goto 4, 3) := by decide +kernel
theorem dL_law_794 : decode cL_law 794 = .ok (.iconst 0, 1) := by decide +kernel
theorem dL_law_795 : decode cL_law 795 = .ok (.ireturn, 1) := by decide +kernel
theorem e_restore {f : Int32 × Int32} {q qk : qQV} {h : qHV} (hf : ¬ f.2 = 0) : s_X10_restore f q qk h = (qk.1.2.2, qk, s_X2_forget h) := by
  unfold s_X10_restore
  rw [if_neg hf, s_X5_takeOver_eq]
theorem n_restore {f : Int32 × Int32} {q qk : qQV} {h : qHV} (hf : f.2 = 0) : s_X10_restore f q qk h = (-4, q, h) := by
  unfold s_X10_restore
  rw [if_pos hf]
theorem e_save {f : Int32 × Int32} {q qk : qQV} : s_X10_save f q qk = (q.1.2.2, (f.1, 1), q) := rfl
theorem nI_p1 (j : Nat) : nI (j + 1) - 1 = nI j := by
  rw [nI_succ]
  exact Int32.add_sub_cancel _ _
theorem min_s (k : Nat) : min (min k 8 + 1) 8 = min (k + 1) 8 := by omega
theorem wx_cX : Cond.classLink RL 18 RX10 ∈ qG := (qT1_in 25 (by decide +kernel) rfl)
theorem q_goNc {p : Program} {l : Launch} {e : Env} {R : Room} {s : State} {m : MethodId} {args : Array Value} {below : List Frame} {meth : Method} {c : Code} {H : Heap} {locs : List Loc} {cells slots mc ms : Nat} {Q : State → Prop} {pc : Nat} {ls : Array Slot} {rest st0 : List Value} {D : va_G} {M0 M : qM} {N N2 : Nat} {P : qM → Prop} {av : Array Value}
    (hr : va_Run p l e R s m args below meth c H locs cells slots mc ms (F0 m pc ls st0) rest (qQ D M N (qMod N2 none P) av) (qA M N)) (hI : qI D M0 s.heap M N H locs)
    (kk : ∀ (M' : qM) (H1 : Heap) (locs1 : List Loc), P M' → qI D M0 s.heap M' N2 H1 locs1 → W p l e R s m args below meth c H1 locs1 (cells + mc) (slots + ms) Q (F0 m (pc + 3) ls rest)) : W p l e R s m args below meth c H locs cells slots Q (F0 m pc ls st0) :=
  q_go hr hI (fun r M' N' H1 locs1 hp hI1 => by
    obtain ⟨rfl, hp, rfl⟩ := hp
    exact kk M' H1 locs1 hp hI1)
set_option maxHeartbeats 1600000 in
set_option maxRecDepth 20000 in
theorem law_e {p : Program} {l : Launch} {e : Env} {s : State} {m : MethodId} {below : List Frame} {meth : Method} {c : Code} {b : Nat} {Z : State → Prop} {D : va_G} {cs : qC} (hx : p.tables.exec = Jvm.exec) (hb : c.code = code) (hml : c.maxLocals = 11) (hown : s.vm.findClass RL = some m.cls) (hg : ∀ w ∈ qG, w.before #[Value.ref b] s = true) (hK : qK D cs s) (hP : jX s.heap.size cs s s.heap)
    {M0 M : qM} {N : Nat} (hd : qDom s.heap.size M0 s.heap.size) {H : Heap} {locs : List Loc} {ls : Array Slot} (hI : qI D M0 s.heap M N H locs) (hl : lv_has ls 11 [(0, .ref b)])
    (K : ∀ (M : qM) (H : Heap) (locs : List Loc) (ls : Array Slot), qI D M0 s.heap M (N + 167) H locs → lv_has ls 11 [(0, .ref b)] → W p l e room_1 s m #[Value.ref b] below meth c H locs 167 1648 Z (F0 m 529 ls [])) :
    W p l e room_1 s m #[Value.ref b] below meth c H locs 0 0 Z (F0 m 0 ls []) := by
  have t211 : ∀ (h : qHV) (Q : List qQV) (M : qM) (H : Heap) (locs : List Loc) (ls : Array Slot), HI h (eHs 16 ++ Q) 8 → qLX cs M N (0, 1) → qLQ cs M (N + 1) (eS 0) → qLQ cs M (N + 14) qQ0 → qLH cs M (N + 40) h → qLI cs M (N + 159) eI → qLR cs M (N + 166) r16 → qI D M0 s.heap M (N + 167) H locs → lv_has ls 11 [(2, .int (nI 16)), (1, .ref N), (0, .ref b)] → W p l e room_1 s m #[Value.ref b] below meth c H locs 167 1648 Z (F0 m 211 ls []) := by
    intro h Q M H locs ls hH wX wQ wK wH wI wR hI hl
    refine lv_aload_n hx hb dL_law_211 rfl (lv_at hl 1 rfl) ?_
    refine lv_bipush (v := 15) hx hb dL_law_212 (by decide) ?_
    obtain ⟨h1, eh1, hH1⟩ : ∃ z, s_X2_keepDraft (s_X2_draft h (eS 0)) = z ∧ HI z (eS 0 :: (eHs 16 ++ Q)) 8 := ⟨_, rfl, hH.keep _⟩
    refine q_goP (q_runV (As := [.int 15]) (rest := []) hx hb hml hown hg (c_X10_walk l D cs wX wQ wH 15) v_X10_walk wl_L_50 rfl rfl ⟨Nat.le_of_ble_eq_true rfl, Nat.le_of_ble_eq_true rfl⟩ hI hK 10 wX rfl hl.1 rfl rfl (Nat.le_of_ble_eq_true rfl) dL_law_214 ⟨Nat.le_of_ble_eq_true rfl, Nat.le_of_ble_eq_true rfl⟩) hI (fun M101 H locs hp hI => ?_)
    rw [ok_walk eS_0 (by decide), eh1] at hp ⊢
    obtain ⟨z0, z1, hF⟩ := hp
    replace wQ : qLQ cs M101 (N + 1) (eS 1) := z0
    replace wH : qLH cs M101 (N + 40) h1 := z1
    replace wX := wX.fr hF (fun z h1 h2 hz => by omega)
    replace wK := wK.fr hF (fun z h1 h2 hz => by omega)
    replace wI := wI.fr hF (fun z h1 h2 hz => by omega)
    replace wR := wR.fr hF (fun z h1 h2 hz => by omega)
    refine lv_bipush (v := 120) hx hb dL_law_217 (by decide) ?_
    refine lv_icmp_ne (tgt := 340) hx hb dL_law_219 (by decide) (fun h9 => absurd rfl h9) (fun h9 => ?_)
    refine lv_aload_n hx hb dL_law_222 rfl (lv_at hl 1 rfl) ?_
    refine q_goR (q_runV (As := []) (rest := []) hx hb hml hown hg (c_X10_ropes l D cs wX wQ) v_X10_ropes wl_L_132 rfl rfl ⟨Nat.le_of_ble_eq_true rfl, Nat.le_of_ble_eq_true rfl⟩ hI hK 10 wX rfl hl.1 rfl rfl (Nat.le_of_ble_eq_true rfl) dL_law_223 ⟨Nat.le_of_ble_eq_true rfl, Nat.le_of_ble_eq_true rfl⟩) hI (fun H locs hI => ?_)
    rw [show s_X10_ropes (0, 1) (eS 1) = 1 from eq_ropes1]
    refine lv_iconst (v := 1) hx hb dL_law_226 (by decide) ?_
    refine lv_icmp_ne (tgt := 340) hx hb dL_law_227 (by decide) (fun h9 => absurd rfl h9) (fun h9 => ?_)
    refine lv_aload_n hx hb dL_law_230 rfl (lv_at hl 1 rfl) ?_
    refine lv_bipush (v := 15) hx hb dL_law_231 (by decide) ?_
    obtain ⟨h2, eh2, hH2⟩ : ∃ z, s_X2_keepDraft (s_X2_draft h1 (eS 1)) = z ∧ HI z (eS 1 :: (eS 0 :: (eHs 16 ++ Q))) 8 := ⟨_, rfl, hH1.keep _⟩
    refine q_goP (q_runV (As := [.int 15]) (rest := []) hx hb hml hown hg (c_X10_up l D cs wX wQ wH 15) v_X10_up wl_L_138 rfl rfl ⟨Nat.le_of_ble_eq_true rfl, Nat.le_of_ble_eq_true rfl⟩ hI hK 10 wX rfl hl.1 rfl rfl (Nat.le_of_ble_eq_true rfl) dL_law_233 ⟨Nat.le_of_ble_eq_true rfl, Nat.le_of_ble_eq_true rfl⟩) hI (fun M102 H locs hp hI => ?_)
    rw [ok_up eS_1 (by decide), eh2] at hp ⊢
    obtain ⟨z0, z1, hF⟩ := hp
    replace wQ : qLQ cs M102 (N + 1) (eS 2) := z0
    replace wH : qLH cs M102 (N + 40) h2 := z1
    replace wX := wX.fr hF (fun z h1 h2 hz => by omega)
    replace wK := wK.fr hF (fun z h1 h2 hz => by omega)
    replace wI := wI.fr hF (fun z h1 h2 hz => by omega)
    replace wR := wR.fr hF (fun z h1 h2 hz => by omega)
    refine lv_if_ne (tgt := 340) hx hb dL_law_236 (by decide) (fun h9 => absurd rfl h9) (fun h9 => ?_)
    refine lv_aload_n hx hb dL_law_239 rfl (lv_at hl 1 rfl) ?_
    refine lv_iconst (v := 0) hx hb dL_law_240 (by decide) ?_
    refine lv_iconst (v := 5) hx hb dL_law_241 (by decide) ?_
    refine q_goR (q_runV (As := [.int 0, .int 5]) (rest := []) hx hb hml hown hg (c_X10_treeOf l D cs wX wQ 0 5) v_X10_treeOf wl_L_87 rfl rfl ⟨Nat.le_of_ble_eq_true rfl, Nat.le_of_ble_eq_true rfl⟩ hI hK 10 wX rfl hl.1 rfl rfl (Nat.le_of_ble_eq_true rfl) dL_law_242 ⟨Nat.le_of_ble_eq_true rfl, Nat.le_of_ble_eq_true rfl⟩) hI (fun H locs hI => ?_)
    rw [eq_t1 (0, 1)]
    refine lv_bipush (v := 16) hx hb dL_law_245 (by decide) ?_
    refine lv_icmp_ne (tgt := 340) hx hb dL_law_247 (by decide) (fun h9 => absurd rfl h9) (fun h9 => ?_)
    refine lv_aload_n hx hb dL_law_250 rfl (lv_at hl 1 rfl) ?_
    refine lv_iconst (v := 0) hx hb dL_law_251 (by decide) ?_
    refine lv_bipush (v := 6) hx hb dL_law_252 (by decide) ?_
    refine q_goR (q_runV (As := [.int 0, .int 6]) (rest := []) hx hb hml hown hg (c_X10_treeOf l D cs wX wQ 0 6) v_X10_treeOf wl_L_87 rfl rfl ⟨Nat.le_of_ble_eq_true rfl, Nat.le_of_ble_eq_true rfl⟩ hI hK 10 wX rfl hl.1 rfl rfl (Nat.le_of_ble_eq_true rfl) dL_law_254 ⟨Nat.le_of_ble_eq_true rfl, Nat.le_of_ble_eq_true rfl⟩) hI (fun H locs hI => ?_)
    rw [eq_t2 (0, 1)]
    refine lv_bipush (v := 120) hx hb dL_law_257 (by decide) ?_
    refine lv_icmp_ne (tgt := 340) hx hb dL_law_259 (by decide) (fun h9 => absurd rfl h9) (fun h9 => ?_)
    refine lv_aload_n hx hb dL_law_262 rfl (lv_at hl 1 rfl) ?_
    refine lv_bipush (v := 15) hx hb dL_law_263 (by decide) ?_
    obtain ⟨h3, eh3, hH3⟩ : ∃ z, s_X2_keepDraft (s_X2_draft h2 (eS 2)) = z ∧ HI z (eS 2 :: (eS 1 :: (eS 0 :: (eHs 16 ++ Q)))) 8 := ⟨_, rfl, hH2.keep _⟩
    refine q_goP (q_runV (As := [.int 15]) (rest := []) hx hb hml hown hg (c_X10_sledge l D cs wX wQ wH wR 15) v_X10_sledge wl_L_53 rfl rfl ⟨Nat.le_of_ble_eq_true rfl, Nat.le_of_ble_eq_true rfl⟩ hI hK 10 wX rfl hl.1 rfl rfl (Nat.le_of_ble_eq_true rfl) dL_law_265 ⟨Nat.le_of_ble_eq_true rfl, Nat.le_of_ble_eq_true rfl⟩) hI (fun M103 H locs hp hI => ?_)
    rw [ok_sledge eS_2 (by decide), eh3] at hp ⊢
    obtain ⟨z0, z1, z2, hF⟩ := hp
    replace wQ : qLQ cs M103 (N + 1) (eS 3) := z0
    replace wH : qLH cs M103 (N + 40) h3 := z1
    replace wR : qLR cs M103 (N + 166) r16 := z2
    replace wX := wX.fr hF (fun z h1 h2 hz => by omega)
    replace wK := wK.fr hF (fun z h1 h2 hz => by omega)
    replace wI := wI.fr hF (fun z h1 h2 hz => by omega)
    refine lv_if_ne (tgt := 340) hx hb dL_law_268 (by decide) (fun h9 => absurd rfl h9) (fun h9 => ?_)
    refine lv_aload_n hx hb dL_law_271 rfl (lv_at hl 1 rfl) ?_
    refine lv_bipush (v := 15) hx hb dL_law_272 (by decide) ?_
    obtain ⟨h4, eh4, hH4⟩ : ∃ z, s_X2_keepDraft (s_X2_draft h3 (eS 3)) = z ∧ HI z (eS 3 :: (eS 2 :: (eS 1 :: (eS 0 :: (eHs 16 ++ Q))))) 8 := ⟨_, rfl, hH3.keep _⟩
    refine q_goP (q_runV (As := [.int 15]) (rest := []) hx hb hml hown hg (c_X10_sledge l D cs wX wQ wH wR 15) v_X10_sledge wl_L_53 rfl rfl ⟨Nat.le_of_ble_eq_true rfl, Nat.le_of_ble_eq_true rfl⟩ hI hK 10 wX rfl hl.1 rfl rfl (Nat.le_of_ble_eq_true rfl) dL_law_274 ⟨Nat.le_of_ble_eq_true rfl, Nat.le_of_ble_eq_true rfl⟩) hI (fun M104 H locs hp hI => ?_)
    rw [ok_sledge eS_3 (by decide), eh4] at hp ⊢
    obtain ⟨z0, z1, z2, hF⟩ := hp
    replace wQ : qLQ cs M104 (N + 1) (eS 4) := z0
    replace wH : qLH cs M104 (N + 40) h4 := z1
    replace wR : qLR cs M104 (N + 166) r16 := z2
    replace wX := wX.fr hF (fun z h1 h2 hz => by omega)
    replace wK := wK.fr hF (fun z h1 h2 hz => by omega)
    replace wI := wI.fr hF (fun z h1 h2 hz => by omega)
    refine lv_iconst (v := 1) hx hb dL_law_277 (by decide) ?_
    refine lv_icmp_ne (tgt := 340) hx hb dL_law_278 (by decide) (fun h9 => absurd rfl h9) (fun h9 => ?_)
    refine lv_aload_n hx hb dL_law_281 rfl (lv_at hl 1 rfl) ?_
    refine lv_iconst (v := 0) hx hb dL_law_282 (by decide) ?_
    obtain ⟨h5, eh5, hH5⟩ : ∃ z, s_X2_keepDraft (s_X2_draft h4 (eS 4)) = z ∧ HI z (eS 4 :: (eS 3 :: (eS 2 :: (eS 1 :: (eS 0 :: (eHs 16 ++ Q)))))) 8 := ⟨_, rfl, hH4.keep _⟩
    refine q_goP (q_runV (As := [.int 0]) (rest := []) hx hb hml hown hg (c_X10_sledge l D cs wX wQ wH wR 0) v_X10_sledge wl_L_53 rfl rfl ⟨Nat.le_of_ble_eq_true rfl, Nat.le_of_ble_eq_true rfl⟩ hI hK 10 wX rfl hl.1 rfl rfl (Nat.le_of_ble_eq_true rfl) dL_law_283 ⟨Nat.le_of_ble_eq_true rfl, Nat.le_of_ble_eq_true rfl⟩) hI (fun M105 H locs hp hI => ?_)
    rw [ok_sledge eS_4 (by decide), eh5] at hp ⊢
    obtain ⟨z0, z1, z2, hF⟩ := hp
    replace wQ : qLQ cs M105 (N + 1) (eS 5) := z0
    replace wH : qLH cs M105 (N + 40) h5 := z1
    replace wR : qLR cs M105 (N + 166) r16 := z2
    replace wX := wX.fr hF (fun z h1 h2 hz => by omega)
    replace wK := wK.fr hF (fun z h1 h2 hz => by omega)
    replace wI := wI.fr hF (fun z h1 h2 hz => by omega)
    refine lv_iconst (v := 2) hx hb dL_law_286 (by decide) ?_
    refine lv_icmp_ne (tgt := 340) hx hb dL_law_287 (by decide) (fun h9 => absurd rfl h9) (fun h9 => ?_)
    refine lv_aload_n hx hb dL_law_290 rfl (lv_at hl 1 rfl) ?_
    refine lv_iconst (v := 3) hx hb dL_law_291 (by decide) ?_
    obtain ⟨hd, ehd, hHd⟩ : ∃ z, s_X2_draft h5 (eS 5) = z ∧ HI z (eS 4 :: (eS 3 :: (eS 2 :: (eS 1 :: (eS 0 :: (eHs 16 ++ Q)))))) 8 := ⟨_, rfl, hH5.draft _⟩
    refine q_goP (q_runV (As := [.int 3]) (rest := []) hx hb hml hown hg (c_X10_sledge l D cs wX wQ wH wR 3) v_X10_sledge wl_L_53 rfl rfl ⟨Nat.le_of_ble_eq_true rfl, Nat.le_of_ble_eq_true rfl⟩ hI hK 10 wX rfl hl.1 rfl rfl (Nat.le_of_ble_eq_true rfl) dL_law_292 ⟨Nat.le_of_ble_eq_true rfl, Nat.le_of_ble_eq_true rfl⟩) hI (fun M106 H locs hp hI => ?_)
    rw [no_sledge eS_5 (by decide), ehd] at hp ⊢
    obtain ⟨z0, z1, z2, hF⟩ := hp
    replace wQ : qLQ cs M106 (N + 1) (eS 5) := z0
    replace wH : qLH cs M106 (N + 40) hd := z1
    replace wR : qLR cs M106 (N + 166) (1, 3, 0, 0) := z2
    replace wX := wX.fr hF (fun z h1 h2 hz => by omega)
    replace wK := wK.fr hF (fun z h1 h2 hz => by omega)
    replace wI := wI.fr hF (fun z h1 h2 hz => by omega)
    refine lv_bipush (v := (-3)) hx hb dL_law_295 (by decide) ?_
    refine lv_icmp_ne (tgt := 340) hx hb dL_law_297 (by decide) (fun h9 => absurd rfl h9) (fun h9 => ?_)
    refine lv_aload_n hx hb dL_law_300 rfl (lv_at hl 1 rfl) ?_
    refine lv_iconst (v := 1) hx hb dL_law_301 (by decide) ?_
    refine lv_iconst (v := 3) hx hb dL_law_302 (by decide) ?_
    refine q_goR (q_runS (As := [.ref N, .int 1, .int 3]) (rest := []) hx hb hml hown hg (c_L_is l D cs wX wR 1 3) v_L_is wl_L_176 rfl rfl ⟨Nat.le_of_ble_eq_true rfl, Nat.le_of_ble_eq_true rfl⟩ hI hK hl.1 rfl rfl (Nat.le_of_ble_eq_true rfl) dL_law_303 ⟨Nat.le_of_ble_eq_true rfl, Nat.le_of_ble_eq_true rfl⟩) hI (fun H locs hI => ?_)
    rw [is_T (0, 1) 1 3 (by decide)]
    refine lv_if_eq (tgt := 340) hx hb dL_law_306 (by decide) (fun h9 => absurd h9 qb1) (fun h9 => ?_)
    refine lv_aload_n hx hb dL_law_309 rfl (lv_at hl 1 rfl) ?_
    obtain ⟨h6, eh6, hH6⟩ : ∃ z, s_X2_keepDraft (s_X2_draft hd (eS 5)) = z ∧ HI z (eS 5 :: (eS 4 :: (eS 3 :: (eS 2 :: (eS 1 :: (eS 0 :: (eHs 16 ++ Q))))))) 8 := ⟨_, rfl, hHd.keep _⟩
    refine q_goP (q_runV (As := []) (rest := []) hx hb hml hown hg (c_X10_pull l D cs wX wQ wH wR) v_X10_pull wl_L_144 rfl rfl ⟨Nat.le_of_ble_eq_true rfl, Nat.le_of_ble_eq_true rfl⟩ hI hK 10 wX rfl hl.1 rfl rfl (Nat.le_of_ble_eq_true rfl) dL_law_310 ⟨Nat.le_of_ble_eq_true rfl, Nat.le_of_ble_eq_true rfl⟩) hI (fun M107 H locs hp hI => ?_)
    rw [ok_pull eS_6 (by decide), eh6] at hp ⊢
    obtain ⟨z0, z1, z2, hF⟩ := hp
    replace wQ : qLQ cs M107 (N + 1) (eS 6) := z0
    replace wH : qLH cs M107 (N + 40) h6 := z1
    replace wR : qLR cs M107 (N + 166) (1, 3, 0, 0) := z2
    replace wX := wX.fr hF (fun z h1 h2 hz => by omega)
    replace wK := wK.fr hF (fun z h1 h2 hz => by omega)
    replace wI := wI.fr hF (fun z h1 h2 hz => by omega)
    refine lv_iconst (v := 1) hx hb dL_law_313 (by decide) ?_
    refine lv_icmp_ne (tgt := 340) hx hb dL_law_314 (by decide) (fun h9 => absurd rfl h9) (fun h9 => ?_)
    refine lv_aload_n hx hb dL_law_317 rfl (lv_at hl 1 rfl) ?_
    refine lv_iconst (v := 1) hx hb dL_law_318 (by decide) ?_
    refine lv_iconst (v := 0) hx hb dL_law_319 (by decide) ?_
    refine q_goR (q_runV (As := [.int 1, .int 0]) (rest := []) hx hb hml hown hg (c_X10_sledgeOf l D cs wX wQ 1 0) v_X10_sledgeOf wl_L_126 rfl rfl ⟨Nat.le_of_ble_eq_true rfl, Nat.le_of_ble_eq_true rfl⟩ hI hK 10 wX rfl hl.1 rfl rfl (Nat.le_of_ble_eq_true rfl) dL_law_320 ⟨Nat.le_of_ble_eq_true rfl, Nat.le_of_ble_eq_true rfl⟩) hI (fun H locs hI => ?_)
    rw [eq_s1 (0, 1)]
    refine lv_bipush (v := 14) hx hb dL_law_323 (by decide) ?_
    refine lv_icmp_ne (tgt := 340) hx hb dL_law_325 (by decide) (fun h9 => absurd rfl h9) (fun h9 => ?_)
    refine lv_aload_n hx hb dL_law_328 rfl (lv_at hl 1 rfl) ?_
    refine lv_bipush (v := 14) hx hb dL_law_329 (by decide) ?_
    refine lv_bipush (v := 6) hx hb dL_law_331 (by decide) ?_
    refine q_goR (q_runV (As := [.int 14, .int 6]) (rest := []) hx hb hml hown hg (c_X10_blockOf l D cs wX wQ 14 6) v_X10_blockOf wl_L_84 rfl rfl ⟨Nat.le_of_ble_eq_true rfl, Nat.le_of_ble_eq_true rfl⟩ hI hK 10 wX rfl hl.1 rfl rfl (Nat.le_of_ble_eq_true rfl) dL_law_333 ⟨Nat.le_of_ble_eq_true rfl, Nat.le_of_ble_eq_true rfl⟩) hI (fun H locs hI => ?_)
    rw [eq_b1 (0, 1)]
    refine lv_iconst (v := 2) hx hb dL_law_336 (by decide) ?_
    refine lv_icmp_eq (tgt := 342) hx hb dL_law_337 (by decide) (fun h9 => ?_) (fun h9 => absurd rfl h9)
    refine lv_aload_n hx hb dL_law_342 rfl (lv_at hl 1 rfl) ?_
    have hu0 : HI h6 (eS 5 :: eS 4 :: eS 3 :: eS 2 :: eS 1 :: eS 0 :: eH 15 :: eH 14 :: (eHs 14 ++ Q)) 8 := hH6
    obtain ⟨u1, eu1, hu1⟩ := ok_undo (f := (0, 1)) (q := eS 6) (q' := eS 5) (h := h6) (Q := eS 4 :: eS 3 :: eS 2 :: eS 1 :: eS 0 :: eH 15 :: eH 14 :: (eHs 14 ++ Q)) (c := 7) hu0
    refine q_goP (q_runV (As := []) (rest := []) hx hb hml hown hg (c_X10_undo l D cs wX wQ wH) v_X10_undo wl_L_194 rfl rfl ⟨Nat.le_of_ble_eq_true rfl, Nat.le_of_ble_eq_true rfl⟩ hI hK 10 wX rfl hl.1 rfl rfl (Nat.le_of_ble_eq_true rfl) dL_law_343 ⟨Nat.le_of_ble_eq_true rfl, Nat.le_of_ble_eq_true rfl⟩) hI (fun M108 H locs hp hI => ?_)
    rw [eu1] at hp ⊢
    obtain ⟨z0, z1, hF⟩ := hp
    replace wQ : qLQ cs M108 (N + 1) (eS 5) := z0
    replace wH : qLH cs M108 (N + 40) u1 := z1
    replace wX := wX.fr hF (fun z h1 h2 hz => by omega)
    replace wK := wK.fr hF (fun z h1 h2 hz => by omega)
    replace wI := wI.fr hF (fun z h1 h2 hz => by omega)
    replace wR := wR.fr hF (fun z h1 h2 hz => by omega)
    refine lv_bipush (v := 7) hx hb dL_law_346 (by decide) ?_
    refine lv_icmp_ne (tgt := 501) hx hb dL_law_348 (by decide) (fun h9 => absurd rfl h9) (fun h9 => ?_)
    refine lv_aload_n hx hb dL_law_351 rfl (lv_at hl 1 rfl) ?_
    refine lv_iconst (v := 2) hx hb dL_law_352 (by decide) ?_
    refine lv_iconst (v := 3) hx hb dL_law_353 (by decide) ?_
    refine q_goR (q_runV (As := [.int 2, .int 3]) (rest := []) hx hb hml hown hg (c_X10_sledgeOf l D cs wX wQ 2 3) v_X10_sledgeOf wl_L_126 rfl rfl ⟨Nat.le_of_ble_eq_true rfl, Nat.le_of_ble_eq_true rfl⟩ hI hK 10 wX rfl hl.1 rfl rfl (Nat.le_of_ble_eq_true rfl) dL_law_354 ⟨Nat.le_of_ble_eq_true rfl, Nat.le_of_ble_eq_true rfl⟩) hI (fun H locs hI => ?_)
    rw [eq_s2 (0, 1)]
    refine lv_if_ne (tgt := 501) hx hb dL_law_357 (by decide) (fun h9 => absurd rfl h9) (fun h9 => ?_)
    refine lv_aload_n hx hb dL_law_360 rfl (lv_at hl 1 rfl) ?_
    obtain ⟨u2, eu2, hu2⟩ := ok_undo (f := (0, 1)) (q := eS 5) (q' := eS 4) (h := u1) (Q := eS 3 :: eS 2 :: eS 1 :: eS 0 :: eH 15 :: eH 14 :: (eHs 14 ++ Q)) (c := 6) hu1
    refine q_goP (q_runV (As := []) (rest := []) hx hb hml hown hg (c_X10_undo l D cs wX wQ wH) v_X10_undo wl_L_194 rfl rfl ⟨Nat.le_of_ble_eq_true rfl, Nat.le_of_ble_eq_true rfl⟩ hI hK 10 wX rfl hl.1 rfl rfl (Nat.le_of_ble_eq_true rfl) dL_law_361 ⟨Nat.le_of_ble_eq_true rfl, Nat.le_of_ble_eq_true rfl⟩) hI (fun M109 H locs hp hI => ?_)
    rw [eu2] at hp ⊢
    obtain ⟨z0, z1, hF⟩ := hp
    replace wQ : qLQ cs M109 (N + 1) (eS 4) := z0
    replace wH : qLH cs M109 (N + 40) u2 := z1
    replace wX := wX.fr hF (fun z h1 h2 hz => by omega)
    replace wK := wK.fr hF (fun z h1 h2 hz => by omega)
    replace wI := wI.fr hF (fun z h1 h2 hz => by omega)
    replace wR := wR.fr hF (fun z h1 h2 hz => by omega)
    refine lv_bipush (v := 6) hx hb dL_law_364 (by decide) ?_
    refine lv_icmp_ne (tgt := 501) hx hb dL_law_366 (by decide) (fun h9 => absurd rfl h9) (fun h9 => ?_)
    refine lv_aload_n hx hb dL_law_369 rfl (lv_at hl 1 rfl) ?_
    refine lv_iconst (v := 2) hx hb dL_law_370 (by decide) ?_
    refine lv_iconst (v := 0) hx hb dL_law_371 (by decide) ?_
    refine q_goR (q_runV (As := [.int 2, .int 0]) (rest := []) hx hb hml hown hg (c_X10_sledgeOf l D cs wX wQ 2 0) v_X10_sledgeOf wl_L_126 rfl rfl ⟨Nat.le_of_ble_eq_true rfl, Nat.le_of_ble_eq_true rfl⟩ hI hK 10 wX rfl hl.1 rfl rfl (Nat.le_of_ble_eq_true rfl) dL_law_372 ⟨Nat.le_of_ble_eq_true rfl, Nat.le_of_ble_eq_true rfl⟩) hI (fun H locs hI => ?_)
    rw [eq_s3 (0, 1)]
    refine lv_iconst (v := (-1)) hx hb dL_law_375 (by decide) ?_
    refine lv_icmp_ne (tgt := 501) hx hb dL_law_376 (by decide) (fun h9 => absurd rfl h9) (fun h9 => ?_)
    refine lv_aload_n hx hb dL_law_379 rfl (lv_at hl 1 rfl) ?_
    obtain ⟨u3, eu3, hu3⟩ := ok_undo (f := (0, 1)) (q := eS 4) (q' := eS 3) (h := u2) (Q := eS 2 :: eS 1 :: eS 0 :: eH 15 :: eH 14 :: (eHs 14 ++ Q)) (c := 5) hu2
    refine q_goP (q_runV (As := []) (rest := []) hx hb hml hown hg (c_X10_undo l D cs wX wQ wH) v_X10_undo wl_L_194 rfl rfl ⟨Nat.le_of_ble_eq_true rfl, Nat.le_of_ble_eq_true rfl⟩ hI hK 10 wX rfl hl.1 rfl rfl (Nat.le_of_ble_eq_true rfl) dL_law_380 ⟨Nat.le_of_ble_eq_true rfl, Nat.le_of_ble_eq_true rfl⟩) hI (fun M110 H locs hp hI => ?_)
    rw [eu3] at hp ⊢
    obtain ⟨z0, z1, hF⟩ := hp
    replace wQ : qLQ cs M110 (N + 1) (eS 3) := z0
    replace wH : qLH cs M110 (N + 40) u3 := z1
    replace wX := wX.fr hF (fun z h1 h2 hz => by omega)
    replace wK := wK.fr hF (fun z h1 h2 hz => by omega)
    replace wI := wI.fr hF (fun z h1 h2 hz => by omega)
    replace wR := wR.fr hF (fun z h1 h2 hz => by omega)
    refine lv_iconst (v := 5) hx hb dL_law_383 (by decide) ?_
    refine lv_icmp_ne (tgt := 501) hx hb dL_law_384 (by decide) (fun h9 => absurd rfl h9) (fun h9 => ?_)
    refine lv_aload_n hx hb dL_law_387 rfl (lv_at hl 1 rfl) ?_
    obtain ⟨u4, eu4, hu4⟩ := ok_undo (f := (0, 1)) (q := eS 3) (q' := eS 2) (h := u3) (Q := eS 1 :: eS 0 :: eH 15 :: eH 14 :: (eHs 14 ++ Q)) (c := 4) hu3
    refine q_goP (q_runV (As := []) (rest := []) hx hb hml hown hg (c_X10_undo l D cs wX wQ wH) v_X10_undo wl_L_194 rfl rfl ⟨Nat.le_of_ble_eq_true rfl, Nat.le_of_ble_eq_true rfl⟩ hI hK 10 wX rfl hl.1 rfl rfl (Nat.le_of_ble_eq_true rfl) dL_law_388 ⟨Nat.le_of_ble_eq_true rfl, Nat.le_of_ble_eq_true rfl⟩) hI (fun M111 H locs hp hI => ?_)
    rw [eu4] at hp ⊢
    obtain ⟨z0, z1, hF⟩ := hp
    replace wQ : qLQ cs M111 (N + 1) (eS 2) := z0
    replace wH : qLH cs M111 (N + 40) u4 := z1
    replace wX := wX.fr hF (fun z h1 h2 hz => by omega)
    replace wK := wK.fr hF (fun z h1 h2 hz => by omega)
    replace wI := wI.fr hF (fun z h1 h2 hz => by omega)
    replace wR := wR.fr hF (fun z h1 h2 hz => by omega)
    refine lv_iconst (v := 4) hx hb dL_law_391 (by decide) ?_
    refine lv_icmp_ne (tgt := 501) hx hb dL_law_392 (by decide) (fun h9 => absurd rfl h9) (fun h9 => ?_)
    refine lv_aload_n hx hb dL_law_395 rfl (lv_at hl 1 rfl) ?_
    refine lv_iconst (v := 0) hx hb dL_law_396 (by decide) ?_
    refine lv_iconst (v := 5) hx hb dL_law_397 (by decide) ?_
    refine q_goR (q_runV (As := [.int 0, .int 5]) (rest := []) hx hb hml hown hg (c_X10_treeOf l D cs wX wQ 0 5) v_X10_treeOf wl_L_87 rfl rfl ⟨Nat.le_of_ble_eq_true rfl, Nat.le_of_ble_eq_true rfl⟩ hI hK 10 wX rfl hl.1 rfl rfl (Nat.le_of_ble_eq_true rfl) dL_law_398 ⟨Nat.le_of_ble_eq_true rfl, Nat.le_of_ble_eq_true rfl⟩) hI (fun H locs hI => ?_)
    rw [eq_t1 (0, 1)]
    refine lv_bipush (v := 16) hx hb dL_law_401 (by decide) ?_
    refine lv_icmp_ne (tgt := 501) hx hb dL_law_403 (by decide) (fun h9 => absurd rfl h9) (fun h9 => ?_)
    refine lv_aload_n hx hb dL_law_406 rfl (lv_at hl 1 rfl) ?_
    obtain ⟨u5, eu5, hu5⟩ := ok_undo (f := (0, 1)) (q := eS 2) (q' := eS 1) (h := u4) (Q := eS 0 :: eH 15 :: eH 14 :: (eHs 14 ++ Q)) (c := 3) hu4
    refine q_goP (q_runV (As := []) (rest := []) hx hb hml hown hg (c_X10_undo l D cs wX wQ wH) v_X10_undo wl_L_194 rfl rfl ⟨Nat.le_of_ble_eq_true rfl, Nat.le_of_ble_eq_true rfl⟩ hI hK 10 wX rfl hl.1 rfl rfl (Nat.le_of_ble_eq_true rfl) dL_law_407 ⟨Nat.le_of_ble_eq_true rfl, Nat.le_of_ble_eq_true rfl⟩) hI (fun M112 H locs hp hI => ?_)
    rw [eu5] at hp ⊢
    obtain ⟨z0, z1, hF⟩ := hp
    replace wQ : qLQ cs M112 (N + 1) (eS 1) := z0
    replace wH : qLH cs M112 (N + 40) u5 := z1
    replace wX := wX.fr hF (fun z h1 h2 hz => by omega)
    replace wK := wK.fr hF (fun z h1 h2 hz => by omega)
    replace wI := wI.fr hF (fun z h1 h2 hz => by omega)
    replace wR := wR.fr hF (fun z h1 h2 hz => by omega)
    refine lv_iconst (v := 3) hx hb dL_law_410 (by decide) ?_
    refine lv_icmp_ne (tgt := 501) hx hb dL_law_411 (by decide) (fun h9 => absurd rfl h9) (fun h9 => ?_)
    refine lv_aload_n hx hb dL_law_414 rfl (lv_at hl 1 rfl) ?_
    refine lv_bipush (v := 15) hx hb dL_law_415 (by decide) ?_
    refine lv_iconst (v := 2) hx hb dL_law_417 (by decide) ?_
    refine q_goR (q_runV (As := [.int 15, .int 2]) (rest := []) hx hb hml hown hg (c_X10_treeOf l D cs wX wQ 15 2) v_X10_treeOf wl_L_87 rfl rfl ⟨Nat.le_of_ble_eq_true rfl, Nat.le_of_ble_eq_true rfl⟩ hI hK 10 wX rfl hl.1 rfl rfl (Nat.le_of_ble_eq_true rfl) dL_law_418 ⟨Nat.le_of_ble_eq_true rfl, Nat.le_of_ble_eq_true rfl⟩) hI (fun H locs hI => ?_)
    rw [eq_t3 (0, 1)]
    refine lv_bipush (v := (-4)) hx hb dL_law_421 (by decide) ?_
    refine lv_icmp_ne (tgt := 501) hx hb dL_law_423 (by decide) (fun h9 => absurd rfl h9) (fun h9 => ?_)
    refine lv_aload_n hx hb dL_law_426 rfl (lv_at hl 1 rfl) ?_
    obtain ⟨u6, eu6, hu6⟩ := ok_undo (f := (0, 1)) (q := eS 1) (q' := eS 0) (h := u5) (Q := eH 15 :: eH 14 :: (eHs 14 ++ Q)) (c := 2) hu5
    refine q_goP (q_runV (As := []) (rest := []) hx hb hml hown hg (c_X10_undo l D cs wX wQ wH) v_X10_undo wl_L_194 rfl rfl ⟨Nat.le_of_ble_eq_true rfl, Nat.le_of_ble_eq_true rfl⟩ hI hK 10 wX rfl hl.1 rfl rfl (Nat.le_of_ble_eq_true rfl) dL_law_427 ⟨Nat.le_of_ble_eq_true rfl, Nat.le_of_ble_eq_true rfl⟩) hI (fun M113 H locs hp hI => ?_)
    rw [eu6] at hp ⊢
    obtain ⟨z0, z1, hF⟩ := hp
    replace wQ : qLQ cs M113 (N + 1) (eS 0) := z0
    replace wH : qLH cs M113 (N + 40) u6 := z1
    replace wX := wX.fr hF (fun z h1 h2 hz => by omega)
    replace wK := wK.fr hF (fun z h1 h2 hz => by omega)
    replace wI := wI.fr hF (fun z h1 h2 hz => by omega)
    replace wR := wR.fr hF (fun z h1 h2 hz => by omega)
    refine lv_iconst (v := 2) hx hb dL_law_430 (by decide) ?_
    refine lv_icmp_ne (tgt := 501) hx hb dL_law_431 (by decide) (fun h9 => absurd rfl h9) (fun h9 => ?_)
    refine lv_aload_n hx hb dL_law_434 rfl (lv_at hl 1 rfl) ?_
    refine q_goR (q_runV (As := []) (rest := []) hx hb hml hown hg (c_X10_ropes l D cs wX wQ) v_X10_ropes wl_L_132 rfl rfl ⟨Nat.le_of_ble_eq_true rfl, Nat.le_of_ble_eq_true rfl⟩ hI hK 10 wX rfl hl.1 rfl rfl (Nat.le_of_ble_eq_true rfl) dL_law_435 ⟨Nat.le_of_ble_eq_true rfl, Nat.le_of_ble_eq_true rfl⟩) hI (fun H locs hI => ?_)
    rw [show s_X10_ropes (0, 1) (eS 0) = 2 from eq_ropes0]
    refine lv_iconst (v := 2) hx hb dL_law_438 (by decide) ?_
    refine lv_icmp_ne (tgt := 501) hx hb dL_law_439 (by decide) (fun h9 => absurd rfl h9) (fun h9 => ?_)
    refine lv_aload_n hx hb dL_law_442 rfl (lv_at hl 1 rfl) ?_
    obtain ⟨u7, eu7, hu7⟩ := ok_undo (f := (0, 1)) (q := eS 0) (q' := eH 15) (h := u6) (Q := eH 14 :: (eHs 14 ++ Q)) (c := 1) hu6
    refine q_goP (q_runV (As := []) (rest := []) hx hb hml hown hg (c_X10_undo l D cs wX wQ wH) v_X10_undo wl_L_194 rfl rfl ⟨Nat.le_of_ble_eq_true rfl, Nat.le_of_ble_eq_true rfl⟩ hI hK 10 wX rfl hl.1 rfl rfl (Nat.le_of_ble_eq_true rfl) dL_law_443 ⟨Nat.le_of_ble_eq_true rfl, Nat.le_of_ble_eq_true rfl⟩) hI (fun M114 H locs hp hI => ?_)
    rw [eu7] at hp ⊢
    obtain ⟨z0, z1, hF⟩ := hp
    replace wQ : qLQ cs M114 (N + 1) (eH 15) := z0
    replace wH : qLH cs M114 (N + 40) u7 := z1
    replace wX := wX.fr hF (fun z h1 h2 hz => by omega)
    replace wK := wK.fr hF (fun z h1 h2 hz => by omega)
    replace wI := wI.fr hF (fun z h1 h2 hz => by omega)
    replace wR := wR.fr hF (fun z h1 h2 hz => by omega)
    refine lv_iconst (v := 1) hx hb dL_law_446 (by decide) ?_
    refine lv_icmp_ne (tgt := 501) hx hb dL_law_447 (by decide) (fun h9 => absurd rfl h9) (fun h9 => ?_)
    refine lv_aload_n hx hb dL_law_450 rfl (lv_at hl 1 rfl) ?_
    refine lv_bipush (v := 15) hx hb dL_law_451 (by decide) ?_
    refine lv_iconst (v := 1) hx hb dL_law_453 (by decide) ?_
    refine q_goR (q_runV (As := [.int 15, .int 1]) (rest := []) hx hb hml hown hg (c_X10_blockOf l D cs wX wQ 15 1) v_X10_blockOf wl_L_84 rfl rfl ⟨Nat.le_of_ble_eq_true rfl, Nat.le_of_ble_eq_true rfl⟩ hI hK 10 wX rfl hl.1 rfl rfl (Nat.le_of_ble_eq_true rfl) dL_law_454 ⟨Nat.le_of_ble_eq_true rfl, Nat.le_of_ble_eq_true rfl⟩) hI (fun H locs hI => ?_)
    rw [eq_b2 (0, 1)]
    refine lv_bipush (v := (-4)) hx hb dL_law_457 (by decide) ?_
    refine lv_icmp_ne (tgt := 501) hx hb dL_law_459 (by decide) (fun h9 => absurd rfl h9) (fun h9 => ?_)
    refine lv_aload_n hx hb dL_law_462 rfl (lv_at hl 1 rfl) ?_
    obtain ⟨u8, eu8, hu8⟩ := ok_undo (f := (0, 1)) (q := eH 15) (q' := eH 14) (h := u7) (Q := eHs 14 ++ Q) (c := 0) hu7
    refine q_goP (q_runV (As := []) (rest := []) hx hb hml hown hg (c_X10_undo l D cs wX wQ wH) v_X10_undo wl_L_194 rfl rfl ⟨Nat.le_of_ble_eq_true rfl, Nat.le_of_ble_eq_true rfl⟩ hI hK 10 wX rfl hl.1 rfl rfl (Nat.le_of_ble_eq_true rfl) dL_law_463 ⟨Nat.le_of_ble_eq_true rfl, Nat.le_of_ble_eq_true rfl⟩) hI (fun M115 H locs hp hI => ?_)
    rw [eu8] at hp ⊢
    obtain ⟨z0, z1, hF⟩ := hp
    replace wQ : qLQ cs M115 (N + 1) (eH 14) := z0
    replace wH : qLH cs M115 (N + 40) u8 := z1
    replace wX := wX.fr hF (fun z h1 h2 hz => by omega)
    replace wK := wK.fr hF (fun z h1 h2 hz => by omega)
    replace wI := wI.fr hF (fun z h1 h2 hz => by omega)
    replace wR := wR.fr hF (fun z h1 h2 hz => by omega)
    refine lv_if_ne (tgt := 501) hx hb dL_law_466 (by decide) (fun h9 => absurd rfl h9) (fun h9 => ?_)
    refine lv_aload_n hx hb dL_law_469 rfl (lv_at hl 1 rfl) ?_
    refine lv_bipush (v := 14) hx hb dL_law_470 (by decide) ?_
    refine lv_iconst (v := 1) hx hb dL_law_472 (by decide) ?_
    refine q_goR (q_runV (As := [.int 14, .int 1]) (rest := []) hx hb hml hown hg (c_X10_blockOf l D cs wX wQ 14 1) v_X10_blockOf wl_L_84 rfl rfl ⟨Nat.le_of_ble_eq_true rfl, Nat.le_of_ble_eq_true rfl⟩ hI hK 10 wX rfl hl.1 rfl rfl (Nat.le_of_ble_eq_true rfl) dL_law_473 ⟨Nat.le_of_ble_eq_true rfl, Nat.le_of_ble_eq_true rfl⟩) hI (fun H locs hI => ?_)
    rw [eq_b3 (0, 1)]
    refine lv_bipush (v := (-4)) hx hb dL_law_476 (by decide) ?_
    refine lv_icmp_ne (tgt := 501) hx hb dL_law_478 (by decide) (fun h9 => absurd rfl h9) (fun h9 => ?_)
    refine lv_aload_n hx hb dL_law_481 rfl (lv_at hl 1 rfl) ?_
    refine lv_bipush (v := 6) hx hb dL_law_482 (by decide) ?_
    refine q_goR (q_runV (As := [.int 6]) (rest := []) hx hb hml hown hg (c_X10_account l D cs wX wQ wH wI 6) v_X10_account wl_L_81 rfl rfl ⟨Nat.le_of_ble_eq_true rfl, Nat.le_of_ble_eq_true rfl⟩ hI hK 10 wX rfl hl.1 rfl rfl (Nat.le_of_ble_eq_true rfl) dL_law_484 ⟨Nat.le_of_ble_eq_true rfl, Nat.le_of_ble_eq_true rfl⟩) hI (fun H locs hI => ?_)
    rw [eq_h (0, 1)]
    refine lv_bipush (v := 13) hx hb dL_law_487 (by decide) ?_
    refine lv_icmp_ne (tgt := 501) hx hb dL_law_489 (by decide) (fun h9 => absurd rfl h9) (fun h9 => ?_)
    refine lv_aload_n hx hb dL_law_492 rfl (lv_at hl 1 rfl) ?_
    refine q_goP (q_runV (As := []) (rest := []) hx hb hml hown hg (c_X10_undo l D cs wX wQ wH) v_X10_undo wl_L_194 rfl rfl ⟨Nat.le_of_ble_eq_true rfl, Nat.le_of_ble_eq_true rfl⟩ hI hK 10 wX rfl hl.1 rfl rfl (Nat.le_of_ble_eq_true rfl) dL_law_493 ⟨Nat.le_of_ble_eq_true rfl, Nat.le_of_ble_eq_true rfl⟩) hI (fun M116 H locs hp hI => ?_)
    rw [no_undo hu8] at hp ⊢
    obtain ⟨z0, z1, hF⟩ := hp
    replace wQ : qLQ cs M116 (N + 1) (eH 14) := z0
    replace wH : qLH cs M116 (N + 40) u8 := z1
    replace wX := wX.fr hF (fun z h1 h2 hz => by omega)
    replace wK := wK.fr hF (fun z h1 h2 hz => by omega)
    replace wI := wI.fr hF (fun z h1 h2 hz => by omega)
    replace wR := wR.fr hF (fun z h1 h2 hz => by omega)
    refine lv_bipush (v := (-4)) hx hb dL_law_496 (by decide) ?_
    refine lv_icmp_eq (tgt := 503) hx hb dL_law_498 (by decide) (fun h9 => ?_) (fun h9 => absurd rfl h9)
    refine lv_aload_n hx hb dL_law_503 rfl (lv_at hl 1 rfl) ?_
    refine q_goP (q_runV (As := []) (rest := []) hx hb hml hown hg (c_X10_restore l D cs wX wQ wK wH) v_X10_restore wl_L_197 rfl rfl ⟨Nat.le_of_ble_eq_true rfl, Nat.le_of_ble_eq_true rfl⟩ hI hK 10 wX rfl hl.1 rfl rfl (Nat.le_of_ble_eq_true rfl) dL_law_504 ⟨Nat.le_of_ble_eq_true rfl, Nat.le_of_ble_eq_true rfl⟩) hI (fun M117 H locs hp hI => ?_)
    rw [e_restore (show ¬ (1 : Int32) = 0 by decide)] at hp ⊢
    obtain ⟨z0, z1, hF⟩ := hp
    replace wQ : qLQ cs M117 (N + 1) qQ0 := z0
    replace wH : qLH cs M117 (N + 40) (s_X2_forget u8) := z1
    replace wX := wX.fr hF (fun z h1 h2 hz => by omega)
    replace wK := wK.fr hF (fun z h1 h2 hz => by omega)
    replace wI := wI.fr hF (fun z h1 h2 hz => by omega)
    replace wR := wR.fr hF (fun z h1 h2 hz => by omega)
    refine lv_if_ne (tgt := 527) hx hb dL_law_507 (by decide) (fun h9 => absurd rfl h9) (fun h9 => ?_)
    refine lv_aload_n hx hb dL_law_510 rfl (lv_at hl 1 rfl) ?_
    refine lv_iconst (v := 0) hx hb dL_law_511 (by decide) ?_
    refine q_goR (q_runV (As := [.int 0]) (rest := []) hx hb hml hown hg (c_X10_account l D cs wX wQ wH wI 0) v_X10_account wl_L_81 rfl rfl ⟨Nat.le_of_ble_eq_true rfl, Nat.le_of_ble_eq_true rfl⟩ hI hK 10 wX rfl hl.1 rfl rfl (Nat.le_of_ble_eq_true rfl) dL_law_512 ⟨Nat.le_of_ble_eq_true rfl, Nat.le_of_ble_eq_true rfl⟩) hI (fun H locs hI => ?_)
    rw [acc0]
    refine lv_if_ne (tgt := 527) hx hb dL_law_515 (by decide) (fun h9 => absurd rfl h9) (fun h9 => ?_)
    refine lv_aload_n hx hb dL_law_518 rfl (lv_at hl 1 rfl) ?_
    refine q_goP (q_runV (As := []) (rest := []) hx hb hml hown hg (c_X10_undo l D cs wX wQ wH) v_X10_undo wl_L_194 rfl rfl ⟨Nat.le_of_ble_eq_true rfl, Nat.le_of_ble_eq_true rfl⟩ hI hK 10 wX rfl hl.1 rfl rfl (Nat.le_of_ble_eq_true rfl) dL_law_519 ⟨Nat.le_of_ble_eq_true rfl, Nat.le_of_ble_eq_true rfl⟩) hI (fun M118 H locs hp hI => ?_)
    rw [no_undo hu8.forget] at hp ⊢
    obtain ⟨z0, z1, hF⟩ := hp
    replace wQ : qLQ cs M118 (N + 1) qQ0 := z0
    replace wH : qLH cs M118 (N + 40) (s_X2_forget u8) := z1
    replace wX := wX.fr hF (fun z h1 h2 hz => by omega)
    replace wK := wK.fr hF (fun z h1 h2 hz => by omega)
    replace wI := wI.fr hF (fun z h1 h2 hz => by omega)
    replace wR := wR.fr hF (fun z h1 h2 hz => by omega)
    refine lv_bipush (v := (-4)) hx hb dL_law_522 (by decide) ?_
    refine lv_icmp_eq (tgt := 529) hx hb dL_law_524 (by decide) (fun h9 => ?_) (fun h9 => absurd rfl h9)
    exact K _ _ _ _ hI (lv_sub hl [2] rfl)
  have l185 : ∀ (n j : Nat), n + j = 15 → ∀ (h : qHV) (Q : List qQV) (M : qM) (H : Heap) (locs : List Loc) (ls : Array Slot), HI h (eHs (j + 1) ++ Q) 8 → qLX cs M N (0, 1) → qLQ cs M (N + 1) (eH (j + 1)) → qLQ cs M (N + 14) qQ0 → qLH cs M (N + 40) h → qLI cs M (N + 159) eI → qLR cs M (N + 166) r16 → qI D M0 s.heap M (N + 167) H locs → lv_has ls 11 [(2, .int (nI (j + 1))), (1, .ref N), (0, .ref b)] → W p l e room_1 s m #[Value.ref b] below meth c H locs 167 1648 Z (F0 m 185 ls []) := by
    intro n
    induction n with
    | zero =>
      intro j hj h Q M H locs ls hH wX wQ wK wH wI wR hI hl
      have hj15 : j = 15 := by omega
      subst hj15
      refine lv_iload_n hx hb dL_law_185 rfl (lv_at hl 0 rfl) ?_
      refine lv_bipush (v := 16) hx hb dL_law_186 (by decide) ?_
      refine lv_icmp_ge (tgt := 211) hx hb dL_law_188 (by decide) (fun h9 => ?_) (fun h9 => absurd (by decide) h9)
      rw [show (15 + 1 : Nat) = 16 from rfl, eH_S] at wQ
      exact t211 h Q _ _ _ _ hH wX wQ wK wH wI wR hI hl
    | succ n ih =>
      intro j hj h Q M H locs ls hH wX wQ wK wH wI wR hI hl
      refine lv_iload_n hx hb dL_law_185 rfl (lv_at hl 0 rfl) ?_
      refine lv_bipush (v := 16) hx hb dL_law_186 (by decide) ?_
      refine lv_icmp_ge (tgt := 211) hx hb dL_law_188 (by decide) (fun h9 => absurd h9 (nI_ge (b := 16) (by omega) (by decide))) (fun h9 => ?_)
      refine lv_aload_n hx hb dL_law_191 rfl (lv_at hl 1 rfl) ?_
      refine lv_iload_n hx hb dL_law_192 rfl (lv_at hl 0 rfl) ?_
      refine lv_iload_n hx hb dL_law_193 rfl (lv_at hl 0 rfl) ?_
      refine lv_iconst (v := 1) hx hb dL_law_194 (by decide) ?_
      refine lv_isub hx hb dL_law_195 ?_
      rw [nI_p1]
      obtain ⟨h2, eh2, hH2⟩ : ∃ z, s_X2_keepDraft (s_X2_draft h (eH (j + 1))) = z ∧ HI z (eHs (j + 2) ++ Q) 8 := ⟨_, rfl, hH.keep _⟩
      refine q_goP (q_runV (As := [.int (nI (j + 1)), .int (nI j)]) (rest := []) hx hb hml hown hg (c_X10_hang l D cs wX wQ wH wR (nI (j + 1)) (nI j)) v_X10_hang wl_L_47 rfl rfl ⟨Nat.le_of_ble_eq_true rfl, Nat.le_of_ble_eq_true rfl⟩ hI hK 10 wX rfl hl.1 rfl rfl (Nat.le_of_ble_eq_true rfl) dL_law_196 ⟨Nat.le_of_ble_eq_true rfl, Nat.le_of_ble_eq_true rfl⟩) hI (fun M201 H locs hp hI => ?_)
      rw [ok_hang (eH_s j (by omega)) (nI_pos' (by omega)), eh2] at hp ⊢
      obtain ⟨z0, z1, z2, hF⟩ := hp
      replace wQ : qLQ cs M201 (N + 1) (eH (j + 2)) := z0
      replace wH : qLH cs M201 (N + 40) h2 := z1
      replace wR : qLR cs M201 (N + 166) r16 := z2
      replace wX := wX.fr hF (fun z h1 h2 hz => by omega)
      replace wK := wK.fr hF (fun z h1 h2 hz => by omega)
      replace wI := wI.fr hF (fun z h1 h2 hz => by omega)
      refine lv_iload_n hx hb dL_law_199 rfl (lv_at hl 0 rfl) ?_
      refine lv_icmp_eq (tgt := 205) hx hb dL_law_200 (by decide) (fun h9 => ?_) (fun h9 => absurd rfl h9)
      refine lv_iinc (v := nI (j + 1 + 1)) (lv' := [(2, .int (nI (j + 1 + 1))), (1, .ref N), (0, .ref b)]) hx hb dL_law_205 hl (k := 0) rfl (by rw [nI_succ (j + 1)]; rfl) (by decide) rfl (fun ls hl => ?_)
      refine lv_goto (tgt := 185) hx hb dL_law_208 (by decide) ?_
      exact ih (j + 1) (by omega) h2 Q _ _ _ _ hH2 wX wQ wK wH wI wR hI hl
  have t140 : ∀ (h : qHV) (Q : List qQV) (M : qM) (H : Heap) (locs : List Loc) (ls : Array Slot), HI h Q 8 → qLX cs M N (0, 1) → qLQ cs M (N + 1) (eB 16) → qLQ cs M (N + 14) qQ0 → qLH cs M (N + 40) h → qLI cs M (N + 159) eI → qLR cs M (N + 166) r00 → qI D M0 s.heap M (N + 167) H locs → lv_has ls 11 [(2, .int (nI 16)), (1, .ref N), (0, .ref b)] → W p l e room_1 s m #[Value.ref b] below meth c H locs 167 1648 Z (F0 m 140 ls []) := by
    intro h Q M H locs ls hH wX wQ wK wH wI wR hI hl
    refine lv_aload_n hx hb dL_law_140 rfl (lv_at hl 1 rfl) ?_
    refine lv_iconst (v := 1) hx hb dL_law_141 (by decide) ?_
    obtain ⟨hd, ehd, hHd⟩ : ∃ z, s_X2_draft h (eB 16) = z ∧ HI z Q 8 := ⟨_, rfl, hH.draft _⟩
    refine q_goP (q_runV (As := [.int 1]) (rest := []) hx hb hml hown hg (c_X10_block l D cs wX wQ wH wR 1) v_X10_block wl_L_44 rfl rfl ⟨Nat.le_of_ble_eq_true rfl, Nat.le_of_ble_eq_true rfl⟩ hI hK 10 wX rfl hl.1 rfl rfl (Nat.le_of_ble_eq_true rfl) dL_law_142 ⟨Nat.le_of_ble_eq_true rfl, Nat.le_of_ble_eq_true rfl⟩) hI (fun M301 H locs hp hI => ?_)
    rw [no_block eB_f (by decide), ehd] at hp ⊢
    obtain ⟨z0, z1, z2, hF⟩ := hp
    replace wQ : qLQ cs M301 (N + 1) (eB 16) := z0
    replace wH : qLH cs M301 (N + 40) hd := z1
    replace wR : qLR cs M301 (N + 166) r16 := z2
    replace wX := wX.fr hF (fun z h1 h2 hz => by omega)
    replace wK := wK.fr hF (fun z h1 h2 hz => by omega)
    replace wI := wI.fr hF (fun z h1 h2 hz => by omega)
    refine lv_bipush (v := (-3)) hx hb dL_law_145 (by decide) ?_
    refine lv_icmp_ne (tgt := 181) hx hb dL_law_147 (by decide) (fun h9 => absurd rfl h9) (fun h9 => ?_)
    refine lv_aload_n hx hb dL_law_150 rfl (lv_at hl 1 rfl) ?_
    refine lv_iconst (v := 1) hx hb dL_law_151 (by decide) ?_
    refine lv_bipush (v := 16) hx hb dL_law_152 (by decide) ?_
    refine q_goR (q_runS (As := [.ref N, .int 1, .int 16]) (rest := []) hx hb hml hown hg (c_L_is l D cs wX wR 1 16) v_L_is wl_L_176 rfl rfl ⟨Nat.le_of_ble_eq_true rfl, Nat.le_of_ble_eq_true rfl⟩ hI hK hl.1 rfl rfl (Nat.le_of_ble_eq_true rfl) dL_law_154 ⟨Nat.le_of_ble_eq_true rfl, Nat.le_of_ble_eq_true rfl⟩) hI (fun H locs hI => ?_)
    rw [is_T (0, 1) 1 16 (by decide)]
    refine lv_if_eq (tgt := 181) hx hb dL_law_157 (by decide) (fun h9 => absurd h9 qb1) (fun h9 => ?_)
    refine lv_aload_n hx hb dL_law_160 rfl (lv_at hl 1 rfl) ?_
    refine lv_bipush (v := 12) hx hb dL_law_161 (by decide) ?_
    refine q_goR (q_runV (As := [.int 12]) (rest := []) hx hb hml hown hg (c_X10_account l D cs wX wQ wH wI 12) v_X10_account wl_L_81 rfl rfl ⟨Nat.le_of_ble_eq_true rfl, Nat.le_of_ble_eq_true rfl⟩ hI hK 10 wX rfl hl.1 rfl rfl (Nat.le_of_ble_eq_true rfl) dL_law_163 ⟨Nat.le_of_ble_eq_true rfl, Nat.le_of_ble_eq_true rfl⟩) hI (fun H locs hI => ?_)
    rw [acc12 (0, 1) (eB 16) eI hHd]
    refine lv_bipush (v := 8) hx hb dL_law_166 (by decide) ?_
    refine lv_icmp_ne (tgt := 181) hx hb dL_law_168 (by decide) (fun h9 => absurd rfl h9) (fun h9 => ?_)
    refine lv_aload_n hx hb dL_law_171 rfl (lv_at hl 1 rfl) ?_
    refine lv_iconst (v := 3) hx hb dL_law_172 (by decide) ?_
    refine q_goR (q_runV (As := [.int 3]) (rest := []) hx hb hml hown hg (c_X10_account l D cs wX wQ wH wI 3) v_X10_account wl_L_81 rfl rfl ⟨Nat.le_of_ble_eq_true rfl, Nat.le_of_ble_eq_true rfl⟩ hI hK 10 wX rfl hl.1 rfl rfl (Nat.le_of_ble_eq_true rfl) dL_law_173 ⟨Nat.le_of_ble_eq_true rfl, Nat.le_of_ble_eq_true rfl⟩) hI (fun H locs hI => ?_)
    rw [acc3, eB_w]
    refine lv_bipush (v := 120) hx hb dL_law_176 (by decide) ?_
    refine lv_icmp_eq (tgt := 183) hx hb dL_law_178 (by decide) (fun h9 => ?_) (fun h9 => absurd rfl h9)
    refine lv_iconst (v := 1) hx hb dL_law_183 (by decide) ?_
    refine lv_istore_n (lv' := [(2, .int 1), (1, .ref N), (0, .ref b)]) hx hb dL_law_184 rfl hl (by decide) rfl (fun ls hl => ?_)
    rw [eB_H] at wQ
    exact l185 15 0 rfl hd Q _ _ _ _ hHd wX wQ wK wH wI wR hI (lv_sub hl [0, 1, 2] rfl)
  have l117 : ∀ (n k : Nat), n + k = 16 → ∀ (h : qHV) (Q : List qQV) (M : qM) (H : Heap) (locs : List Loc) (ls : Array Slot), HI h Q (min k 8) → qLX cs M N (0, 1) → qLQ cs M (N + 1) (eB k) → qLQ cs M (N + 14) qQ0 → qLH cs M (N + 40) h → qLI cs M (N + 159) eI → qLR cs M (N + 166) r00 → qI D M0 s.heap M (N + 167) H locs → lv_has ls 11 [(2, .int (nI k)), (1, .ref N), (0, .ref b)] → W p l e room_1 s m #[Value.ref b] below meth c H locs 167 1648 Z (F0 m 117 ls []) := by
    intro n
    induction n with
    | zero =>
      intro k hk h Q M H locs ls hH wX wQ wK wH wI wR hI hl
      have hk16 : k = 16 := by omega
      subst hk16
      refine lv_iload_n hx hb dL_law_117 rfl (lv_at hl 0 rfl) ?_
      refine lv_bipush (v := 16) hx hb dL_law_118 (by decide) ?_
      refine lv_icmp_ge (tgt := 140) hx hb dL_law_120 (by decide) (fun h9 => ?_) (fun h9 => absurd (by decide) h9)
      exact t140 h Q _ _ _ _ hH wX wQ wK wH wI wR hI hl
    | succ n ih =>
      intro k hk h Q M H locs ls hH wX wQ wK wH wI wR hI hl
      refine lv_iload_n hx hb dL_law_117 rfl (lv_at hl 0 rfl) ?_
      refine lv_bipush (v := 16) hx hb dL_law_118 (by decide) ?_
      refine lv_icmp_ge (tgt := 140) hx hb dL_law_120 (by decide) (fun h9 => absurd h9 (nI_ge (b := 16) (by omega) (by decide))) (fun h9 => ?_)
      refine lv_aload_n hx hb dL_law_123 rfl (lv_at hl 1 rfl) ?_
      refine lv_iload_n hx hb dL_law_124 rfl (lv_at hl 0 rfl) ?_
      obtain ⟨h2, eh2, hH2⟩ : ∃ z, s_X2_keepDraft (s_X2_draft h (eB k)) = z ∧ HI z (eB k :: Q) (min (k + 1) 8) := ⟨_, rfl, by rw [← min_s]; exact hH.keep _⟩
      refine q_goP (q_runV (As := [.int (nI k)]) (rest := []) hx hb hml hown hg (c_X10_block l D cs wX wQ wH wR (nI k)) v_X10_block wl_L_44 rfl rfl ⟨Nat.le_of_ble_eq_true rfl, Nat.le_of_ble_eq_true rfl⟩ hI hK 10 wX rfl hl.1 rfl rfl (Nat.le_of_ble_eq_true rfl) dL_law_125 ⟨Nat.le_of_ble_eq_true rfl, Nat.le_of_ble_eq_true rfl⟩) hI (fun M201 H locs hp hI => ?_)
      rw [ok_block (eB_s k (by omega)) (nI_pos' (by omega)), eh2] at hp ⊢
      obtain ⟨z0, z1, z2, hF⟩ := hp
      replace wQ : qLQ cs M201 (N + 1) (eB (k + 1)) := z0
      replace wH : qLH cs M201 (N + 40) h2 := z1
      replace wR : qLR cs M201 (N + 166) r00 := z2
      replace wX := wX.fr hF (fun z h1 h2 hz => by omega)
      replace wK := wK.fr hF (fun z h1 h2 hz => by omega)
      replace wI := wI.fr hF (fun z h1 h2 hz => by omega)
      refine lv_iload_n hx hb dL_law_128 rfl (lv_at hl 0 rfl) ?_
      refine lv_icmp_eq (tgt := 134) hx hb dL_law_129 (by decide) (fun h9 => ?_) (fun h9 => absurd rfl h9)
      refine lv_iinc (v := nI (k + 1)) (lv' := [(2, .int (nI (k + 1))), (1, .ref N), (0, .ref b)]) hx hb dL_law_134 hl (k := 0) rfl (by rw [nI_succ]; rfl) (by decide) rfl (fun ls hl => ?_)
      refine lv_goto (tgt := 117) hx hb dL_law_137 (by decide) ?_
      exact ih (k + 1) (by omega) h2 _ _ _ _ _ hH2 wX wQ wK wH wI wR hI hl
  have t66 : ∀  (M : qM) (H : Heap) (locs : List Loc) (ls : Array Slot), qLX cs M N (-4, 1) → qLQ cs M (N + 1) qQ0 → qLQ cs M (N + 14) qQ0 → qLH cs M (N + 40) qH0 → qLI cs M (N + 159) (eA 60) → qLR cs M (N + 166) r00 → qI D M0 s.heap M (N + 167) H locs → lv_has ls 11 [(2, .int (nI 60)), (1, .ref N), (0, .ref b)] → W p l e room_1 s m #[Value.ref b] below meth c H locs 167 1648 Z (F0 m 66 ls []) := by
    intro M H locs ls wX wQ wK wH wI wR hI hl
    refine lv_aload_n hx hb dL_law_66 rfl (lv_at hl 1 rfl) ?_
    refine lv_bipush (v := 112) hx hb dL_law_67 (by decide) ?_
    refine q_goP (q_runV (As := [.int 112]) (rest := []) hx hb hml hown hg (c_X10_append l D cs wX wI 112) v_X10_append wl_L_17 rfl rfl ⟨Nat.le_of_ble_eq_true rfl, Nat.le_of_ble_eq_true rfl⟩ hI hK 10 wX rfl hl.1 rfl rfl (Nat.le_of_ble_eq_true rfl) dL_law_69 ⟨Nat.le_of_ble_eq_true rfl, Nat.le_of_ble_eq_true rfl⟩) hI (fun M301 H locs hp hI => ?_)
    rw [eA_full (-4, 1)] at hp ⊢
    obtain ⟨z0, hF⟩ := hp
    replace wI : qLI cs M301 (N + 159) (eA 60) := z0
    replace wX := wX.fr hF (fun z h1 h2 hz => by omega)
    replace wQ := wQ.fr hF (fun z h1 h2 hz => by omega)
    replace wK := wK.fr hF (fun z h1 h2 hz => by omega)
    replace wH := wH.fr hF (fun z h1 h2 hz => by omega)
    replace wR := wR.fr hF (fun z h1 h2 hz => by omega)
    refine lv_bipush (v := (-2)) hx hb dL_law_72 (by decide) ?_
    refine lv_icmp_ne (tgt := 113) hx hb dL_law_74 (by decide) (fun h9 => absurd rfl h9) (fun h9 => ?_)
    refine lv_aload_n hx hb dL_law_77 rfl (lv_at hl 1 rfl) ?_
    refine lv_bipush (v := 11) hx hb dL_law_78 (by decide) ?_
    refine q_goR (q_runV (As := [.int 11]) (rest := []) hx hb hml hown hg (c_X10_account l D cs wX wQ wH wI 11) v_X10_account wl_L_81 rfl rfl ⟨Nat.le_of_ble_eq_true rfl, Nat.le_of_ble_eq_true rfl⟩ hI hK 10 wX rfl hl.1 rfl rfl (Nat.le_of_ble_eq_true rfl) dL_law_80 ⟨Nat.le_of_ble_eq_true rfl, Nat.le_of_ble_eq_true rfl⟩) hI (fun H locs hI => ?_)
    rw [acc11, eA_n]
    refine lv_bipush (v := 60) hx hb dL_law_83 (by decide) ?_
    refine lv_icmp_ne (tgt := 113) hx hb dL_law_85 (by decide) (fun h9 => absurd rfl h9) (fun h9 => ?_)
    refine lv_aload_n hx hb dL_law_88 rfl (lv_at hl 1 rfl) ?_
    refine q_goP (q_runVZ (As := []) (rest := []) hx hb hml hown hg (c_X10_read l D cs (hI.dom rfl hd) wX wQ wH wI wR) v_X10_read wl_L_23 rfl rfl ⟨Nat.le_of_ble_eq_true rfl, Nat.le_of_ble_eq_true rfl⟩ hI hK (hI.jx rfl hd hP).1 10 wX rfl hl.1 rfl rfl (Nat.le_of_ble_eq_true rfl) dL_law_89 ⟨Nat.le_of_ble_eq_true rfl, Nat.le_of_ble_eq_true rfl⟩) hI (fun M302 H locs hp hI => ?_)
    rw [eI_read] at hp ⊢
    obtain ⟨z0, z1, z2, z3, z4, hF⟩ := hp
    replace wX : qLX cs M302 N (0, 1) := z0
    replace wQ : qLQ cs M302 (N + 1) qQ0 := z1
    replace wH : qLH cs M302 (N + 40) qH0 := z2
    replace wI : qLI cs M302 (N + 159) eI := z3
    replace wR : qLR cs M302 (N + 166) r00 := z4
    replace wK := wK.fr hF (fun z h1 h2 hz => by omega)
    refine lv_bipush (v := (-2)) hx hb dL_law_92 (by decide) ?_
    refine lv_icmp_ne (tgt := 113) hx hb dL_law_94 (by decide) (fun h9 => absurd rfl h9) (fun h9 => ?_)
    refine lv_aload_n hx hb dL_law_97 rfl (lv_at hl 1 rfl) ?_
    refine q_goR (q_runV (As := []) (rest := []) hx hb hml hown hg (c_X10_fault l D cs wX) v_X10_fault wl_L_182 rfl rfl ⟨Nat.le_of_ble_eq_true rfl, Nat.le_of_ble_eq_true rfl⟩ hI hK 10 wX rfl hl.1 rfl rfl (Nat.le_of_ble_eq_true rfl) dL_law_98 ⟨Nat.le_of_ble_eq_true rfl, Nat.le_of_ble_eq_true rfl⟩) hI (fun H locs hI => ?_)
    rw [show s_X10_fault (0, 1) = 0 from rfl]
    refine lv_if_ne (tgt := 113) hx hb dL_law_101 (by decide) (fun h9 => absurd rfl h9) (fun h9 => ?_)
    refine lv_aload_n hx hb dL_law_104 rfl (lv_at hl 1 rfl) ?_
    refine lv_bipush (v := 11) hx hb dL_law_105 (by decide) ?_
    refine q_goR (q_runV (As := [.int 11]) (rest := []) hx hb hml hown hg (c_X10_account l D cs wX wQ wH wI 11) v_X10_account wl_L_81 rfl rfl ⟨Nat.le_of_ble_eq_true rfl, Nat.le_of_ble_eq_true rfl⟩ hI hK 10 wX rfl hl.1 rfl rfl (Nat.le_of_ble_eq_true rfl) dL_law_107 ⟨Nat.le_of_ble_eq_true rfl, Nat.le_of_ble_eq_true rfl⟩) hI (fun H locs hI => ?_)
    rw [acc11, eI_s.2.2]
    refine lv_if_eq (tgt := 115) hx hb dL_law_110 (by decide) (fun h9 => ?_) (fun h9 => absurd rfl h9)
    refine lv_iconst (v := 0) hx hb dL_law_115 (by decide) ?_
    refine lv_istore_n (lv' := [(2, .int 0), (1, .ref N), (0, .ref b)]) hx hb dL_law_116 rfl hl (by decide) rfl (fun ls hl => ?_)
    rw [← eB_0] at wQ
    exact l117 16 0 rfl qH0 [] _ _ _ _ HI_0 wX wQ wK wH wI wR hI (lv_sub hl [0, 1, 2] rfl)
  have l37 : ∀ (n k : Nat), n + k = 60 → ∀  (M : qM) (H : Heap) (locs : List Loc) (ls : Array Slot), qLX cs M N (-4, 1) → qLQ cs M (N + 1) qQ0 → qLQ cs M (N + 14) qQ0 → qLH cs M (N + 40) qH0 → qLI cs M (N + 159) (eA k) → qLR cs M (N + 166) r00 → qI D M0 s.heap M (N + 167) H locs → lv_has ls 11 [(2, .int (nI k)), (1, .ref N), (0, .ref b)] → W p l e room_1 s m #[Value.ref b] below meth c H locs 167 1648 Z (F0 m 37 ls []) := by
    intro n
    induction n with
    | zero =>
      intro k hk M H locs ls wX wQ wK wH wI wR hI hl
      have hk16 : k = 60 := by omega
      subst hk16
      refine lv_iload_n hx hb dL_law_37 rfl (lv_at hl 0 rfl) ?_
      refine lv_bipush (v := 60) hx hb dL_law_38 (by decide) ?_
      refine lv_icmp_ge (tgt := 66) hx hb dL_law_40 (by decide) (fun h9 => ?_) (fun h9 => absurd (by decide) h9)
      exact t66 _ _ _ _ wX wQ wK wH wI wR hI hl
    | succ n ih =>
      intro k hk M H locs ls wX wQ wK wH wI wR hI hl
      refine lv_iload_n hx hb dL_law_37 rfl (lv_at hl 0 rfl) ?_
      refine lv_bipush (v := 60) hx hb dL_law_38 (by decide) ?_
      refine lv_icmp_ge (tgt := 66) hx hb dL_law_40 (by decide) (fun h9 => absurd h9 (nI_ge (b := 60) (by omega) (by decide))) (fun h9 => ?_)
      refine lv_aload_n hx hb dL_law_43 rfl (lv_at hl 1 rfl) ?_
      refine lv_bipush (v := 65) hx hb dL_law_44 (by decide) ?_
      refine lv_iload_n hx hb dL_law_46 rfl (lv_at hl 0 rfl) ?_
      refine lv_iadd hx hb dL_law_47 ?_
      refine lv_i2c hx hb dL_law_48 rfl ?_
      rw [eA_c ⟨k, by omega⟩]
      refine q_goP (q_runV (As := [.int (nI (65 + k))]) (rest := []) hx hb hml hown hg (c_X10_append l D cs wX wI (nI (65 + k))) v_X10_append wl_L_17 rfl rfl ⟨Nat.le_of_ble_eq_true rfl, Nat.le_of_ble_eq_true rfl⟩ hI hK 10 wX rfl hl.1 rfl rfl (Nat.le_of_ble_eq_true rfl) dL_law_49 ⟨Nat.le_of_ble_eq_true rfl, Nat.le_of_ble_eq_true rfl⟩) hI (fun M201 H locs hp hI => ?_)
      rw [eA_append (-4, 1) (show k < 60 by omega)] at hp ⊢
      obtain ⟨z0, hF⟩ := hp
      replace wI : qLI cs M201 (N + 159) (eA (k + 1)) := z0
      replace wX := wX.fr hF (fun z h1 h2 hz => by omega)
      replace wQ := wQ.fr hF (fun z h1 h2 hz => by omega)
      replace wK := wK.fr hF (fun z h1 h2 hz => by omega)
      replace wH := wH.fr hF (fun z h1 h2 hz => by omega)
      replace wR := wR.fr hF (fun z h1 h2 hz => by omega)
      refine lv_iload_n hx hb dL_law_52 rfl (lv_at hl 0 rfl) ?_
      refine lv_iconst (v := 1) hx hb dL_law_53 (by decide) ?_
      refine lv_iadd hx hb dL_law_54 ?_
      rw [show nI k + 1 = nI (k + 1) from (nI_succ k).symm]
      refine lv_icmp_eq (tgt := 60) hx hb dL_law_55 (by decide) (fun h9 => ?_) (fun h9 => absurd rfl h9)
      refine lv_iinc (v := nI (k + 1)) (lv' := [(2, .int (nI (k + 1))), (1, .ref N), (0, .ref b)]) hx hb dL_law_60 hl (k := 0) rfl (by rw [nI_succ]; rfl) (by decide) rfl (fun ls hl => ?_)
      refine lv_goto (tgt := 37) hx hb dL_law_63 (by decide) ?_
      exact ih (k + 1) (by omega) _ _ _ _ wX wQ wK wH wI wR hI hl
  refine q_new hx hb 10 hg in_X10 tyX10_ok hown wx_cX wn_X10 wi_X10 hK hI rfl [.null, .null, .null, .null, .null, .null, .null, .int 0, .int 0] (fun j hj => by match j, hj with | 0, _ => rfl | 1, _ => rfl | 2, _ => rfl | 3, _ => rfl | 4, _ => rfl | 5, _ => rfl | 6, _ => rfl | 7, _ => rfl | 8, _ => rfl) (Nat.le_of_ble_eq_true rfl) (Nat.le_of_ble_eq_true rfl) dL_law_0 (fun H hI => ?_)
  refine lv_dup hx hb dL_law_3 rfl ?_
  refine q_goNc (q_runI (As := []) (rest := [.ref N]) hx hb hml hown hg (c_X10_init l D cs (qUp_at _ _ _)) v_X10_init wl_L_193 rfl rfl ⟨Nat.le_of_ble_eq_true rfl, Nat.le_of_ble_eq_true rfl⟩ hI hK hl.1 rfl rfl (Nat.le_of_ble_eq_true rfl) dL_law_4 ⟨Nat.le_of_ble_eq_true rfl, Nat.le_of_ble_eq_true rfl⟩) hI (fun M1 H locs hp hI => ?_)
  obtain ⟨⟨wX, wQ, wK, wT, wH, wI, wN, wR⟩, hF⟩ := hp
  refine lv_astore_n (lv' := [(1, .ref N), (0, .ref b)]) hx hb dL_law_7 rfl hl (by decide) rfl (fun ls hl => ?_)
  refine lv_aload_n hx hb dL_law_8 rfl (lv_at hl 0 rfl) ?_
  refine q_goP (q_runV (As := []) (rest := []) hx hb hml hown hg (c_X10_undo l D cs wX wQ wH) v_X10_undo wl_L_194 rfl rfl ⟨Nat.le_of_ble_eq_true rfl, Nat.le_of_ble_eq_true rfl⟩ hI hK 10 wX rfl hl.1 rfl rfl (Nat.le_of_ble_eq_true rfl) dL_law_9 ⟨Nat.le_of_ble_eq_true rfl, Nat.le_of_ble_eq_true rfl⟩) hI (fun M401 H locs hp hI => ?_)
  rw [no_undo HI_0] at hp ⊢
  obtain ⟨z0, z1, hF⟩ := hp
  replace wQ : qLQ cs M401 (N + 1) qQ0 := z0
  replace wH : qLH cs M401 (N + 40) qH0 := z1
  replace wX := wX.fr hF (fun z h1 h2 hz => by omega)
  replace wK := wK.fr hF (fun z h1 h2 hz => by omega)
  replace wI := wI.fr hF (fun z h1 h2 hz => by omega)
  replace wR := wR.fr hF (fun z h1 h2 hz => by omega)
  refine lv_bipush (v := (-4)) hx hb dL_law_12 (by decide) ?_
  refine lv_icmp_ne (tgt := 33) hx hb dL_law_14 (by decide) (fun h9 => absurd rfl h9) (fun h9 => ?_)
  refine lv_aload_n hx hb dL_law_17 rfl (lv_at hl 0 rfl) ?_
  refine q_goP (q_runV (As := []) (rest := []) hx hb hml hown hg (c_X10_restore l D cs wX wQ wK wH) v_X10_restore wl_L_197 rfl rfl ⟨Nat.le_of_ble_eq_true rfl, Nat.le_of_ble_eq_true rfl⟩ hI hK 10 wX rfl hl.1 rfl rfl (Nat.le_of_ble_eq_true rfl) dL_law_18 ⟨Nat.le_of_ble_eq_true rfl, Nat.le_of_ble_eq_true rfl⟩) hI (fun M402 H locs hp hI => ?_)
  rw [n_restore rfl] at hp ⊢
  obtain ⟨z0, z1, hF⟩ := hp
  replace wQ : qLQ cs M402 (N + 1) qQ0 := z0
  replace wH : qLH cs M402 (N + 40) qH0 := z1
  replace wX := wX.fr hF (fun z h1 h2 hz => by omega)
  replace wK := wK.fr hF (fun z h1 h2 hz => by omega)
  replace wI := wI.fr hF (fun z h1 h2 hz => by omega)
  replace wR := wR.fr hF (fun z h1 h2 hz => by omega)
  refine lv_bipush (v := (-4)) hx hb dL_law_21 (by decide) ?_
  refine lv_icmp_ne (tgt := 33) hx hb dL_law_23 (by decide) (fun h9 => absurd rfl h9) (fun h9 => ?_)
  refine lv_aload_n hx hb dL_law_26 rfl (lv_at hl 0 rfl) ?_
  refine q_goP (q_runV (As := []) (rest := []) hx hb hml hown hg (c_X10_save l D cs wX wQ wK) v_X10_save wl_L_200 rfl rfl ⟨Nat.le_of_ble_eq_true rfl, Nat.le_of_ble_eq_true rfl⟩ hI hK 10 wX rfl hl.1 rfl rfl (Nat.le_of_ble_eq_true rfl) dL_law_27 ⟨Nat.le_of_ble_eq_true rfl, Nat.le_of_ble_eq_true rfl⟩) hI (fun M403 H locs hp hI => ?_)
  rw [e_save] at hp ⊢
  obtain ⟨z0, z1, hF⟩ := hp
  replace wX : qLX cs M403 N (-4, 1) := z0
  replace wK : qLQ cs M403 (N + 14) qQ0 := z1
  replace wQ := wQ.fr hF (fun z h1 h2 hz => by omega)
  replace wH := wH.fr hF (fun z h1 h2 hz => by omega)
  replace wI := wI.fr hF (fun z h1 h2 hz => by omega)
  replace wR := wR.fr hF (fun z h1 h2 hz => by omega)
  refine lv_if_eq (tgt := 35) hx hb dL_law_30 (by decide) (fun h9 => ?_) (fun h9 => absurd rfl h9)
  refine lv_iconst (v := 0) hx hb dL_law_35 (by decide) ?_
  refine lv_istore_n (lv' := [(2, .int 0), (1, .ref N), (0, .ref b)]) hx hb dL_law_36 rfl hl (by decide) rfl (fun ls hl => ?_)
  exact l37 60 0 rfl _ _ _ _ wX wQ wK wH wI wR hI (lv_sub hl [0, 1, 2] rfl)

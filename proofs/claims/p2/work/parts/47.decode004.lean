theorem dX3_statement_108 : decode cX3_statement 108 = .ok (.aload_n 0, 1) := by decide +kernel
theorem dX3_statement_109 : decode cX3_statement 109 = .ok (.bipush 17, 2) := by decide +kernel
theorem dX3_statement_111 : decode cX3_statement 111 = .ok (.aload_n 1, 1) := by decide +kernel
theorem dX3_statement_112 : decode cX3_statement 112 = .ok (.getfield 185, 3) := by decide +kernel
theorem dX3_statement_115 : decode cX3_statement 115 = .ok (.ifnonnull 9, 3) := by decide +kernel
theorem dX3_statement_118 : decode cX3_statement 118 = .ok (.ldc2_w 129, 3) := by decide +kernel
theorem dX3_statement_121 : decode cX3_statement 121 = .ok (.goto 10, 3) := by decide +kernel
theorem dX3_statement_124 : decode cX3_statement 124 = .ok (.aload_n 1, 1) := by decide +kernel
theorem dX3_statement_125 : decode cX3_statement 125 = .ok (.getfield 185, 3) := by decide +kernel
theorem dX3_statement_128 : decode cX3_statement 128 = .ok (.getfield 179, 3) := by decide +kernel
theorem dX3_statement_131 : decode cX3_statement 131 = .ok (.aconst_null, 1) := by decide +kernel
theorem dX3_statement_132 : decode cX3_statement 132 = .ok (.aload_n 1, 1) := by decide +kernel
theorem dX3_statement_133 : decode cX3_statement 133 = .ok (.getfield 179, 3) := by decide +kernel
theorem dX3_statement_136 : decode cX3_statement 136 = .ok (.invokevirtual 131, 3) := by decide +kernel
theorem dX3_statement_139 : decode cX3_statement 139 = .ok (.pop, 1) := by decide +kernel
theorem dX3_statement_140 : decode cX3_statement 140 = .ok (.aload_n 0, 1) := by decide +kernel
theorem dX3_statement_141 : decode cX3_statement 141 = .ok (.getfield 15, 3) := by decide +kernel
theorem dX3_statement_144 : decode cX3_statement 144 = .ok (.iconst 4, 1) := by decide +kernel
theorem dX3_statement_145 : decode cX3_statement 145 = .ok (.aload_n 1, 1) := by decide +kernel
theorem dX3_statement_146 : decode cX3_statement 146 = .ok (.getfield 246, 3) := by decide +kernel
theorem dX3_statement_149 : decode cX3_statement 149 = .ok (.invokevirtual 151, 3) := by decide +kernel
theorem dX3_statement_152 : decode cX3_statement 152 = .ok (.pop, 1) := by decide +kernel
theorem dX3_statement_153 : decode cX3_statement 153 = .ok (.goto 273, 3) := by decide +kernel
theorem dX3_statement_156 : decode cX3_statement 156 = .ok (.aload_n 0, 1) := by decide +kernel
theorem dX3_statement_157 : decode cX3_statement 157 = .ok (.aload_n 1, 1) := by decide +kernel
theorem dX3_statement_158 : decode cX3_statement 158 = .ok (.invokevirtual 249, 3) := by decide +kernel
theorem dX3_statement_161 : decode cX3_statement 161 = .ok (.goto 265, 3) := by decide +kernel
theorem dX3_statement_164 : decode cX3_statement 164 = .ok (.aload_n 0, 1) := by decide +kernel
theorem dX3_statement_165 : decode cX3_statement 165 = .ok (.aload_n 1, 1) := by decide +kernel
theorem dX3_statement_166 : decode cX3_statement 166 = .ok (.invokevirtual 252, 3) := by decide +kernel
theorem dX3_statement_169 : decode cX3_statement 169 = .ok (.goto 257, 3) := by decide +kernel
theorem dX3_statement_172 : decode cX3_statement 172 = .ok (.aload_n 1, 1) := by decide +kernel
theorem dX3_statement_173 : decode cX3_statement 173 = .ok (.getfield 185, 3) := by decide +kernel
theorem dX3_statement_176 : decode cX3_statement 176 = .ok (.ifnull 33, 3) := by decide +kernel
theorem dX3_statement_179 : decode cX3_statement 179 = .ok (.aload_n 0, 1) := by decide +kernel
theorem dX3_statement_180 : decode cX3_statement 180 = .ok (.aload_n 1, 1) := by decide +kernel
theorem dX3_statement_181 : decode cX3_statement 181 = .ok (.getfield 185, 3) := by decide +kernel
theorem dX3_statement_184 : decode cX3_statement 184 = .ok (.invokevirtual 176, 3) := by decide +kernel
theorem dX3_statement_187 : decode cX3_statement 187 = .ok (.aload_n 0, 1) := by decide +kernel
theorem dX3_statement_188 : decode cX3_statement 188 = .ok (.bipush 17, 2) := by decide +kernel
theorem dX3_statement_190 : decode cX3_statement 190 = .ok (.aload_n 1, 1) := by decide +kernel
theorem dX3_statement_191 : decode cX3_statement 191 = .ok (.getfield 185, 3) := by decide +kernel
theorem dX3_statement_194 : decode cX3_statement 194 = .ok (.getfield 179, 3) := by decide +kernel
theorem dX3_statement_197 : decode cX3_statement 197 = .ok (.aconst_null, 1) := by decide +kernel
theorem dX3_statement_198 : decode cX3_statement 198 = .ok (.aload_n 0, 1) := by decide +kernel
theorem dX3_statement_199 : decode cX3_statement 199 = .ok (.getfield 49, 3) := by decide +kernel
theorem dX3_statement_202 : decode cX3_statement 202 = .ok (.getfield 184, 3) := by decide +kernel
theorem dX3_statement_205 : decode cX3_statement 205 = .ok (.invokevirtual 131, 3) := by decide +kernel
theorem dX3_statement_208 : decode cX3_statement 208 = .ok (.pop, 1) := by decide +kernel
theorem dX3_statement_209 : decode cX3_statement 209 = .ok (.aload_n 0, 1) := by decide +kernel
theorem dX3_statement_210 : decode cX3_statement 210 = .ok (.getfield 15, 3) := by decide +kernel
theorem dX3_statement_213 : decode cX3_statement 213 = .ok (.aload_n 1, 1) := by decide +kernel
theorem dX3_statement_214 : decode cX3_statement 214 = .ok (.getfield 185, 3) := by decide +kernel
theorem dX3_statement_217 : decode cX3_statement 217 = .ok (.ifnonnull 8, 3) := by decide +kernel
theorem dX3_statement_220 : decode cX3_statement 220 = .ok (.bipush 18, 2) := by decide +kernel
theorem dX3_statement_222 : decode cX3_statement 222 = .ok (.goto 5, 3) := by decide +kernel
theorem dX3_statement_225 : decode cX3_statement 225 = .ok (.bipush 19, 2) := by decide +kernel
theorem dX3_statement_227 : decode cX3_statement 227 = .ok (.iconst 0, 1) := by decide +kernel
theorem dX3_statement_228 : decode cX3_statement 228 = .ok (.invokevirtual 151, 3) := by decide +kernel
theorem dX3_statement_231 : decode cX3_statement 231 = .ok (.pop, 1) := by decide +kernel
theorem dX3_statement_232 : decode cX3_statement 232 = .ok (.goto 194, 3) := by decide +kernel
theorem dX3_statement_235 : decode cX3_statement 235 = .ok (.aload_n 0, 1) := by decide +kernel
theorem dX3_statement_236 : decode cX3_statement 236 = .ok (.aload_n 1, 1) := by decide +kernel
theorem dX3_statement_237 : decode cX3_statement 237 = .ok (.getfield 185, 3) := by decide +kernel
theorem dX3_statement_240 : decode cX3_statement 240 = .ok (.invokevirtual 176, 3) := by decide +kernel
theorem dX3_statement_243 : decode cX3_statement 243 = .ok (.aload_n 0, 1) := by decide +kernel
theorem dX3_statement_244 : decode cX3_statement 244 = .ok (.bipush 17, 2) := by decide +kernel
theorem dX3_statement_246 : decode cX3_statement 246 = .ok (.aload_n 1, 1) := by decide +kernel
theorem dX3_statement_247 : decode cX3_statement 247 = .ok (.getfield 185, 3) := by decide +kernel
theorem dX3_statement_250 : decode cX3_statement 250 = .ok (.ifnonnull 9, 3) := by decide +kernel
theorem dX3_statement_253 : decode cX3_statement 253 = .ok (.ldc2_w 129, 3) := by decide +kernel
theorem dX3_statement_256 : decode cX3_statement 256 = .ok (.goto 10, 3) := by decide +kernel
theorem dX3_statement_259 : decode cX3_statement 259 = .ok (.aload_n 1, 1) := by decide +kernel
theorem dX3_statement_260 : decode cX3_statement 260 = .ok (.getfield 185, 3) := by decide +kernel
theorem dX3_statement_263 : decode cX3_statement 263 = .ok (.getfield 179, 3) := by decide +kernel
theorem dX3_statement_266 : decode cX3_statement 266 = .ok (.aconst_null, 1) := by decide +kernel
theorem dX3_statement_267 : decode cX3_statement 267 = .ok (.ldc2_w 255, 3) := by decide +kernel
theorem dX3_statement_270 : decode cX3_statement 270 = .ok (.invokevirtual 131, 3) := by decide +kernel
theorem dX3_statement_273 : decode cX3_statement 273 = .ok (.pop, 1) := by decide +kernel
theorem dX3_statement_274 : decode cX3_statement 274 = .ok (.aload_n 0, 1) := by decide +kernel
theorem dX3_statement_275 : decode cX3_statement 275 = .ok (.getfield 15, 3) := by decide +kernel
theorem dX3_statement_278 : decode cX3_statement 278 = .ok (.bipush 15, 2) := by decide +kernel
theorem dX3_statement_280 : decode cX3_statement 280 = .ok (.iconst 0, 1) := by decide +kernel
theorem dX3_statement_281 : decode cX3_statement 281 = .ok (.invokevirtual 151, 3) := by decide +kernel
theorem dX3_statement_284 : decode cX3_statement 284 = .ok (.pop, 1) := by decide +kernel
theorem dX3_statement_285 : decode cX3_statement 285 = .ok (.goto 141, 3) := by decide +kernel
theorem dX3_statement_288 : decode cX3_statement 288 = .ok (.aload_n 0, 1) := by decide +kernel
theorem dX3_statement_289 : decode cX3_statement 289 = .ok (.aload_n 1, 1) := by decide +kernel
theorem dX3_statement_290 : decode cX3_statement 290 = .ok (.invokevirtual 257, 3) := by decide +kernel
theorem dX3_statement_293 : decode cX3_statement 293 = .ok (.goto 133, 3) := by decide +kernel
theorem dX3_statement_296 : decode cX3_statement 296 = .ok (.aload_n 0, 1) := by decide +kernel
theorem dX3_statement_297 : decode cX3_statement 297 = .ok (.aload_n 1, 1) := by decide +kernel
theorem dX3_statement_298 : decode cX3_statement 298 = .ok (.getfield 185, 3) := by decide +kernel
theorem dX3_statement_301 : decode cX3_statement 301 = .ok (.invokevirtual 176, 3) := by decide +kernel
theorem dX3_statement_304 : decode cX3_statement 304 = .ok (.aload_n 0, 1) := by decide +kernel
theorem dX3_statement_305 : decode cX3_statement 305 = .ok (.getfield 15, 3) := by decide +kernel
theorem dX3_statement_308 : decode cX3_statement 308 = .ok (.bipush 14, 2) := by decide +kernel
theorem dX3_statement_310 : decode cX3_statement 310 = .ok (.iconst 0, 1) := by decide +kernel
theorem dX3_statement_311 : decode cX3_statement 311 = .ok (.invokevirtual 151, 3) := by decide +kernel
theorem dX3_statement_314 : decode cX3_statement 314 = .ok (.pop, 1) := by decide +kernel
theorem dX3_statement_315 : decode cX3_statement 315 = .ok (.goto 111, 3) := by decide +kernel
theorem dX3_statement_318 : decode cX3_statement 318 = .ok (.aload_n 1, 1) := by decide +kernel
theorem dX3_statement_319 : decode cX3_statement 319 = .ok (.getfield 185, 3) := by decide +kernel
theorem dX3_statement_322 : decode cX3_statement 322 = .ok (.invokestatic 260, 3) := by decide +kernel
theorem dX3_statement_325 : decode cX3_statement 325 = .ok (.astore_n 2, 1) := by decide +kernel
theorem dX3_statement_326 : decode cX3_statement 326 = .ok (.aload_n 2, 1) := by decide +kernel
theorem dX3_statement_327 : decode cX3_statement 327 = .ok (.ifnull 24, 3) := by decide +kernel
theorem dX3_statement_330 : decode cX3_statement 330 = .ok (.aload_n 2, 1) := by decide +kernel
theorem dX3_statement_331 : decode cX3_statement 331 = .ok (.getfield 191, 3) := by decide +kernel
theorem dX3_statement_334 : decode cX3_statement 334 = .ok (.ifnull 17, 3) := by decide +kernel
theorem dX3_statement_337 : decode cX3_statement 337 = .ok (.aload_n 2, 1) := by decide +kernel
theorem dX3_statement_338 : decode cX3_statement 338 = .ok (.getfield 191, 3) := by decide +kernel
theorem dX3_statement_341 : decode cX3_statement 341 = .ok (.getfield 119, 3) := by decide +kernel
theorem dX3_statement_344 : decode cX3_statement 344 = .ok (.ifCond .ne 7, 3) := by decide +kernel
theorem dX3_statement_347 : decode cX3_statement 347 = .ok (.iconst 1, 1) := by decide +kernel
theorem dX3_statement_348 : decode cX3_statement 348 = .ok (.goto 4, 3) := by decide +kernel
theorem dX3_statement_351 : decode cX3_statement 351 = .ok (.iconst 0, 1) := by decide +kernel
theorem dX3_statement_352 : decode cX3_statement 352 = .ok (.istore_n 3, 1) := by decide +kernel
theorem dX3_statement_353 : decode cX3_statement 353 = .ok (.iload_n 3, 1) := by decide +kernel
theorem dX3_statement_354 : decode cX3_statement 354 = .ok (.ifCond .eq 24, 3) := by decide +kernel
theorem dX3_statement_357 : decode cX3_statement 357 = .ok (.aload_n 2, 1) := by decide +kernel
theorem dX3_statement_358 : decode cX3_statement 358 = .ok (.aload_n 1, 1) := by decide +kernel
theorem dX3_statement_359 : decode cX3_statement 359 = .ok (.getfield 185, 3) := by decide +kernel
theorem dX3_statement_362 : decode cX3_statement 362 = .ok (.if_acmp .ne 16, 3) := by decide +kernel
theorem dX3_statement_365 : decode cX3_statement 365 = .ok (.aload_n 0, 1) := by decide +kernel
theorem dX3_statement_366 : decode cX3_statement 366 = .ok (.getfield 15, 3) := by decide +kernel
theorem dX3_statement_369 : decode cX3_statement 369 = .ok (.iconst 3, 1) := by decide +kernel
theorem dX3_statement_370 : decode cX3_statement 370 = .ok (.iconst 0, 1) := by decide +kernel
theorem dX3_statement_371 : decode cX3_statement 371 = .ok (.invokevirtual 151, 3) := by decide +kernel
theorem dX3_statement_374 : decode cX3_statement 374 = .ok (.pop, 1) := by decide +kernel
theorem dX3_statement_375 : decode cX3_statement 375 = .ok (.goto 16, 3) := by decide +kernel
theorem dX3_statement_378 : decode cX3_statement 378 = .ok (.iload_n 3, 1) := by decide +kernel
theorem dX3_statement_379 : decode cX3_statement 379 = .ok (.ifCond .eq 12, 3) := by decide +kernel
theorem dX3_statement_382 : decode cX3_statement 382 = .ok (.aload_n 0, 1) := by decide +kernel
theorem dX3_statement_383 : decode cX3_statement 383 = .ok (.aload_n 1, 1) := by decide +kernel
theorem dX3_statement_384 : decode cX3_statement 384 = .ok (.getfield 185, 3) := by decide +kernel
theorem dX3_statement_387 : decode cX3_statement 387 = .ok (.aload_n 2, 1) := by decide +kernel
theorem dX3_statement_388 : decode cX3_statement 388 = .ok (.invokevirtual 266, 3) := by decide +kernel
theorem dX3_statement_391 : decode cX3_statement 391 = .ok (.aload_n 0, 1) := by decide +kernel
theorem dX3_statement_392 : decode cX3_statement 392 = .ok (.aload_n 1, 1) := by decide +kernel
theorem dX3_statement_393 : decode cX3_statement 393 = .ok (.getfield 270, 3) := by decide +kernel
theorem dX3_statement_396 : decode cX3_statement 396 = .ok (.invokevirtual 176, 3) := by decide +kernel
theorem dX3_statement_399 : decode cX3_statement 399 = .ok (.aload_n 0, 1) := by decide +kernel
theorem dX3_statement_400 : decode cX3_statement 400 = .ok (.aload_n 1, 1) := by decide +kernel
theorem dX3_statement_401 : decode cX3_statement 401 = .ok (.aload_n 2, 1) := by decide +kernel
theorem dX3_statement_402 : decode cX3_statement 402 = .ok (.invokevirtual 273, 3) := by decide +kernel
theorem dX3_statement_405 : decode cX3_statement 405 = .ok (.goto 21, 3) := by decide +kernel
theorem dX3_statement_408 : decode cX3_statement 408 = .ok (.aload_n 0, 1) := by decide +kernel
theorem dX3_statement_409 : decode cX3_statement 409 = .ok (.aload_n 1, 1) := by decide +kernel
theorem dX3_statement_410 : decode cX3_statement 410 = .ok (.getfield 185, 3) := by decide +kernel
theorem dX3_statement_413 : decode cX3_statement 413 = .ok (.invokevirtual 176, 3) := by decide +kernel
theorem dX3_statement_416 : decode cX3_statement 416 = .ok (.aload_n 0, 1) := by decide +kernel
theorem dX3_statement_417 : decode cX3_statement 417 = .ok (.getfield 15, 3) := by decide +kernel
theorem dX3_statement_420 : decode cX3_statement 420 = .ok (.iconst 5, 1) := by decide +kernel
theorem dX3_statement_421 : decode cX3_statement 421 = .ok (.iconst 0, 1) := by decide +kernel
theorem dX3_statement_422 : decode cX3_statement 422 = .ok (.invokevirtual 151, 3) := by decide +kernel
theorem dX3_statement_425 : decode cX3_statement 425 = .ok (.pop, 1) := by decide +kernel
theorem dX3_statement_426 : decode cX3_statement 426 = .ok (.return_, 1) := by decide +kernel
theorem dX3_branch_0 : decode cX3_branch 0 = .ok (.aload_n 0, 1) := by decide +kernel
theorem dX3_branch_1 : decode cX3_branch 1 = .ok (.aload_n 1, 1) := by decide +kernel
theorem dX3_branch_2 : decode cX3_branch 2 = .ok (.getfield 185, 3) := by decide +kernel
theorem dX3_branch_5 : decode cX3_branch 5 = .ok (.invokevirtual 176, 3) := by decide +kernel
theorem dX3_branch_8 : decode cX3_branch 8 = .ok (.aload_n 0, 1) := by decide +kernel
theorem dX3_branch_9 : decode cX3_branch 9 = .ok (.getfield 15, 3) := by decide +kernel
theorem dX3_branch_12 : decode cX3_branch 12 = .ok (.bipush 13, 2) := by decide +kernel
theorem dX3_branch_14 : decode cX3_branch 14 = .ok (.iconst 0, 1) := by decide +kernel
theorem dX3_branch_15 : decode cX3_branch 15 = .ok (.invokevirtual 151, 3) := by decide +kernel
theorem dX3_branch_18 : decode cX3_branch 18 = .ok (.istore_n 2, 1) := by decide +kernel
theorem dX3_branch_19 : decode cX3_branch 19 = .ok (.aload_n 0, 1) := by decide +kernel
theorem dX3_branch_20 : decode cX3_branch 20 = .ok (.aload_n 1, 1) := by decide +kernel
theorem dX3_branch_21 : decode cX3_branch 21 = .ok (.getfield 270, 3) := by decide +kernel
theorem dX3_branch_24 : decode cX3_branch 24 = .ok (.invokevirtual 169, 3) := by decide +kernel
theorem dX3_branch_27 : decode cX3_branch 27 = .ok (.aload_n 1, 1) := by decide +kernel
theorem dX3_branch_28 : decode cX3_branch 28 = .ok (.getfield 276, 3) := by decide +kernel
theorem dX3_branch_31 : decode cX3_branch 31 = .ok (.ifnull 32, 3) := by decide +kernel
theorem dX3_branch_34 : decode cX3_branch 34 = .ok (.aload_n 0, 1) := by decide +kernel
theorem dX3_branch_35 : decode cX3_branch 35 = .ok (.getfield 15, 3) := by decide +kernel
theorem dX3_branch_38 : decode cX3_branch 38 = .ok (.bipush 12, 2) := by decide +kernel
theorem dX3_branch_40 : decode cX3_branch 40 = .ok (.iconst 0, 1) := by decide +kernel
theorem dX3_branch_41 : decode cX3_branch 41 = .ok (.invokevirtual 151, 3) := by decide +kernel
theorem dX3_branch_44 : decode cX3_branch 44 = .ok (.istore_n 3, 1) := by decide +kernel
theorem dX3_branch_45 : decode cX3_branch 45 = .ok (.aload_n 0, 1) := by decide +kernel
theorem dX3_branch_46 : decode cX3_branch 46 = .ok (.getfield 15, 3) := by decide +kernel
theorem dX3_branch_49 : decode cX3_branch 49 = .ok (.iload_n 2, 1) := by decide +kernel
theorem dX3_branch_50 : decode cX3_branch 50 = .ok (.invokevirtual 147, 3) := by decide +kernel
theorem dX3_branch_53 : decode cX3_branch 53 = .ok (.iload_n 3, 1) := by decide +kernel
theorem dX3_branch_54 : decode cX3_branch 54 = .ok (.istore_n 2, 1) := by decide +kernel
theorem dX3_branch_55 : decode cX3_branch 55 = .ok (.aload_n 0, 1) := by decide +kernel
theorem dX3_branch_56 : decode cX3_branch 56 = .ok (.aload_n 1, 1) := by decide +kernel
theorem dX3_branch_57 : decode cX3_branch 57 = .ok (.getfield 276, 3) := by decide +kernel
theorem dX3_branch_60 : decode cX3_branch 60 = .ok (.invokevirtual 169, 3) := by decide +kernel
theorem dX3_branch_63 : decode cX3_branch 63 = .ok (.aload_n 0, 1) := by decide +kernel
theorem dX3_branch_64 : decode cX3_branch 64 = .ok (.getfield 15, 3) := by decide +kernel
theorem dX3_branch_67 : decode cX3_branch 67 = .ok (.iload_n 2, 1) := by decide +kernel
theorem dX3_branch_68 : decode cX3_branch 68 = .ok (.invokevirtual 147, 3) := by decide +kernel
theorem dX3_branch_71 : decode cX3_branch 71 = .ok (.return_, 1) := by decide +kernel
theorem dX3_loop_0 : decode cX3_loop 0 = .ok (.aload_n 0, 1) := by decide +kernel
theorem dX3_loop_1 : decode cX3_loop 1 = .ok (.getfield 15, 3) := by decide +kernel
theorem dX3_loop_4 : decode cX3_loop 4 = .ok (.getfield 144, 3) := by decide +kernel
theorem dX3_loop_7 : decode cX3_loop 7 = .ok (.istore_n 2, 1) := by decide +kernel
theorem dX3_loop_8 : decode cX3_loop 8 = .ok (.aload_n 0, 1) := by decide +kernel
theorem dX3_loop_9 : decode cX3_loop 9 = .ok (.getfield 15, 3) := by decide +kernel
theorem dX3_loop_12 : decode cX3_loop 12 = .ok (.iconst 1, 1) := by decide +kernel
theorem dX3_loop_13 : decode cX3_loop 13 = .ok (.iconst 0, 1) := by decide +kernel
theorem dX3_loop_14 : decode cX3_loop 14 = .ok (.invokevirtual 151, 3) := by decide +kernel
theorem dX3_loop_17 : decode cX3_loop 17 = .ok (.pop, 1) := by decide +kernel
theorem dX3_loop_18 : decode cX3_loop 18 = .ok (.aload_n 0, 1) := by decide +kernel
theorem dX3_loop_19 : decode cX3_loop 19 = .ok (.aload_n 1, 1) := by decide +kernel
theorem dX3_loop_20 : decode cX3_loop 20 = .ok (.getfield 185, 3) := by decide +kernel
theorem dX3_loop_23 : decode cX3_loop 23 = .ok (.invokevirtual 176, 3) := by decide +kernel
theorem dX3_loop_26 : decode cX3_loop 26 = .ok (.aload_n 0, 1) := by decide +kernel
theorem dX3_loop_27 : decode cX3_loop 27 = .ok (.getfield 15, 3) := by decide +kernel
theorem dX3_loop_30 : decode cX3_loop 30 = .ok (.bipush 13, 2) := by decide +kernel
theorem dX3_loop_32 : decode cX3_loop 32 = .ok (.iconst 0, 1) := by decide +kernel
theorem dX3_loop_33 : decode cX3_loop 33 = .ok (.invokevirtual 151, 3) := by decide +kernel
theorem dX3_loop_36 : decode cX3_loop 36 = .ok (.istore_n 3, 1) := by decide +kernel
theorem dX3_loop_37 : decode cX3_loop 37 = .ok (.aload_n 0, 1) := by decide +kernel
theorem dX3_loop_38 : decode cX3_loop 38 = .ok (.aload_n 1, 1) := by decide +kernel
theorem dX3_loop_39 : decode cX3_loop 39 = .ok (.getfield 270, 3) := by decide +kernel
theorem dX3_loop_42 : decode cX3_loop 42 = .ok (.invokevirtual 169, 3) := by decide +kernel
theorem dX3_loop_45 : decode cX3_loop 45 = .ok (.aload_n 0, 1) := by decide +kernel
theorem dX3_loop_46 : decode cX3_loop 46 = .ok (.getfield 15, 3) := by decide +kernel
theorem dX3_loop_49 : decode cX3_loop 49 = .ok (.bipush 12, 2) := by decide +kernel
theorem dX3_loop_51 : decode cX3_loop 51 = .ok (.iload_n 2, 1) := by decide +kernel
theorem dX3_loop_52 : decode cX3_loop 52 = .ok (.invokevirtual 151, 3) := by decide +kernel
theorem dX3_loop_55 : decode cX3_loop 55 = .ok (.pop, 1) := by decide +kernel
theorem dX3_loop_56 : decode cX3_loop 56 = .ok (.aload_n 0, 1) := by decide +kernel
theorem dX3_loop_57 : decode cX3_loop 57 = .ok (.getfield 15, 3) := by decide +kernel
theorem dX3_loop_60 : decode cX3_loop 60 = .ok (.iload_n 3, 1) := by decide +kernel
theorem dX3_loop_61 : decode cX3_loop 61 = .ok (.invokevirtual 147, 3) := by decide +kernel
theorem dX3_loop_64 : decode cX3_loop 64 = .ok (.return_, 1) := by decide +kernel
theorem dX3_tried_0 : decode cX3_tried 0 = .ok (.aload_n 0, 1) := by decide +kernel
theorem dX3_tried_1 : decode cX3_tried 1 = .ok (.getfield 15, 3) := by decide +kernel
theorem dX3_tried_4 : decode cX3_tried 4 = .ok (.bipush 16, 2) := by decide +kernel
theorem dX3_tried_6 : decode cX3_tried 6 = .ok (.iconst 0, 1) := by decide +kernel
theorem dX3_tried_7 : decode cX3_tried 7 = .ok (.invokevirtual 151, 3) := by decide +kernel
theorem dX3_tried_10 : decode cX3_tried 10 = .ok (.istore_n 2, 1) := by decide +kernel
theorem dX3_tried_11 : decode cX3_tried 11 = .ok (.aload_n 0, 1) := by decide +kernel
theorem dX3_tried_12 : decode cX3_tried 12 = .ok (.aload_n 1, 1) := by decide +kernel
theorem dX3_tried_13 : decode cX3_tried 13 = .ok (.getfield 185, 3) := by decide +kernel
theorem dX3_tried_16 : decode cX3_tried 16 = .ok (.invokevirtual 169, 3) := by decide +kernel
theorem dX3_tried_19 : decode cX3_tried 19 = .ok (.aload_n 0, 1) := by decide +kernel
theorem dX3_tried_20 : decode cX3_tried 20 = .ok (.getfield 15, 3) := by decide +kernel
theorem dX3_tried_23 : decode cX3_tried 23 = .ok (.bipush 17, 2) := by decide +kernel
theorem dX3_tried_25 : decode cX3_tried 25 = .ok (.iconst 0, 1) := by decide +kernel
theorem dX3_tried_26 : decode cX3_tried 26 = .ok (.invokevirtual 151, 3) := by decide +kernel
theorem dX3_tried_29 : decode cX3_tried 29 = .ok (.pop, 1) := by decide +kernel
theorem dX3_tried_30 : decode cX3_tried 30 = .ok (.aload_n 0, 1) := by decide +kernel
theorem dX3_tried_31 : decode cX3_tried 31 = .ok (.getfield 15, 3) := by decide +kernel
theorem dX3_tried_34 : decode cX3_tried 34 = .ok (.bipush 12, 2) := by decide +kernel
theorem dX3_tried_36 : decode cX3_tried 36 = .ok (.iconst 0, 1) := by decide +kernel
theorem dX3_tried_37 : decode cX3_tried 37 = .ok (.invokevirtual 151, 3) := by decide +kernel
theorem dX3_tried_40 : decode cX3_tried 40 = .ok (.istore_n 3, 1) := by decide +kernel
theorem dX3_tried_41 : decode cX3_tried 41 = .ok (.aload_n 0, 1) := by decide +kernel
theorem dX3_tried_42 : decode cX3_tried 42 = .ok (.getfield 15, 3) := by decide +kernel
theorem dX3_tried_45 : decode cX3_tried 45 = .ok (.iload_n 2, 1) := by decide +kernel
theorem dX3_tried_46 : decode cX3_tried 46 = .ok (.invokevirtual 147, 3) := by decide +kernel
theorem dX3_tried_49 : decode cX3_tried 49 = .ok (.aload_n 0, 1) := by decide +kernel
theorem dX3_tried_50 : decode cX3_tried 50 = .ok (.getfield 15, 3) := by decide +kernel
theorem dX3_tried_53 : decode cX3_tried 53 = .ok (.bipush 39, 2) := by decide +kernel
theorem dX3_tried_55 : decode cX3_tried 55 = .ok (.aload_n 0, 1) := by decide +kernel
theorem dX3_tried_56 : decode cX3_tried 56 = .ok (.bipush 15, 2) := by decide +kernel
theorem dX3_tried_58 : decode cX3_tried 58 = .ok (.aload_n 1, 1) := by decide +kernel
theorem dX3_tried_59 : decode cX3_tried 59 = .ok (.getfield 279, 3) := by decide +kernel
theorem dX3_tried_62 : decode cX3_tried 62 = .ok (.aconst_null, 1) := by decide +kernel
theorem dX3_tried_63 : decode cX3_tried 63 = .ok (.ldc2_w 129, 3) := by decide +kernel
theorem dX3_tried_66 : decode cX3_tried 66 = .ok (.invokevirtual 131, 3) := by decide +kernel
theorem dX3_tried_69 : decode cX3_tried 69 = .ok (.invokevirtual 151, 3) := by decide +kernel
theorem dX3_tried_72 : decode cX3_tried 72 = .ok (.pop, 1) := by decide +kernel
theorem dX3_tried_73 : decode cX3_tried 73 = .ok (.aload_n 0, 1) := by decide +kernel
theorem dX3_tried_74 : decode cX3_tried 74 = .ok (.getfield 15, 3) := by decide +kernel
theorem dX3_tried_77 : decode cX3_tried 77 = .ok (.iconst 4, 1) := by decide +kernel
theorem dX3_tried_78 : decode cX3_tried 78 = .ok (.aload_n 1, 1) := by decide +kernel
theorem dX3_tried_79 : decode cX3_tried 79 = .ok (.getfield 246, 3) := by decide +kernel
theorem dX3_tried_82 : decode cX3_tried 82 = .ok (.invokevirtual 151, 3) := by decide +kernel
theorem dX3_tried_85 : decode cX3_tried 85 = .ok (.pop, 1) := by decide +kernel
theorem dX3_tried_86 : decode cX3_tried 86 = .ok (.aload_n 0, 1) := by decide +kernel
theorem dX3_tried_87 : decode cX3_tried 87 = .ok (.aload_n 1, 1) := by decide +kernel
theorem dX3_tried_88 : decode cX3_tried 88 = .ok (.getfield 270, 3) := by decide +kernel
theorem dX3_tried_91 : decode cX3_tried 91 = .ok (.invokevirtual 169, 3) := by decide +kernel
theorem dX3_tried_94 : decode cX3_tried 94 = .ok (.aload_n 0, 1) := by decide +kernel
theorem dX3_tried_95 : decode cX3_tried 95 = .ok (.getfield 15, 3) := by decide +kernel
theorem dX3_tried_98 : decode cX3_tried 98 = .ok (.iload_n 3, 1) := by decide +kernel
theorem dX3_tried_99 : decode cX3_tried 99 = .ok (.invokevirtual 147, 3) := by decide +kernel
theorem dX3_tried_102 : decode cX3_tried 102 = .ok (.return_, 1) := by decide +kernel
theorem dX3_put_0 : decode cX3_put 0 = .ok (.aload_n 2, 1) := by decide +kernel
theorem dX3_put_1 : decode cX3_put 1 = .ok (.ifnull 10, 3) := by decide +kernel
theorem dX3_put_4 : decode cX3_put 4 = .ok (.aload_n 1, 1) := by decide +kernel
theorem dX3_put_5 : decode cX3_put 5 = .ok (.getfield 270, 3) := by decide +kernel
theorem dX3_put_8 : decode cX3_put 8 = .ok (.ifnonnull 4, 3) := by decide +kernel
theorem dX3_put_11 : decode cX3_put 11 = .ok (.return_, 1) := by decide +kernel
theorem dX3_put_12 : decode cX3_put 12 = .ok (.aload_n 2, 1) := by decide +kernel
theorem dX3_put_13 : decode cX3_put 13 = .ok (.getfield 191, 3) := by decide +kernel
theorem dX3_put_16 : decode cX3_put 16 = .ok (.astore_n 3, 1) := by decide +kernel
theorem dX3_put_17 : decode cX3_put 17 = .ok (.aload_n 0, 1) := by decide +kernel
theorem dX3_put_18 : decode cX3_put 18 = .ok (.bipush 17, 2) := by decide +kernel
theorem dX3_put_20 : decode cX3_put 20 = .ok (.aload_n 1, 1) := by decide +kernel
theorem dX3_put_21 : decode cX3_put 21 = .ok (.getfield 270, 3) := by decide +kernel
theorem dX3_put_24 : decode cX3_put 24 = .ok (.getfield 179, 3) := by decide +kernel
theorem dX3_put_27 : decode cX3_put 27 = .ok (.aconst_null, 1) := by decide +kernel
theorem dX3_put_28 : decode cX3_put 28 = .ok (.aload_n 1, 1) := by decide +kernel
theorem dX3_put_29 : decode cX3_put 29 = .ok (.getfield 185, 3) := by decide +kernel
theorem dX3_put_32 : decode cX3_put 32 = .ok (.getfield 179, 3) := by decide +kernel
theorem dX3_put_35 : decode cX3_put 35 = .ok (.invokevirtual 131, 3) := by decide +kernel
theorem dX3_put_38 : decode cX3_put 38 = .ok (.pop, 1) := by decide +kernel
theorem dX3_put_39 : decode cX3_put 39 = .ok (.aload_n 3, 1) := by decide +kernel
theorem dX3_put_40 : decode cX3_put 40 = .ok (.ifnonnull 19, 3) := by decide +kernel
theorem dX3_put_43 : decode cX3_put 43 = .ok (.aload_n 0, 1) := by decide +kernel
theorem dX3_put_44 : decode cX3_put 44 = .ok (.getfield 15, 3) := by decide +kernel
theorem dX3_put_47 : decode cX3_put 47 = .ok (.iconst 4, 1) := by decide +kernel
theorem dX3_put_48 : decode cX3_put 48 = .ok (.aload_n 2, 1) := by decide +kernel
theorem dX3_put_49 : decode cX3_put 49 = .ok (.getfield 246, 3) := by decide +kernel
theorem dX3_put_52 : decode cX3_put 52 = .ok (.invokevirtual 151, 3) := by decide +kernel
theorem dX3_put_55 : decode cX3_put 55 = .ok (.pop, 1) := by decide +kernel
theorem dX3_put_56 : decode cX3_put 56 = .ok (.goto 60, 3) := by decide +kernel
theorem dX3_put_59 : decode cX3_put 59 = .ok (.aload_n 3, 1) := by decide +kernel
theorem dX3_put_60 : decode cX3_put 60 = .ok (.getfield 119, 3) := by decide +kernel
theorem dX3_put_63 : decode cX3_put 63 = .ok (.ifCond .eq 30, 3) := by decide +kernel
theorem dX3_put_66 : decode cX3_put 66 = .ok (.aload_n 0, 1) := by decide +kernel
theorem dX3_put_67 : decode cX3_put 67 = .ok (.getfield 15, 3) := by decide +kernel
theorem dX3_put_70 : decode cX3_put 70 = .ok (.bipush 33, 2) := by decide +kernel
theorem dX3_put_72 : decode cX3_put 72 = .ok (.aload_n 0, 1) := by decide +kernel
theorem dX3_put_73 : decode cX3_put 73 = .ok (.bipush 6, 2) := by decide +kernel
theorem dX3_put_75 : decode cX3_put 75 = .ok (.aload_n 2, 1) := by decide +kernel
theorem dX3_put_76 : decode cX3_put 76 = .ok (.getfield 279, 3) := by decide +kernel
theorem dX3_put_79 : decode cX3_put 79 = .ok (.aload_n 3, 1) := by decide +kernel
theorem dX3_put_80 : decode cX3_put 80 = .ok (.ldc2_w 129, 3) := by decide +kernel
theorem dX3_put_83 : decode cX3_put 83 = .ok (.invokevirtual 131, 3) := by decide +kernel
theorem dX3_put_86 : decode cX3_put 86 = .ok (.invokevirtual 151, 3) := by decide +kernel
theorem dX3_put_89 : decode cX3_put 89 = .ok (.pop, 1) := by decide +kernel
theorem dX3_put_90 : decode cX3_put 90 = .ok (.goto 26, 3) := by decide +kernel
theorem dX3_put_93 : decode cX3_put 93 = .ok (.aload_n 0, 1) := by decide +kernel
theorem dX3_put_94 : decode cX3_put 94 = .ok (.getfield 15, 3) := by decide +kernel
theorem dX3_put_97 : decode cX3_put 97 = .ok (.bipush 31, 2) := by decide +kernel
theorem dX3_put_99 : decode cX3_put 99 = .ok (.aload_n 0, 1) := by decide +kernel
theorem dX3_put_100 : decode cX3_put 100 = .ok (.iconst 4, 1) := by decide +kernel
theorem dX3_put_101 : decode cX3_put 101 = .ok (.aload_n 2, 1) := by decide +kernel
theorem dX3_put_102 : decode cX3_put 102 = .ok (.getfield 279, 3) := by decide +kernel
theorem dX3_put_105 : decode cX3_put 105 = .ok (.aload_n 3, 1) := by decide +kernel
theorem dX3_put_106 : decode cX3_put 106 = .ok (.ldc2_w 129, 3) := by decide +kernel
theorem dX3_put_109 : decode cX3_put 109 = .ok (.invokevirtual 131, 3) := by decide +kernel
theorem dX3_put_112 : decode cX3_put 112 = .ok (.invokevirtual 151, 3) := by decide +kernel
theorem dX3_put_115 : decode cX3_put 115 = .ok (.pop, 1) := by decide +kernel
theorem dX3_put_116 : decode cX3_put 116 = .ok (.return_, 1) := by decide +kernel
theorem dX3_expr_0 : decode cX3_expr 0 = .ok (.aload_n 1, 1) := by decide +kernel
theorem dX3_expr_1 : decode cX3_expr 1 = .ok (.ifnonnull 4, 3) := by decide +kernel
theorem dX3_expr_4 : decode cX3_expr 4 = .ok (.return_, 1) := by decide +kernel
theorem dX3_expr_5 : decode cX3_expr 5 = .ok (.aload_n 1, 1) := by decide +kernel
theorem dX3_expr_6 : decode cX3_expr 6 = .ok (.getfield 188, 3) := by decide +kernel
theorem dX3_expr_9 : decode cX3_expr 9 = .ok (.tableswitch 321 1 18 #[87, 104, 117, 130, 321, 130, 321, 321, 321, 138, 213, 248, 259, 321, 321, 321, 268, 276], 87) := by decide +kernel
theorem dX3_expr_96 : decode cX3_expr 96 = .ok (.aload_n 0, 1) := by decide +kernel
theorem dX3_expr_97 : decode cX3_expr 97 = .ok (.getfield 15, 3) := by decide +kernel
theorem dX3_expr_100 : decode cX3_expr 100 = .ok (.iconst 2, 1) := by decide +kernel
theorem dX3_expr_101 : decode cX3_expr 101 = .ok (.aload_n 1, 1) := by decide +kernel
theorem dX3_expr_102 : decode cX3_expr 102 = .ok (.getfield 279, 3) := by decide +kernel
theorem dX3_expr_105 : decode cX3_expr 105 = .ok (.l2i, 1) := by decide +kernel
theorem dX3_expr_106 : decode cX3_expr 106 = .ok (.invokevirtual 151, 3) := by decide +kernel
theorem dX3_expr_109 : decode cX3_expr 109 = .ok (.pop, 1) := by decide +kernel
theorem dX3_expr_110 : decode cX3_expr 110 = .ok (.goto 225, 3) := by decide +kernel
theorem dX3_expr_113 : decode cX3_expr 113 = .ok (.aload_n 0, 1) := by decide +kernel
theorem dX3_expr_114 : decode cX3_expr 114 = .ok (.getfield 15, 3) := by decide +kernel
theorem dX3_expr_117 : decode cX3_expr 117 = .ok (.iconst 2, 1) := by decide +kernel
theorem dX3_expr_118 : decode cX3_expr 118 = .ok (.iconst 0, 1) := by decide +kernel
theorem dX3_expr_119 : decode cX3_expr 119 = .ok (.invokevirtual 151, 3) := by decide +kernel
theorem dX3_expr_122 : decode cX3_expr 122 = .ok (.pop, 1) := by decide +kernel
theorem dX3_expr_123 : decode cX3_expr 123 = .ok (.goto 212, 3) := by decide +kernel
theorem dX3_expr_126 : decode cX3_expr 126 = .ok (.aload_n 0, 1) := by decide +kernel
theorem dX3_expr_127 : decode cX3_expr 127 = .ok (.getfield 15, 3) := by decide +kernel
theorem dX3_expr_130 : decode cX3_expr 130 = .ok (.iconst 3, 1) := by decide +kernel
theorem dX3_expr_131 : decode cX3_expr 131 = .ok (.iconst 0, 1) := by decide +kernel
theorem dX3_expr_132 : decode cX3_expr 132 = .ok (.invokevirtual 151, 3) := by decide +kernel
theorem dX3_expr_135 : decode cX3_expr 135 = .ok (.pop, 1) := by decide +kernel
theorem dX3_expr_136 : decode cX3_expr 136 = .ok (.goto 199, 3) := by decide +kernel
theorem dX3_expr_139 : decode cX3_expr 139 = .ok (.aload_n 0, 1) := by decide +kernel
theorem dX3_expr_140 : decode cX3_expr 140 = .ok (.aload_n 1, 1) := by decide +kernel
theorem dX3_expr_141 : decode cX3_expr 141 = .ok (.invokevirtual 282, 3) := by decide +kernel
theorem dX3_expr_144 : decode cX3_expr 144 = .ok (.goto 191, 3) := by decide +kernel
theorem dX3_expr_147 : decode cX3_expr 147 = .ok (.aload_n 0, 1) := by decide +kernel
theorem dX3_expr_148 : decode cX3_expr 148 = .ok (.getfield 15, 3) := by decide +kernel
theorem dX3_expr_151 : decode cX3_expr 151 = .ok (.bipush 35, 2) := by decide +kernel
theorem dX3_expr_153 : decode cX3_expr 153 = .ok (.aload_n 0, 1) := by decide +kernel
theorem dX3_expr_154 : decode cX3_expr 154 = .ok (.iconst 1, 1) := by decide +kernel
theorem dX3_expr_155 : decode cX3_expr 155 = .ok (.aload_n 1, 1) := by decide +kernel
theorem dX3_expr_156 : decode cX3_expr 156 = .ok (.getfield 279, 3) := by decide +kernel
theorem dX3_expr_159 : decode cX3_expr 159 = .ok (.aconst_null, 1) := by decide +kernel
theorem dX3_expr_160 : decode cX3_expr 160 = .ok (.ldc2_w 129, 3) := by decide +kernel
theorem dX3_expr_163 : decode cX3_expr 163 = .ok (.invokevirtual 131, 3) := by decide +kernel
theorem dX3_expr_166 : decode cX3_expr 166 = .ok (.invokevirtual 151, 3) := by decide +kernel
theorem dX3_expr_169 : decode cX3_expr 169 = .ok (.pop, 1) := by decide +kernel
theorem dX3_expr_170 : decode cX3_expr 170 = .ok (.aload_n 0, 1) := by decide +kernel
theorem dX3_expr_171 : decode cX3_expr 171 = .ok (.getfield 15, 3) := by decide +kernel
theorem dX3_expr_174 : decode cX3_expr 174 = .ok (.bipush 6, 2) := by decide +kernel
theorem dX3_expr_176 : decode cX3_expr 176 = .ok (.iconst 0, 1) := by decide +kernel
theorem dX3_expr_177 : decode cX3_expr 177 = .ok (.invokevirtual 151, 3) := by decide +kernel
theorem dX3_expr_180 : decode cX3_expr 180 = .ok (.pop, 1) := by decide +kernel
theorem dX3_expr_181 : decode cX3_expr 181 = .ok (.aload_n 0, 1) := by decide +kernel
theorem dX3_expr_182 : decode cX3_expr 182 = .ok (.aload_n 1, 1) := by decide +kernel
theorem dX3_expr_183 : decode cX3_expr 183 = .ok (.getfield 185, 3) := by decide +kernel
theorem dX3_expr_186 : decode cX3_expr 186 = .ok (.aload_n 1, 1) := by decide +kernel
theorem dX3_expr_187 : decode cX3_expr 187 = .ok (.getfield 191, 3) := by decide +kernel
theorem dX3_expr_190 : decode cX3_expr 190 = .ok (.invokevirtual 192, 3) := by decide +kernel
theorem dX3_expr_193 : decode cX3_expr 193 = .ok (.aload_n 0, 1) := by decide +kernel
theorem dX3_expr_194 : decode cX3_expr 194 = .ok (.getfield 15, 3) := by decide +kernel
theorem dX3_expr_197 : decode cX3_expr 197 = .ok (.bipush 36, 2) := by decide +kernel
theorem dX3_expr_199 : decode cX3_expr 199 = .ok (.aload_n 0, 1) := by decide +kernel
theorem dX3_expr_200 : decode cX3_expr 200 = .ok (.iconst 2, 1) := by decide +kernel
theorem dX3_expr_201 : decode cX3_expr 201 = .ok (.aload_n 1, 1) := by decide +kernel
theorem dX3_expr_202 : decode cX3_expr 202 = .ok (.getfield 279, 3) := by decide +kernel
theorem dX3_expr_205 : decode cX3_expr 205 = .ok (.aload_n 1, 1) := by decide +kernel
theorem dX3_expr_206 : decode cX3_expr 206 = .ok (.getfield 191, 3) := by decide +kernel
theorem dX3_expr_209 : decode cX3_expr 209 = .ok (.ldc2_w 129, 3) := by decide +kernel
theorem dX3_expr_212 : decode cX3_expr 212 = .ok (.invokevirtual 131, 3) := by decide +kernel
theorem dX3_expr_215 : decode cX3_expr 215 = .ok (.invokevirtual 151, 3) := by decide +kernel
theorem dX3_expr_218 : decode cX3_expr 218 = .ok (.pop, 1) := by decide +kernel
theorem dX3_expr_219 : decode cX3_expr 219 = .ok (.goto 116, 3) := by decide +kernel
theorem dX3_expr_222 : decode cX3_expr 222 = .ok (.aload_n 0, 1) := by decide +kernel
theorem dX3_expr_223 : decode cX3_expr 223 = .ok (.aload_n 1, 1) := by decide +kernel
theorem dX3_expr_224 : decode cX3_expr 224 = .ok (.getfield 185, 3) := by decide +kernel
theorem dX3_expr_227 : decode cX3_expr 227 = .ok (.invokevirtual 176, 3) := by decide +kernel
theorem dX3_expr_230 : decode cX3_expr 230 = .ok (.aload_n 0, 1) := by decide +kernel
theorem dX3_expr_231 : decode cX3_expr 231 = .ok (.getfield 15, 3) := by decide +kernel
theorem dX3_expr_234 : decode cX3_expr 234 = .ok (.bipush 37, 2) := by decide +kernel
theorem dX3_expr_236 : decode cX3_expr 236 = .ok (.aload_n 0, 1) := by decide +kernel
theorem dX3_expr_237 : decode cX3_expr 237 = .ok (.bipush 13, 2) := by decide +kernel
theorem dX3_expr_239 : decode cX3_expr 239 = .ok (.aload_n 1, 1) := by decide +kernel
theorem dX3_expr_240 : decode cX3_expr 240 = .ok (.getfield 279, 3) := by decide +kernel
theorem dX3_expr_243 : decode cX3_expr 243 = .ok (.aconst_null, 1) := by decide +kernel
theorem dX3_expr_244 : decode cX3_expr 244 = .ok (.ldc2_w 129, 3) := by decide +kernel
theorem dX3_expr_247 : decode cX3_expr 247 = .ok (.invokevirtual 131, 3) := by decide +kernel
theorem dX3_expr_250 : decode cX3_expr 250 = .ok (.invokevirtual 151, 3) := by decide +kernel
theorem dX3_expr_253 : decode cX3_expr 253 = .ok (.pop, 1) := by decide +kernel
theorem dX3_expr_254 : decode cX3_expr 254 = .ok (.goto 81, 3) := by decide +kernel
theorem dX3_expr_257 : decode cX3_expr 257 = .ok (.aload_n 0, 1) := by decide +kernel
theorem dX3_expr_258 : decode cX3_expr 258 = .ok (.aload_n 1, 1) := by decide +kernel
theorem dX3_expr_259 : decode cX3_expr 259 = .ok (.getfield 185, 3) := by decide +kernel
theorem dX3_expr_262 : decode cX3_expr 262 = .ok (.invokevirtual 176, 3) := by decide +kernel
theorem dX3_expr_265 : decode cX3_expr 265 = .ok (.goto 70, 3) := by decide +kernel
theorem dX3_expr_268 : decode cX3_expr 268 = .ok (.aload_n 0, 1) := by decide +kernel
theorem dX3_expr_269 : decode cX3_expr 269 = .ok (.aload_n 1, 1) := by decide +kernel
theorem dX3_expr_270 : decode cX3_expr 270 = .ok (.aconst_null, 1) := by decide +kernel
theorem dX3_expr_271 : decode cX3_expr 271 = .ok (.invokevirtual 266, 3) := by decide +kernel
theorem dX3_expr_274 : decode cX3_expr 274 = .ok (.goto 61, 3) := by decide +kernel
theorem dX3_expr_277 : decode cX3_expr 277 = .ok (.aload_n 0, 1) := by decide +kernel
theorem dX3_expr_278 : decode cX3_expr 278 = .ok (.aload_n 1, 1) := by decide +kernel
theorem dX3_expr_279 : decode cX3_expr 279 = .ok (.invokevirtual 285, 3) := by decide +kernel
theorem dX3_expr_282 : decode cX3_expr 282 = .ok (.goto 53, 3) := by decide +kernel
theorem dX3_expr_285 : decode cX3_expr 285 = .ok (.aload_n 0, 1) := by decide +kernel
theorem dX3_expr_286 : decode cX3_expr 286 = .ok (.aload_n 1, 1) := by decide +kernel
theorem dX3_expr_287 : decode cX3_expr 287 = .ok (.getfield 185, 3) := by decide +kernel
theorem dX3_expr_290 : decode cX3_expr 290 = .ok (.invokevirtual 176, 3) := by decide +kernel
theorem dX3_expr_293 : decode cX3_expr 293 = .ok (.aload_n 0, 1) := by decide +kernel
theorem dX3_expr_294 : decode cX3_expr 294 = .ok (.aload_n 1, 1) := by decide +kernel
theorem dX3_expr_295 : decode cX3_expr 295 = .ok (.getfield 270, 3) := by decide +kernel
theorem dX3_expr_298 : decode cX3_expr 298 = .ok (.invokevirtual 176, 3) := by decide +kernel
theorem dX3_expr_301 : decode cX3_expr 301 = .ok (.aload_n 0, 1) := by decide +kernel
theorem dX3_expr_302 : decode cX3_expr 302 = .ok (.getfield 15, 3) := by decide +kernel
theorem dX3_expr_305 : decode cX3_expr 305 = .ok (.aload_n 1, 1) := by decide +kernel
theorem dX3_expr_306 : decode cX3_expr 306 = .ok (.getfield 288, 3) := by decide +kernel
theorem dX3_expr_309 : decode cX3_expr 309 = .ok (.sipush 160, 3) := by decide +kernel
theorem dX3_expr_312 : decode cX3_expr 312 = .ok (.if_icmp .ne 8, 3) := by decide +kernel
theorem dX3_expr_315 : decode cX3_expr 315 = .ok (.bipush 10, 2) := by decide +kernel
theorem dX3_expr_317 : decode cX3_expr 317 = .ok (.goto 5, 3) := by decide +kernel
theorem dX3_expr_320 : decode cX3_expr 320 = .ok (.bipush 11, 2) := by decide +kernel
theorem dX3_expr_322 : decode cX3_expr 322 = .ok (.iconst 0, 1) := by decide +kernel
theorem dX3_expr_323 : decode cX3_expr 323 = .ok (.invokevirtual 151, 3) := by decide +kernel
theorem dX3_expr_326 : decode cX3_expr 326 = .ok (.pop, 1) := by decide +kernel
theorem dX3_expr_327 : decode cX3_expr 327 = .ok (.goto 8, 3) := by decide +kernel
theorem dX3_expr_330 : decode cX3_expr 330 = .ok (.aload_n 0, 1) := by decide +kernel
theorem dX3_expr_331 : decode cX3_expr 331 = .ok (.aload_n 1, 1) := by decide +kernel
theorem dX3_expr_332 : decode cX3_expr 332 = .ok (.invokevirtual 291, 3) := by decide +kernel
theorem dX3_expr_335 : decode cX3_expr 335 = .ok (.return_, 1) := by decide +kernel
theorem dX3_got_0 : decode cX3_got 0 = .ok (.aload_n 1, 1) := by decide +kernel
theorem dX3_got_1 : decode cX3_got 1 = .ok (.getfield 191, 3) := by decide +kernel
theorem dX3_got_4 : decode cX3_got 4 = .ok (.astore_n 2, 1) := by decide +kernel
theorem dX3_got_5 : decode cX3_got 5 = .ok (.aload_n 2, 1) := by decide +kernel
theorem dX3_got_6 : decode cX3_got 6 = .ok (.ifnonnull 19, 3) := by decide +kernel
theorem dX3_got_9 : decode cX3_got 9 = .ok (.aload_n 0, 1) := by decide +kernel
theorem dX3_got_10 : decode cX3_got 10 = .ok (.getfield 15, 3) := by decide +kernel
theorem dX3_got_13 : decode cX3_got 13 = .ok (.iconst 3, 1) := by decide +kernel
theorem dX3_got_14 : decode cX3_got 14 = .ok (.aload_n 1, 1) := by decide +kernel
theorem dX3_got_15 : decode cX3_got 15 = .ok (.getfield 246, 3) := by decide +kernel
theorem dX3_got_18 : decode cX3_got 18 = .ok (.invokevirtual 151, 3) := by decide +kernel
theorem dX3_got_21 : decode cX3_got 21 = .ok (.pop, 1) := by decide +kernel
theorem dX3_got_22 : decode cX3_got 22 = .ok (.goto 109, 3) := by decide +kernel
theorem dX3_got_25 : decode cX3_got 25 = .ok (.aload_n 2, 1) := by decide +kernel
theorem dX3_got_26 : decode cX3_got 26 = .ok (.getfield 173, 3) := by decide +kernel
theorem dX3_got_29 : decode cX3_got 29 = .ok (.ifCond .eq 36, 3) := by decide +kernel
theorem dX3_got_32 : decode cX3_got 32 = .ok (.aload_n 0, 1) := by decide +kernel
theorem dX3_got_33 : decode cX3_got 33 = .ok (.bipush 16, 2) := by decide +kernel
theorem dX3_got_35 : decode cX3_got 35 = .ok (.aload_n 1, 1) := by decide +kernel
theorem dX3_got_36 : decode cX3_got 36 = .ok (.getfield 279, 3) := by decide +kernel
theorem dX3_got_39 : decode cX3_got 39 = .ok (.aload_n 2, 1) := by decide +kernel
theorem dX3_got_40 : decode cX3_got 40 = .ok (.aload_n 2, 1) := by decide +kernel
theorem dX3_got_41 : decode cX3_got 41 = .ok (.getfield 294, 3) := by decide +kernel
theorem dX3_got_44 : decode cX3_got 44 = .ok (.i2l, 1) := by decide +kernel
theorem dX3_got_45 : decode cX3_got 45 = .ok (.invokevirtual 131, 3) := by decide +kernel
theorem dX3_got_48 : decode cX3_got 48 = .ok (.pop, 1) := by decide +kernel
theorem dX3_got_49 : decode cX3_got 49 = .ok (.aload_n 0, 1) := by decide +kernel
theorem dX3_got_50 : decode cX3_got 50 = .ok (.getfield 15, 3) := by decide +kernel
theorem dX3_got_53 : decode cX3_got 53 = .ok (.iconst 2, 1) := by decide +kernel
theorem dX3_got_54 : decode cX3_got 54 = .ok (.aload_n 2, 1) := by decide +kernel
theorem dX3_got_55 : decode cX3_got 55 = .ok (.getfield 294, 3) := by decide +kernel
theorem dX3_got_58 : decode cX3_got 58 = .ok (.invokevirtual 151, 3) := by decide +kernel
theorem dX3_got_61 : decode cX3_got 61 = .ok (.pop, 1) := by decide +kernel
theorem dX3_got_62 : decode cX3_got 62 = .ok (.goto 69, 3) := by decide +kernel
theorem dX3_got_65 : decode cX3_got 65 = .ok (.aload_n 2, 1) := by decide +kernel
theorem dX3_got_66 : decode cX3_got 66 = .ok (.getfield 119, 3) := by decide +kernel
theorem dX3_got_69 : decode cX3_got 69 = .ok (.ifCond .eq 29, 3) := by decide +kernel
theorem dX3_got_72 : decode cX3_got 72 = .ok (.aload_n 0, 1) := by decide +kernel
theorem dX3_got_73 : decode cX3_got 73 = .ok (.getfield 15, 3) := by decide +kernel
theorem dX3_got_76 : decode cX3_got 76 = .ok (.bipush 32, 2) := by decide +kernel
theorem dX3_got_78 : decode cX3_got 78 = .ok (.aload_n 0, 1) := by decide +kernel
theorem dX3_got_79 : decode cX3_got 79 = .ok (.iconst 5, 1) := by decide +kernel
theorem dX3_got_80 : decode cX3_got 80 = .ok (.aload_n 1, 1) := by decide +kernel
theorem dX3_got_81 : decode cX3_got 81 = .ok (.getfield 279, 3) := by decide +kernel
theorem dX3_got_84 : decode cX3_got 84 = .ok (.aload_n 2, 1) := by decide +kernel
theorem dX3_got_85 : decode cX3_got 85 = .ok (.ldc2_w 129, 3) := by decide +kernel
theorem dX3_got_88 : decode cX3_got 88 = .ok (.invokevirtual 131, 3) := by decide +kernel
theorem dX3_got_91 : decode cX3_got 91 = .ok (.invokevirtual 151, 3) := by decide +kernel
theorem dX3_got_94 : decode cX3_got 94 = .ok (.pop, 1) := by decide +kernel
theorem dX3_got_95 : decode cX3_got 95 = .ok (.goto 36, 3) := by decide +kernel
theorem dX3_got_98 : decode cX3_got 98 = .ok (.aload_n 0, 1) := by decide +kernel
theorem dX3_got_99 : decode cX3_got 99 = .ok (.getfield 15, 3) := by decide +kernel
theorem dX3_got_102 : decode cX3_got 102 = .ok (.iconst 3, 1) := by decide +kernel
theorem dX3_got_103 : decode cX3_got 103 = .ok (.iconst 0, 1) := by decide +kernel
theorem dX3_got_104 : decode cX3_got 104 = .ok (.invokevirtual 151, 3) := by decide +kernel
theorem dX3_got_107 : decode cX3_got 107 = .ok (.pop, 1) := by decide +kernel
theorem dX3_got_108 : decode cX3_got 108 = .ok (.aload_n 0, 1) := by decide +kernel
theorem dX3_got_109 : decode cX3_got 109 = .ok (.getfield 15, 3) := by decide +kernel
theorem dX3_got_112 : decode cX3_got 112 = .ok (.bipush 30, 2) := by decide +kernel
theorem dX3_got_114 : decode cX3_got 114 = .ok (.aload_n 0, 1) := by decide +kernel
theorem dX3_got_115 : decode cX3_got 115 = .ok (.iconst 3, 1) := by decide +kernel
theorem dX3_got_116 : decode cX3_got 116 = .ok (.aload_n 1, 1) := by decide +kernel
theorem dX3_got_117 : decode cX3_got 117 = .ok (.getfield 279, 3) := by decide +kernel
theorem dX3_got_120 : decode cX3_got 120 = .ok (.aload_n 2, 1) := by decide +kernel
theorem dX3_got_121 : decode cX3_got 121 = .ok (.ldc2_w 129, 3) := by decide +kernel
theorem dX3_got_124 : decode cX3_got 124 = .ok (.invokevirtual 131, 3) := by decide +kernel
theorem dX3_got_127 : decode cX3_got 127 = .ok (.invokevirtual 151, 3) := by decide +kernel
theorem dX3_got_130 : decode cX3_got 130 = .ok (.pop, 1) := by decide +kernel
theorem dX3_got_131 : decode cX3_got 131 = .ok (.return_, 1) := by decide +kernel
theorem dX3_call_0 : decode cX3_call 0 = .ok (.aload_n 1, 1) := by decide +kernel
theorem dX3_call_1 : decode cX3_call 1 = .ok (.getfield 191, 3) := by decide +kernel
theorem dX3_call_4 : decode cX3_call 4 = .ok (.astore_n 2, 1) := by decide +kernel
theorem dX3_call_5 : decode cX3_call 5 = .ok (.aload_n 2, 1) := by decide +kernel
theorem dX3_call_6 : decode cX3_call 6 = .ok (.ifnonnull 4, 3) := by decide +kernel
theorem dX3_call_9 : decode cX3_call 9 = .ok (.return_, 1) := by decide +kernel
theorem dX3_call_10 : decode cX3_call 10 = .ok (.aload_n 2, 1) := by decide +kernel
theorem dX3_call_11 : decode cX3_call 11 = .ok (.getfield 119, 3) := by decide +kernel
theorem dX3_call_14 : decode cX3_call 14 = .ok (.ifCond .ne 13, 3) := by decide +kernel
theorem dX3_call_17 : decode cX3_call 17 = .ok (.aload_n 0, 1) := by decide +kernel
theorem dX3_call_18 : decode cX3_call 18 = .ok (.getfield 15, 3) := by decide +kernel
theorem dX3_call_21 : decode cX3_call 21 = .ok (.iconst 3, 1) := by decide +kernel
theorem dX3_call_22 : decode cX3_call 22 = .ok (.iconst 0, 1) := by decide +kernel
theorem dX3_call_23 : decode cX3_call 23 = .ok (.invokevirtual 151, 3) := by decide +kernel
theorem dX3_call_26 : decode cX3_call 26 = .ok (.pop, 1) := by decide +kernel
theorem dX3_call_27 : decode cX3_call 27 = .ok (.aload_n 0, 1) := by decide +kernel
theorem dX3_call_28 : decode cX3_call 28 = .ok (.aload_n 1, 1) := by decide +kernel
theorem dX3_call_29 : decode cX3_call 29 = .ok (.getfield 185, 3) := by decide +kernel
theorem dX3_call_32 : decode cX3_call 32 = .ok (.aload_n 2, 1) := by decide +kernel
theorem dX3_call_33 : decode cX3_call 33 = .ok (.invokevirtual 192, 3) := by decide +kernel
theorem dX3_call_36 : decode cX3_call 36 = .ok (.aload_n 1, 1) := by decide +kernel
theorem dX3_call_37 : decode cX3_call 37 = .ok (.getfield 188, 3) := by decide +kernel
theorem dX3_call_40 : decode cX3_call 40 = .ok (.bipush 9, 2) := by decide +kernel
theorem dX3_call_42 : decode cX3_call 42 = .ok (.if_icmp .ne 8, 3) := by decide +kernel
theorem dX3_call_45 : decode cX3_call 45 = .ok (.bipush 11, 2) := by decide +kernel
theorem dX3_call_47 : decode cX3_call 47 = .ok (.goto 26, 3) := by decide +kernel
theorem dX3_call_50 : decode cX3_call 50 = .ok (.aload_n 1, 1) := by decide +kernel
theorem dX3_call_51 : decode cX3_call 51 = .ok (.getfield 188, 3) := by decide +kernel
theorem dX3_call_54 : decode cX3_call 54 = .ok (.bipush 8, 2) := by decide +kernel
theorem dX3_call_56 : decode cX3_call 56 = .ok (.if_icmp .ne 8, 3) := by decide +kernel
theorem dX3_call_59 : decode cX3_call 59 = .ok (.bipush 12, 2) := by decide +kernel
theorem dX3_call_61 : decode cX3_call 61 = .ok (.goto 12, 3) := by decide +kernel
theorem dX3_call_64 : decode cX3_call 64 = .ok (.aload_n 0, 1) := by decide +kernel
theorem dX3_call_65 : decode cX3_call 65 = .ok (.aload_n 1, 1) := by decide +kernel
theorem dX3_call_66 : decode cX3_call 66 = .ok (.getfield 279, 3) := by decide +kernel
theorem dX3_call_69 : decode cX3_call 69 = .ok (.aload_n 2, 1) := by decide +kernel
theorem dX3_call_70 : decode cX3_call 70 = .ok (.invokevirtual 297, 3) := by decide +kernel
theorem dX3_call_73 : decode cX3_call 73 = .ok (.istore_n 3, 1) := by decide +kernel
theorem dX3_call_74 : decode cX3_call 74 = .ok (.aload_n 0, 1) := by decide +kernel
theorem dX3_call_75 : decode cX3_call 75 = .ok (.getfield 15, 3) := by decide +kernel
theorem dX3_call_78 : decode cX3_call 78 = .ok (.bipush 34, 2) := by decide +kernel
theorem dX3_call_80 : decode cX3_call 80 = .ok (.aload_n 0, 1) := by decide +kernel
theorem dX3_call_81 : decode cX3_call 81 = .ok (.iload_n 3, 1) := by decide +kernel
theorem dX3_call_82 : decode cX3_call 82 = .ok (.aload_n 1, 1) := by decide +kernel
theorem dX3_call_83 : decode cX3_call 83 = .ok (.getfield 279, 3) := by decide +kernel
theorem dX3_call_86 : decode cX3_call 86 = .ok (.aload_n 2, 1) := by decide +kernel
theorem dX3_call_87 : decode cX3_call 87 = .ok (.ldc2_w 129, 3) := by decide +kernel
theorem dX3_call_90 : decode cX3_call 90 = .ok (.invokevirtual 131, 3) := by decide +kernel
theorem dX3_call_93 : decode cX3_call 93 = .ok (.invokevirtual 151, 3) := by decide +kernel
theorem dX3_call_96 : decode cX3_call 96 = .ok (.pop, 1) := by decide +kernel
theorem dX3_call_97 : decode cX3_call 97 = .ok (.return_, 1) := by decide +kernel
theorem dX3_callSort_0 : decode cX3_callSort 0 = .ok (.aload_n 0, 1) := by decide +kernel
theorem dX3_callSort_1 : decode cX3_callSort 1 = .ok (.getfield 9, 3) := by decide +kernel
theorem dX3_callSort_4 : decode cX3_callSort 4 = .ok (.lload_n 1, 1) := by decide +kernel
theorem dX3_callSort_5 : decode cX3_callSort 5 = .ok (.invokevirtual 301, 3) := by decide +kernel
theorem dX3_callSort_8 : decode cX3_callSort 8 = .ok (.istore 4, 2) := by decide +kernel
theorem dX3_callSort_10 : decode cX3_callSort 10 = .ok (.iload 4, 2) := by decide +kernel
theorem dX3_callSort_12 : decode cX3_callSort 12 = .ok (.ifCond .lt 23, 3) := by decide +kernel
theorem dX3_callSort_15 : decode cX3_callSort 15 = .ok (.aload_n 0, 1) := by decide +kernel
theorem dX3_callSort_16 : decode cX3_callSort 16 = .ok (.getfield 9, 3) := by decide +kernel
theorem dX3_callSort_19 : decode cX3_callSort 19 = .ok (.getfield 305, 3) := by decide +kernel
theorem dX3_callSort_22 : decode cX3_callSort 22 = .ok (.iload 4, 2) := by decide +kernel
theorem dX3_callSort_24 : decode cX3_callSort 24 = .ok (.aaload, 1) := by decide +kernel
theorem dX3_callSort_25 : decode cX3_callSort 25 = .ok (.getfield 207, 3) := by decide +kernel
theorem dX3_callSort_28 : decode cX3_callSort 28 = .ok (.ifCond .eq 7, 3) := by decide +kernel
theorem dX3_callSort_31 : decode cX3_callSort 31 = .ok (.iconst 1, 1) := by decide +kernel
theorem dX3_callSort_32 : decode cX3_callSort 32 = .ok (.goto 4, 3) := by decide +kernel
theorem dX3_callSort_35 : decode cX3_callSort 35 = .ok (.iconst 0, 1) := by decide +kernel
theorem dX3_callSort_36 : decode cX3_callSort 36 = .ok (.istore 5, 2) := by decide +kernel
theorem dX3_callSort_38 : decode cX3_callSort 38 = .ok (.aload_n 3, 1) := by decide +kernel
theorem dX3_callSort_39 : decode cX3_callSort 39 = .ok (.getfield 119, 3) := by decide +kernel
theorem dX3_callSort_42 : decode cX3_callSort 42 = .ok (.ifCond .eq 16, 3) := by decide +kernel
theorem dX3_callSort_45 : decode cX3_callSort 45 = .ok (.iload 5, 2) := by decide +kernel
theorem dX3_callSort_47 : decode cX3_callSort 47 = .ok (.ifCond .eq 8, 3) := by decide +kernel
theorem dX3_callSort_50 : decode cX3_callSort 50 = .ok (.bipush 10, 2) := by decide +kernel
theorem dX3_callSort_52 : decode cX3_callSort 52 = .ok (.goto 5, 3) := by decide +kernel
theorem dX3_callSort_55 : decode cX3_callSort 55 = .ok (.bipush 9, 2) := by decide +kernel
theorem dX3_callSort_57 : decode cX3_callSort 57 = .ok (.ireturn, 1) := by decide +kernel
theorem dX3_callSort_58 : decode cX3_callSort 58 = .ok (.iload 5, 2) := by decide +kernel
theorem dX3_callSort_60 : decode cX3_callSort 60 = .ok (.ifCond .eq 8, 3) := by decide +kernel
theorem dX3_callSort_63 : decode cX3_callSort 63 = .ok (.bipush 8, 2) := by decide +kernel
theorem dX3_callSort_65 : decode cX3_callSort 65 = .ok (.goto 5, 3) := by decide +kernel
theorem dX3_callSort_68 : decode cX3_callSort 68 = .ok (.bipush 7, 2) := by decide +kernel
theorem dX3_callSort_70 : decode cX3_callSort 70 = .ok (.ireturn, 1) := by decide +kernel
theorem dX3_unit_0 : decode cX3_unit 0 = .ok (.aload_n 0, 1) := by decide +kernel
theorem dX3_unit_1 : decode cX3_unit 1 = .ok (.aload_n 1, 1) := by decide +kernel
theorem dX3_unit_2 : decode cX3_unit 2 = .ok (.getfield 185, 3) := by decide +kernel
theorem dX3_unit_5 : decode cX3_unit 5 = .ok (.invokevirtual 176, 3) := by decide +kernel
theorem dX3_unit_8 : decode cX3_unit 8 = .ok (.aload_n 1, 1) := by decide +kernel
theorem dX3_unit_9 : decode cX3_unit 9 = .ok (.getfield 270, 3) := by decide +kernel
theorem dX3_unit_12 : decode cX3_unit 12 = .ok (.astore_n 3, 1) := by decide +kernel
theorem dX3_unit_13 : decode cX3_unit 13 = .ok (.aload_n 3, 1) := by decide +kernel
theorem dX3_unit_14 : decode cX3_unit 14 = .ok (.ifnull 146, 3) := by decide +kernel
theorem dX3_unit_17 : decode cX3_unit 17 = .ok (.aload_n 3, 1) := by decide +kernel
theorem dX3_unit_18 : decode cX3_unit 18 = .ok (.aload_n 2, 1) := by decide +kernel
theorem dX3_unit_19 : decode cX3_unit 19 = .ok (.if_acmp .eq 141, 3) := by decide +kernel
theorem dX3_unit_22 : decode cX3_unit 22 = .ok (.aload_n 3, 1) := by decide +kernel
theorem dX3_unit_23 : decode cX3_unit 23 = .ok (.getfield 188, 3) := by decide +kernel
theorem dX3_unit_26 : decode cX3_unit 26 = .ok (.bipush 16, 2) := by decide +kernel
theorem dX3_unit_28 : decode cX3_unit 28 = .ok (.if_icmp .ne 30, 3) := by decide +kernel
theorem dX3_unit_31 : decode cX3_unit 31 = .ok (.aload_n 0, 1) := by decide +kernel
theorem dX3_unit_32 : decode cX3_unit 32 = .ok (.getfield 15, 3) := by decide +kernel
theorem dX3_unit_35 : decode cX3_unit 35 = .ok (.bipush 38, 2) := by decide +kernel
theorem dX3_unit_37 : decode cX3_unit 37 = .ok (.aload_n 0, 1) := by decide +kernel
theorem dX3_unit_38 : decode cX3_unit 38 = .ok (.bipush 14, 2) := by decide +kernel
theorem dX3_unit_40 : decode cX3_unit 40 = .ok (.aload_n 3, 1) := by decide +kernel
theorem dX3_unit_41 : decode cX3_unit 41 = .ok (.getfield 279, 3) := by decide +kernel
theorem dX3_unit_44 : decode cX3_unit 44 = .ok (.aconst_null, 1) := by decide +kernel
theorem dX3_unit_45 : decode cX3_unit 45 = .ok (.ldc2_w 129, 3) := by decide +kernel
theorem dX3_unit_48 : decode cX3_unit 48 = .ok (.invokevirtual 131, 3) := by decide +kernel
theorem dX3_unit_51 : decode cX3_unit 51 = .ok (.invokevirtual 151, 3) := by decide +kernel
theorem dX3_unit_54 : decode cX3_unit 54 = .ok (.pop, 1) := by decide +kernel
theorem dX3_unit_55 : decode cX3_unit 55 = .ok (.goto 97, 3) := by decide +kernel
theorem dX3_unit_58 : decode cX3_unit 58 = .ok (.aload_n 3, 1) := by decide +kernel
theorem dX3_unit_59 : decode cX3_unit 59 = .ok (.getfield 188, 3) := by decide +kernel
theorem dX3_unit_62 : decode cX3_unit 62 = .ok (.bipush 14, 2) := by decide +kernel
theorem dX3_unit_64 : decode cX3_unit 64 = .ok (.if_icmp .ne 32, 3) := by decide +kernel
theorem dX3_unit_67 : decode cX3_unit 67 = .ok (.aload_n 0, 1) := by decide +kernel
theorem dX3_unit_68 : decode cX3_unit 68 = .ok (.getfield 15, 3) := by decide +kernel
theorem dX3_unit_71 : decode cX3_unit 71 = .ok (.bipush 30, 2) := by decide +kernel
theorem dX3_unit_73 : decode cX3_unit 73 = .ok (.aload_n 0, 1) := by decide +kernel
theorem dX3_unit_74 : decode cX3_unit 74 = .ok (.iconst 3, 1) := by decide +kernel
theorem dX3_unit_75 : decode cX3_unit 75 = .ok (.aload_n 3, 1) := by decide +kernel
theorem dX3_unit_76 : decode cX3_unit 76 = .ok (.getfield 279, 3) := by decide +kernel
theorem dX3_unit_79 : decode cX3_unit 79 = .ok (.aload_n 3, 1) := by decide +kernel
theorem dX3_unit_80 : decode cX3_unit 80 = .ok (.getfield 191, 3) := by decide +kernel
theorem dX3_unit_83 : decode cX3_unit 83 = .ok (.ldc2_w 129, 3) := by decide +kernel
theorem dX3_unit_86 : decode cX3_unit 86 = .ok (.invokevirtual 131, 3) := by decide +kernel
theorem dX3_unit_89 : decode cX3_unit 89 = .ok (.invokevirtual 151, 3) := by decide +kernel
theorem dX3_unit_92 : decode cX3_unit 92 = .ok (.pop, 1) := by decide +kernel
theorem dX3_unit_93 : decode cX3_unit 93 = .ok (.goto 59, 3) := by decide +kernel
theorem dX3_unit_96 : decode cX3_unit 96 = .ok (.aload_n 3, 1) := by decide +kernel
theorem dX3_unit_97 : decode cX3_unit 97 = .ok (.getfield 191, 3) := by decide +kernel
theorem dX3_unit_100 : decode cX3_unit 100 = .ok (.ifnull 52, 3) := by decide +kernel
theorem dX3_unit_103 : decode cX3_unit 103 = .ok (.aload_n 0, 1) := by decide +kernel
theorem dX3_unit_104 : decode cX3_unit 104 = .ok (.aload_n 3, 1) := by decide +kernel
theorem dX3_unit_105 : decode cX3_unit 105 = .ok (.getfield 185, 3) := by decide +kernel
theorem dX3_unit_108 : decode cX3_unit 108 = .ok (.aload_n 3, 1) := by decide +kernel
theorem dX3_unit_109 : decode cX3_unit 109 = .ok (.getfield 191, 3) := by decide +kernel
theorem dX3_unit_112 : decode cX3_unit 112 = .ok (.invokevirtual 192, 3) := by decide +kernel
theorem dX3_unit_115 : decode cX3_unit 115 = .ok (.aload_n 0, 1) := by decide +kernel
theorem dX3_unit_116 : decode cX3_unit 116 = .ok (.getfield 15, 3) := by decide +kernel
theorem dX3_unit_119 : decode cX3_unit 119 = .ok (.bipush 34, 2) := by decide +kernel
theorem dX3_unit_121 : decode cX3_unit 121 = .ok (.aload_n 0, 1) := by decide +kernel
theorem dX3_unit_122 : decode cX3_unit 122 = .ok (.aload_n 0, 1) := by decide +kernel
theorem dX3_unit_123 : decode cX3_unit 123 = .ok (.aload_n 3, 1) := by decide +kernel
theorem dX3_unit_124 : decode cX3_unit 124 = .ok (.getfield 279, 3) := by decide +kernel
theorem dX3_unit_127 : decode cX3_unit 127 = .ok (.aload_n 3, 1) := by decide +kernel
theorem dX3_unit_128 : decode cX3_unit 128 = .ok (.getfield 191, 3) := by decide +kernel
theorem dX3_unit_131 : decode cX3_unit 131 = .ok (.invokevirtual 297, 3) := by decide +kernel
theorem dX3_unit_134 : decode cX3_unit 134 = .ok (.aload_n 3, 1) := by decide +kernel
theorem dX3_unit_135 : decode cX3_unit 135 = .ok (.getfield 279, 3) := by decide +kernel
theorem dX3_unit_138 : decode cX3_unit 138 = .ok (.aload_n 3, 1) := by decide +kernel
theorem dX3_unit_139 : decode cX3_unit 139 = .ok (.getfield 191, 3) := by decide +kernel
theorem dX3_unit_142 : decode cX3_unit 142 = .ok (.ldc2_w 129, 3) := by decide +kernel
theorem dX3_unit_145 : decode cX3_unit 145 = .ok (.invokevirtual 131, 3) := by decide +kernel
theorem dX3_unit_148 : decode cX3_unit 148 = .ok (.invokevirtual 151, 3) := by decide +kernel
theorem dX3_unit_151 : decode cX3_unit 151 = .ok (.pop, 1) := by decide +kernel
theorem dX3_unit_152 : decode cX3_unit 152 = .ok (.aload_n 3, 1) := by decide +kernel
theorem dX3_unit_153 : decode cX3_unit 153 = .ok (.getfield 196, 3) := by decide +kernel
theorem dX3_unit_156 : decode cX3_unit 156 = .ok (.astore_n 3, 1) := by decide +kernel
theorem dX3_unit_157 : decode cX3_unit 157 = .ok (.goto (-144), 3) := by decide +kernel
theorem dX3_unit_160 : decode cX3_unit 160 = .ok (.return_, 1) := by decide +kernel
theorem dX3_chain_0 : decode cX3_chain 0 = .ok (.aload_n 0, 1) := by decide +kernel
theorem dX3_chain_1 : decode cX3_chain 1 = .ok (.aload_n 1, 1) := by decide +kernel
theorem dX3_chain_2 : decode cX3_chain 2 = .ok (.getfield 185, 3) := by decide +kernel
theorem dX3_chain_5 : decode cX3_chain 5 = .ok (.invokevirtual 176, 3) := by decide +kernel
theorem dX3_chain_8 : decode cX3_chain 8 = .ok (.aload_n 1, 1) := by decide +kernel
theorem dX3_chain_9 : decode cX3_chain 9 = .ok (.getfield 185, 3) := by decide +kernel
theorem dX3_chain_12 : decode cX3_chain 12 = .ok (.ifnonnull 7, 3) := by decide +kernel
theorem dX3_chain_15 : decode cX3_chain 15 = .ok (.aconst_null, 1) := by decide +kernel
theorem dX3_chain_16 : decode cX3_chain 16 = .ok (.goto 10, 3) := by decide +kernel
theorem dX3_chain_19 : decode cX3_chain 19 = .ok (.aload_n 1, 1) := by decide +kernel
theorem dX3_chain_20 : decode cX3_chain 20 = .ok (.getfield 185, 3) := by decide +kernel
theorem dX3_chain_23 : decode cX3_chain 23 = .ok (.getfield 196, 3) := by decide +kernel
theorem dX3_chain_26 : decode cX3_chain 26 = .ok (.astore_n 2, 1) := by decide +kernel
theorem dX3_chain_27 : decode cX3_chain 27 = .ok (.aload_n 2, 1) := by decide +kernel
theorem dX3_chain_28 : decode cX3_chain 28 = .ok (.ifnull 57, 3) := by decide +kernel
theorem dX3_chain_31 : decode cX3_chain 31 = .ok (.aload_n 0, 1) := by decide +kernel
theorem dX3_chain_32 : decode cX3_chain 32 = .ok (.aload_n 2, 1) := by decide +kernel
theorem dX3_chain_33 : decode cX3_chain 33 = .ok (.invokevirtual 176, 3) := by decide +kernel
theorem dX3_chain_36 : decode cX3_chain 36 = .ok (.aload_n 0, 1) := by decide +kernel
theorem dX3_chain_37 : decode cX3_chain 37 = .ok (.getfield 15, 3) := by decide +kernel
theorem dX3_chain_40 : decode cX3_chain 40 = .ok (.aload_n 2, 1) := by decide +kernel
theorem dX3_chain_41 : decode cX3_chain 41 = .ok (.getfield 288, 3) := by decide +kernel
theorem dX3_chain_44 : decode cX3_chain 44 = .ok (.sipush 143, 3) := by decide +kernel
theorem dX3_chain_47 : decode cX3_chain 47 = .ok (.if_icmp .ne 8, 3) := by decide +kernel
theorem dX3_chain_50 : decode cX3_chain 50 = .ok (.bipush 7, 2) := by decide +kernel
theorem dX3_chain_52 : decode cX3_chain 52 = .ok (.goto 20, 3) := by decide +kernel
theorem dX3_chain_55 : decode cX3_chain 55 = .ok (.aload_n 2, 1) := by decide +kernel
theorem dX3_chain_56 : decode cX3_chain 56 = .ok (.getfield 288, 3) := by decide +kernel
theorem dX3_chain_59 : decode cX3_chain 59 = .ok (.sipush 145, 3) := by decide +kernel
theorem dX3_chain_62 : decode cX3_chain 62 = .ok (.if_icmp .ne 8, 3) := by decide +kernel
theorem dX3_chain_65 : decode cX3_chain 65 = .ok (.bipush 8, 2) := by decide +kernel
theorem dX3_chain_67 : decode cX3_chain 67 = .ok (.goto 5, 3) := by decide +kernel
theorem dX3_chain_70 : decode cX3_chain 70 = .ok (.bipush 9, 2) := by decide +kernel
theorem dX3_chain_72 : decode cX3_chain 72 = .ok (.iconst 0, 1) := by decide +kernel
theorem dX3_chain_73 : decode cX3_chain 73 = .ok (.invokevirtual 151, 3) := by decide +kernel
theorem dX3_chain_76 : decode cX3_chain 76 = .ok (.pop, 1) := by decide +kernel
theorem dX3_chain_77 : decode cX3_chain 77 = .ok (.aload_n 2, 1) := by decide +kernel
theorem dX3_chain_78 : decode cX3_chain 78 = .ok (.getfield 196, 3) := by decide +kernel
theorem dX3_chain_81 : decode cX3_chain 81 = .ok (.astore_n 2, 1) := by decide +kernel
theorem dX3_chain_82 : decode cX3_chain 82 = .ok (.goto (-55), 3) := by decide +kernel
theorem dX3_chain_85 : decode cX3_chain 85 = .ok (.return_, 1) := by decide +kernel
theorem dX3_copyRow_0 : decode cX3_copyRow 0 = .ok (.aload_n 2, 1) := by decide +kernel
theorem dX3_copyRow_1 : decode cX3_copyRow 1 = .ok (.getfield 28, 3) := by decide +kernel
theorem dX3_copyRow_4 : decode cX3_copyRow 4 = .ok (.iload_n 3, 1) := by decide +kernel
theorem dX3_copyRow_5 : decode cX3_copyRow 5 = .ok (.aaload, 1) := by decide +kernel
theorem dX3_copyRow_6 : decode cX3_copyRow 6 = .ok (.astore 4, 2) := by decide +kernel
theorem dX3_copyRow_8 : decode cX3_copyRow 8 = .ok (.aload_n 1, 1) := by decide +kernel
theorem dX3_copyRow_9 : decode cX3_copyRow 9 = .ok (.invokevirtual 307, 3) := by decide +kernel
theorem dX3_copyRow_12 : decode cX3_copyRow 12 = .ok (.astore 5, 2) := by decide +kernel
theorem dX3_copyRow_14 : decode cX3_copyRow 14 = .ok (.aload 5, 2) := by decide +kernel
theorem dX3_copyRow_16 : decode cX3_copyRow 16 = .ok (.ifnonnull 4, 3) := by decide +kernel
theorem dX3_copyRow_19 : decode cX3_copyRow 19 = .ok (.return_, 1) := by decide +kernel
theorem dX3_copyRow_20 : decode cX3_copyRow 20 = .ok (.aload_n 0, 1) := by decide +kernel
theorem dX3_copyRow_21 : decode cX3_copyRow 21 = .ok (.aload_n 1, 1) := by decide +kernel
theorem dX3_copyRow_22 : decode cX3_copyRow 22 = .ok (.putfield 15, 3) := by decide +kernel
theorem dX3_copyRow_25 : decode cX3_copyRow 25 = .ok (.aload_n 0, 1) := by decide +kernel
theorem dX3_copyRow_26 : decode cX3_copyRow 26 = .ok (.aload 5, 2) := by decide +kernel
theorem dX3_copyRow_28 : decode cX3_copyRow 28 = .ok (.putfield 36, 3) := by decide +kernel
theorem dX3_copyRow_31 : decode cX3_copyRow 31 = .ok (.aload_n 0, 1) := by decide +kernel
theorem dX3_copyRow_32 : decode cX3_copyRow 32 = .ok (.iload_n 3, 1) := by decide +kernel
theorem dX3_copyRow_33 : decode cX3_copyRow 33 = .ok (.putfield 25, 3) := by decide +kernel
theorem dX3_copyRow_36 : decode cX3_copyRow 36 = .ok (.aload 5, 2) := by decide +kernel
theorem dX3_copyRow_38 : decode cX3_copyRow 38 = .ok (.aload 4, 2) := by decide +kernel
theorem dX3_copyRow_40 : decode cX3_copyRow 40 = .ok (.getfield 210, 3) := by decide +kernel
theorem dX3_copyRow_43 : decode cX3_copyRow 43 = .ok (.putfield 210, 3) := by decide +kernel
theorem dX3_copyRow_46 : decode cX3_copyRow 46 = .ok (.aload 5, 2) := by decide +kernel
theorem dX3_copyRow_48 : decode cX3_copyRow 48 = .ok (.aload 4, 2) := by decide +kernel
theorem dX3_copyRow_50 : decode cX3_copyRow 50 = .ok (.getfield 311, 3) := by decide +kernel
theorem dX3_copyRow_53 : decode cX3_copyRow 53 = .ok (.putfield 311, 3) := by decide +kernel
theorem dX3_copyRow_56 : decode cX3_copyRow 56 = .ok (.aload 5, 2) := by decide +kernel
theorem dX3_copyRow_58 : decode cX3_copyRow 58 = .ok (.aload 4, 2) := by decide +kernel
theorem dX3_copyRow_60 : decode cX3_copyRow 60 = .ok (.getfield 314, 3) := by decide +kernel
theorem dX3_copyRow_63 : decode cX3_copyRow 63 = .ok (.putfield 314, 3) := by decide +kernel
theorem dX3_copyRow_66 : decode cX3_copyRow 66 = .ok (.aload 5, 2) := by decide +kernel
theorem dX3_copyRow_68 : decode cX3_copyRow 68 = .ok (.aload 4, 2) := by decide +kernel
theorem dX3_copyRow_70 : decode cX3_copyRow 70 = .ok (.getfield 207, 3) := by decide +kernel
theorem dX3_copyRow_73 : decode cX3_copyRow 73 = .ok (.putfield 207, 3) := by decide +kernel
theorem dX3_copyRow_76 : decode cX3_copyRow 76 = .ok (.aload 5, 2) := by decide +kernel
theorem dX3_copyRow_78 : decode cX3_copyRow 78 = .ok (.aload 4, 2) := by decide +kernel
theorem dX3_copyRow_80 : decode cX3_copyRow 80 = .ok (.getfield 317, 3) := by decide +kernel
theorem dX3_copyRow_83 : decode cX3_copyRow 83 = .ok (.putfield 317, 3) := by decide +kernel
theorem dX3_copyRow_86 : decode cX3_copyRow 86 = .ok (.aload 5, 2) := by decide +kernel
theorem dX3_copyRow_88 : decode cX3_copyRow 88 = .ok (.aload 4, 2) := by decide +kernel
theorem dX3_copyRow_90 : decode cX3_copyRow 90 = .ok (.getfield 320, 3) := by decide +kernel
theorem dX3_copyRow_93 : decode cX3_copyRow 93 = .ok (.putfield 320, 3) := by decide +kernel
theorem dX3_copyRow_96 : decode cX3_copyRow 96 = .ok (.aload 5, 2) := by decide +kernel
theorem dX3_copyRow_98 : decode cX3_copyRow 98 = .ok (.aload 4, 2) := by decide +kernel
theorem dX3_copyRow_100 : decode cX3_copyRow 100 = .ok (.getfield 122, 3) := by decide +kernel
theorem dX3_copyRow_103 : decode cX3_copyRow 103 = .ok (.putfield 122, 3) := by decide +kernel
theorem dX3_copyRow_106 : decode cX3_copyRow 106 = .ok (.aload 5, 2) := by decide +kernel
theorem dX3_copyRow_108 : decode cX3_copyRow 108 = .ok (.aload 4, 2) := by decide +kernel
theorem dX3_copyRow_110 : decode cX3_copyRow 110 = .ok (.getfield 125, 3) := by decide +kernel
theorem dX3_copyRow_113 : decode cX3_copyRow 113 = .ok (.putfield 125, 3) := by decide +kernel
theorem dX3_copyRow_116 : decode cX3_copyRow 116 = .ok (.aload 5, 2) := by decide +kernel
theorem dX3_copyRow_118 : decode cX3_copyRow 118 = .ok (.aload 4, 2) := by decide +kernel
theorem dX3_copyRow_120 : decode cX3_copyRow 120 = .ok (.getfield 323, 3) := by decide +kernel
theorem dX3_copyRow_123 : decode cX3_copyRow 123 = .ok (.putfield 323, 3) := by decide +kernel
theorem dX3_copyRow_126 : decode cX3_copyRow 126 = .ok (.aload 4, 2) := by decide +kernel
theorem dX3_copyRow_128 : decode cX3_copyRow 128 = .ok (.getfield 326, 3) := by decide +kernel
theorem dX3_copyRow_131 : decode cX3_copyRow 131 = .ok (.iconst 0, 1) := by decide +kernel
theorem dX3_copyRow_132 : decode cX3_copyRow 132 = .ok (.aload 5, 2) := by decide +kernel
theorem dX3_copyRow_134 : decode cX3_copyRow 134 = .ok (.getfield 326, 3) := by decide +kernel
theorem dX3_copyRow_137 : decode cX3_copyRow 137 = .ok (.iconst 0, 1) := by decide +kernel
theorem dX3_copyRow_138 : decode cX3_copyRow 138 = .ok (.aload 4, 2) := by decide +kernel
theorem dX3_copyRow_140 : decode cX3_copyRow 140 = .ok (.getfield 326, 3) := by decide +kernel
theorem dX3_copyRow_143 : decode cX3_copyRow 143 = .ok (.arraylength, 1) := by decide +kernel
theorem dX3_copyRow_144 : decode cX3_copyRow 144 = .ok (.invokestatic 329, 3) := by decide +kernel
theorem dX3_copyRow_147 : decode cX3_copyRow 147 = .ok (.aload 4, 2) := by decide +kernel
theorem dX3_copyRow_149 : decode cX3_copyRow 149 = .ok (.getfield 135, 3) := by decide +kernel
theorem dX3_copyRow_152 : decode cX3_copyRow 152 = .ok (.iconst 0, 1) := by decide +kernel
theorem dX3_copyRow_153 : decode cX3_copyRow 153 = .ok (.aload 5, 2) := by decide +kernel
theorem dX3_copyRow_155 : decode cX3_copyRow 155 = .ok (.getfield 135, 3) := by decide +kernel
theorem dX3_copyRow_158 : decode cX3_copyRow 158 = .ok (.iconst 0, 1) := by decide +kernel
theorem dX3_copyRow_159 : decode cX3_copyRow 159 = .ok (.aload 4, 2) := by decide +kernel
theorem dX3_copyRow_161 : decode cX3_copyRow 161 = .ok (.getfield 135, 3) := by decide +kernel
theorem dX3_copyRow_164 : decode cX3_copyRow 164 = .ok (.arraylength, 1) := by decide +kernel
theorem dX3_copyRow_165 : decode cX3_copyRow 165 = .ok (.invokestatic 329, 3) := by decide +kernel
theorem dX3_copyRow_168 : decode cX3_copyRow 168 = .ok (.iconst 0, 1) := by decide +kernel
theorem dX3_copyRow_169 : decode cX3_copyRow 169 = .ok (.istore 6, 2) := by decide +kernel
theorem dX3_copyRow_171 : decode cX3_copyRow 171 = .ok (.iload 6, 2) := by decide +kernel
theorem dX3_copyRow_173 : decode cX3_copyRow 173 = .ok (.aload 4, 2) := by decide +kernel
theorem dX3_copyRow_175 : decode cX3_copyRow 175 = .ok (.getfield 40, 3) := by decide +kernel
theorem dX3_copyRow_178 : decode cX3_copyRow 178 = .ok (.if_icmp .ge 22, 3) := by decide +kernel
theorem dX3_copyRow_181 : decode cX3_copyRow 181 = .ok (.aload 5, 2) := by decide +kernel
theorem dX3_copyRow_183 : decode cX3_copyRow 183 = .ok (.aload 4, 2) := by decide +kernel
theorem dX3_copyRow_185 : decode cX3_copyRow 185 = .ok (.getfield 45, 3) := by decide +kernel
theorem dX3_copyRow_188 : decode cX3_copyRow 188 = .ok (.iload 6, 2) := by decide +kernel
theorem dX3_copyRow_190 : decode cX3_copyRow 190 = .ok (.aaload, 1) := by decide +kernel
theorem dX3_copyRow_191 : decode cX3_copyRow 191 = .ok (.invokevirtual 335, 3) := by decide +kernel
theorem dX3_copyRow_194 : decode cX3_copyRow 194 = .ok (.iinc 6 1, 3) := by decide +kernel
theorem dX3_copyRow_197 : decode cX3_copyRow 197 = .ok (.goto (-26), 3) := by decide +kernel
theorem dX3_copyRow_200 : decode cX3_copyRow 200 = .ok (.iconst 0, 1) := by decide +kernel
theorem dX3_copyRow_201 : decode cX3_copyRow 201 = .ok (.istore 6, 2) := by decide +kernel
theorem dX3_copyRow_203 : decode cX3_copyRow 203 = .ok (.iload 6, 2) := by decide +kernel
theorem dX3_copyRow_205 : decode cX3_copyRow 205 = .ok (.aload 4, 2) := by decide +kernel
theorem dX3_copyRow_207 : decode cX3_copyRow 207 = .ok (.getfield 72, 3) := by decide +kernel
theorem dX3_copyRow_210 : decode cX3_copyRow 210 = .ok (.if_icmp .ge 22, 3) := by decide +kernel
theorem dX3_copyRow_213 : decode cX3_copyRow 213 = .ok (.aload 5, 2) := by decide +kernel
theorem dX3_copyRow_215 : decode cX3_copyRow 215 = .ok (.aload 4, 2) := by decide +kernel
theorem dX3_copyRow_217 : decode cX3_copyRow 217 = .ok (.getfield 75, 3) := by decide +kernel
theorem dX3_copyRow_220 : decode cX3_copyRow 220 = .ok (.iload 6, 2) := by decide +kernel
theorem dX3_copyRow_222 : decode cX3_copyRow 222 = .ok (.aaload, 1) := by decide +kernel
theorem dX3_copyRow_223 : decode cX3_copyRow 223 = .ok (.invokevirtual 338, 3) := by decide +kernel
theorem dX3_copyRow_226 : decode cX3_copyRow 226 = .ok (.iinc 6 1, 3) := by decide +kernel
theorem dX3_copyRow_229 : decode cX3_copyRow 229 = .ok (.goto (-26), 3) := by decide +kernel
theorem dX3_copyRow_232 : decode cX3_copyRow 232 = .ok (.aload 5, 2) := by decide +kernel
theorem dX3_copyRow_234 : decode cX3_copyRow 234 = .ok (.aload 4, 2) := by decide +kernel
theorem dX3_copyRow_236 : decode cX3_copyRow 236 = .ok (.getfield 101, 3) := by decide +kernel
theorem dX3_copyRow_239 : decode cX3_copyRow 239 = .ok (.putfield 101, 3) := by decide +kernel
theorem dX3_copyRow_242 : decode cX3_copyRow 242 = .ok (.aload 5, 2) := by decide +kernel
theorem dX3_copyRow_244 : decode cX3_copyRow 244 = .ok (.aload 4, 2) := by decide +kernel
theorem dX3_copyRow_246 : decode cX3_copyRow 246 = .ok (.getfield 107, 3) := by decide +kernel
theorem dX3_copyRow_249 : decode cX3_copyRow 249 = .ok (.putfield 107, 3) := by decide +kernel
theorem dX3_copyRow_252 : decode cX3_copyRow 252 = .ok (.aload 5, 2) := by decide +kernel
theorem dX3_copyRow_254 : decode cX3_copyRow 254 = .ok (.aload 4, 2) := by decide +kernel
theorem dX3_copyRow_256 : decode cX3_copyRow 256 = .ok (.getfield 110, 3) := by decide +kernel
theorem dX3_copyRow_259 : decode cX3_copyRow 259 = .ok (.putfield 110, 3) := by decide +kernel
theorem dX3_copyRow_262 : decode cX3_copyRow 262 = .ok (.aload 5, 2) := by decide +kernel
theorem dX3_copyRow_264 : decode cX3_copyRow 264 = .ok (.aload_n 1, 1) := by decide +kernel
theorem dX3_copyRow_265 : decode cX3_copyRow 265 = .ok (.getfield 91, 3) := by decide +kernel
theorem dX3_copyRow_268 : decode cX3_copyRow 268 = .ok (.putfield 94, 3) := by decide +kernel
theorem dX3_copyRow_271 : decode cX3_copyRow 271 = .ok (.aload 4, 2) := by decide +kernel
theorem dX3_copyRow_273 : decode cX3_copyRow 273 = .ok (.getfield 94, 3) := by decide +kernel
theorem dX3_copyRow_276 : decode cX3_copyRow 276 = .ok (.istore 6, 2) := by decide +kernel
theorem dX3_copyRow_278 : decode cX3_copyRow 278 = .ok (.iload 6, 2) := by decide +kernel
theorem dX3_copyRow_280 : decode cX3_copyRow 280 = .ok (.aload 4, 2) := by decide +kernel
theorem dX3_copyRow_282 : decode cX3_copyRow 282 = .ok (.getfield 94, 3) := by decide +kernel
theorem dX3_copyRow_285 : decode cX3_copyRow 285 = .ok (.aload 4, 2) := by decide +kernel
theorem dX3_copyRow_287 : decode cX3_copyRow 287 = .ok (.getfield 143, 3) := by decide +kernel
theorem dX3_copyRow_290 : decode cX3_copyRow 290 = .ok (.iadd, 1) := by decide +kernel
theorem dX3_copyRow_291 : decode cX3_copyRow 291 = .ok (.if_icmp .ge 101, 3) := by decide +kernel
theorem dX3_copyRow_294 : decode cX3_copyRow 294 = .ok (.aload_n 1, 1) := by decide +kernel
theorem dX3_copyRow_295 : decode cX3_copyRow 295 = .ok (.getfield 91, 3) := by decide +kernel
theorem dX3_copyRow_298 : decode cX3_copyRow 298 = .ok (.aload_n 1, 1) := by decide +kernel
theorem dX3_copyRow_299 : decode cX3_copyRow 299 = .ok (.getfield 222, 3) := by decide +kernel
theorem dX3_copyRow_302 : decode cX3_copyRow 302 = .ok (.arraylength, 1) := by decide +kernel
theorem dX3_copyRow_303 : decode cX3_copyRow 303 = .ok (.if_icmp .ge 89, 3) := by decide +kernel
theorem dX3_copyRow_306 : decode cX3_copyRow 306 = .ok (.aload_n 1, 1) := by decide +kernel
theorem dX3_copyRow_307 : decode cX3_copyRow 307 = .ok (.getfield 91, 3) := by decide +kernel
theorem dX3_copyRow_310 : decode cX3_copyRow 310 = .ok (.istore 7, 2) := by decide +kernel
theorem dX3_copyRow_312 : decode cX3_copyRow 312 = .ok (.aload_n 1, 1) := by decide +kernel
theorem dX3_copyRow_313 : decode cX3_copyRow 313 = .ok (.getfield 222, 3) := by decide +kernel
theorem dX3_copyRow_316 : decode cX3_copyRow 316 = .ok (.iload 7, 2) := by decide +kernel
theorem dX3_copyRow_318 : decode cX3_copyRow 318 = .ok (.aload_n 2, 1) := by decide +kernel
theorem dX3_copyRow_319 : decode cX3_copyRow 319 = .ok (.getfield 222, 3) := by decide +kernel
theorem dX3_copyRow_322 : decode cX3_copyRow 322 = .ok (.iload 6, 2) := by decide +kernel
theorem dX3_copyRow_324 : decode cX3_copyRow 324 = .ok (.iaload, 1) := by decide +kernel
theorem dX3_copyRow_325 : decode cX3_copyRow 325 = .ok (.iastore, 1) := by decide +kernel
theorem dX3_copyRow_326 : decode cX3_copyRow 326 = .ok (.aload_n 1, 1) := by decide +kernel
theorem dX3_copyRow_327 : decode cX3_copyRow 327 = .ok (.getfield 240, 3) := by decide +kernel
theorem dX3_copyRow_330 : decode cX3_copyRow 330 = .ok (.iload 7, 2) := by decide +kernel
theorem dX3_copyRow_332 : decode cX3_copyRow 332 = .ok (.iload_n 3, 1) := by decide +kernel
theorem dX3_copyRow_333 : decode cX3_copyRow 333 = .ok (.iastore, 1) := by decide +kernel
theorem dX3_copyRow_334 : decode cX3_copyRow 334 = .ok (.aload_n 1, 1) := by decide +kernel
theorem dX3_copyRow_335 : decode cX3_copyRow 335 = .ok (.getfield 225, 3) := by decide +kernel
theorem dX3_copyRow_338 : decode cX3_copyRow 338 = .ok (.iload 7, 2) := by decide +kernel
theorem dX3_copyRow_340 : decode cX3_copyRow 340 = .ok (.aload_n 2, 1) := by decide +kernel
theorem dX3_copyRow_341 : decode cX3_copyRow 341 = .ok (.getfield 225, 3) := by decide +kernel
theorem dX3_copyRow_344 : decode cX3_copyRow 344 = .ok (.iload 6, 2) := by decide +kernel
theorem dX3_copyRow_346 : decode cX3_copyRow 346 = .ok (.laload, 1) := by decide +kernel
theorem dX3_copyRow_347 : decode cX3_copyRow 347 = .ok (.lastore, 1) := by decide +kernel
theorem dX3_copyRow_348 : decode cX3_copyRow 348 = .ok (.aload_n 1, 1) := by decide +kernel
theorem dX3_copyRow_349 : decode cX3_copyRow 349 = .ok (.getfield 219, 3) := by decide +kernel
theorem dX3_copyRow_352 : decode cX3_copyRow 352 = .ok (.iload 7, 2) := by decide +kernel
theorem dX3_copyRow_354 : decode cX3_copyRow 354 = .ok (.aload_n 2, 1) := by decide +kernel
theorem dX3_copyRow_355 : decode cX3_copyRow 355 = .ok (.getfield 219, 3) := by decide +kernel
theorem dX3_copyRow_358 : decode cX3_copyRow 358 = .ok (.iload 6, 2) := by decide +kernel
theorem dX3_copyRow_360 : decode cX3_copyRow 360 = .ok (.aaload, 1) := by decide +kernel
theorem dX3_copyRow_361 : decode cX3_copyRow 361 = .ok (.aastore, 1) := by decide +kernel
theorem dX3_copyRow_362 : decode cX3_copyRow 362 = .ok (.aload_n 1, 1) := by decide +kernel
theorem dX3_copyRow_363 : decode cX3_copyRow 363 = .ok (.getfield 229, 3) := by decide +kernel
theorem dX3_copyRow_366 : decode cX3_copyRow 366 = .ok (.iload 7, 2) := by decide +kernel
theorem dX3_copyRow_368 : decode cX3_copyRow 368 = .ok (.aload_n 2, 1) := by decide +kernel
theorem dX3_copyRow_369 : decode cX3_copyRow 369 = .ok (.getfield 229, 3) := by decide +kernel
theorem dX3_copyRow_372 : decode cX3_copyRow 372 = .ok (.iload 6, 2) := by decide +kernel
theorem dX3_copyRow_374 : decode cX3_copyRow 374 = .ok (.laload, 1) := by decide +kernel
theorem dX3_copyRow_375 : decode cX3_copyRow 375 = .ok (.lastore, 1) := by decide +kernel
theorem dX3_copyRow_376 : decode cX3_copyRow 376 = .ok (.aload_n 1, 1) := by decide +kernel
theorem dX3_copyRow_377 : decode cX3_copyRow 377 = .ok (.dup, 1) := by decide +kernel
theorem dX3_copyRow_378 : decode cX3_copyRow 378 = .ok (.getfield 91, 3) := by decide +kernel
theorem dX3_copyRow_381 : decode cX3_copyRow 381 = .ok (.iconst 1, 1) := by decide +kernel
theorem dX3_copyRow_382 : decode cX3_copyRow 382 = .ok (.iadd, 1) := by decide +kernel
theorem dX3_copyRow_383 : decode cX3_copyRow 383 = .ok (.putfield 91, 3) := by decide +kernel
theorem dX3_copyRow_386 : decode cX3_copyRow 386 = .ok (.iinc 6 1, 3) := by decide +kernel
theorem dX3_copyRow_389 : decode cX3_copyRow 389 = .ok (.goto (-111), 3) := by decide +kernel
theorem dX3_copyRow_392 : decode cX3_copyRow 392 = .ok (.aload 5, 2) := by decide +kernel
theorem dX3_copyRow_394 : decode cX3_copyRow 394 = .ok (.aload_n 1, 1) := by decide +kernel
theorem dX3_copyRow_395 : decode cX3_copyRow 395 = .ok (.getfield 91, 3) := by decide +kernel
theorem dX3_copyRow_398 : decode cX3_copyRow 398 = .ok (.aload 5, 2) := by decide +kernel
theorem dX3_copyRow_400 : decode cX3_copyRow 400 = .ok (.getfield 94, 3) := by decide +kernel
theorem dX3_copyRow_403 : decode cX3_copyRow 403 = .ok (.isub, 1) := by decide +kernel
theorem dX3_copyRow_404 : decode cX3_copyRow 404 = .ok (.putfield 143, 3) := by decide +kernel
theorem dX3_copyRow_407 : decode cX3_copyRow 407 = .ok (.return_, 1) := by decide +kernel
theorem dX3_addWoven_0 : decode cX3_addWoven 0 = .ok (.aload_n 0, 1) := by decide +kernel
theorem dX3_addWoven_1 : decode cX3_addWoven 1 = .ok (.aload_n 1, 1) := by decide +kernel
theorem dX3_addWoven_2 : decode cX3_addWoven 2 = .ok (.aload_n 2, 1) := by decide +kernel
theorem dX3_addWoven_3 : decode cX3_addWoven 3 = .ok (.invokevirtual 85, 3) := by decide +kernel
theorem dX3_addWoven_6 : decode cX3_addWoven 6 = .ok (.aload_n 0, 1) := by decide +kernel
theorem dX3_addWoven_7 : decode cX3_addWoven 7 = .ok (.getfield 36, 3) := by decide +kernel
theorem dX3_addWoven_10 : decode cX3_addWoven 10 = .ok (.aload_n 0, 1) := by decide +kernel
theorem dX3_addWoven_11 : decode cX3_addWoven 11 = .ok (.getfield 15, 3) := by decide +kernel
theorem dX3_addWoven_14 : decode cX3_addWoven 14 = .ok (.getfield 91, 3) := by decide +kernel
theorem dX3_addWoven_17 : decode cX3_addWoven 17 = .ok (.aload_n 0, 1) := by decide +kernel
theorem dX3_addWoven_18 : decode cX3_addWoven 18 = .ok (.getfield 36, 3) := by decide +kernel
theorem dX3_addWoven_21 : decode cX3_addWoven 21 = .ok (.getfield 94, 3) := by decide +kernel
theorem dX3_addWoven_24 : decode cX3_addWoven 24 = .ok (.isub, 1) := by decide +kernel
theorem dX3_addWoven_25 : decode cX3_addWoven 25 = .ok (.putfield 143, 3) := by decide +kernel
theorem dX3_addWoven_28 : decode cX3_addWoven 28 = .ok (.return_, 1) := by decide +kernel
theorem dX4_init_0 : decode cX4_init 0 = .ok (.aload_n 0, 1) := by decide +kernel
theorem dX4_init_1 : decode cX4_init 1 = .ok (.invokespecial 3, 3) := by decide +kernel
theorem dX4_init_4 : decode cX4_init 4 = .ok (.return_, 1) := by decide +kernel
theorem dX4_fail_0 : decode cX4_fail 0 = .ok (.aload_n 0, 1) := by decide +kernel
theorem dX4_fail_1 : decode cX4_fail 1 = .ok (.getfield 9, 3) := by decide +kernel
theorem dX4_fail_4 : decode cX4_fail 4 = .ok (.ifCond .ne 13, 3) := by decide +kernel
theorem dX4_fail_7 : decode cX4_fail 7 = .ok (.aload_n 0, 1) := by decide +kernel
theorem dX4_fail_8 : decode cX4_fail 8 = .ok (.iload_n 1, 1) := by decide +kernel
theorem dX4_fail_9 : decode cX4_fail 9 = .ok (.putfield 9, 3) := by decide +kernel
theorem dX4_fail_12 : decode cX4_fail 12 = .ok (.aload_n 0, 1) := by decide +kernel
theorem dX4_fail_13 : decode cX4_fail 13 = .ok (.iload_n 2, 1) := by decide +kernel
theorem dX4_fail_14 : decode cX4_fail 14 = .ok (.putfield 15, 3) := by decide +kernel
theorem dX4_fail_17 : decode cX4_fail 17 = .ok (.iconst 0, 1) := by decide +kernel
theorem dX4_fail_18 : decode cX4_fail 18 = .ok (.ireturn, 1) := by decide +kernel
theorem dX4_judge_0 : decode cX4_judge 0 = .ok (.aload_n 0, 1) := by decide +kernel
theorem dX4_judge_1 : decode cX4_judge 1 = .ok (.aload_n 1, 1) := by decide +kernel
theorem dX4_judge_2 : decode cX4_judge 2 = .ok (.putfield 18, 3) := by decide +kernel
theorem dX4_judge_5 : decode cX4_judge 5 = .ok (.aload_n 0, 1) := by decide +kernel
theorem dX4_judge_6 : decode cX4_judge 6 = .ok (.aload_n 2, 1) := by decide +kernel
theorem dX4_judge_7 : decode cX4_judge 7 = .ok (.putfield 22, 3) := by decide +kernel
theorem dX4_judge_10 : decode cX4_judge 10 = .ok (.aload_n 0, 1) := by decide +kernel
theorem dX4_judge_11 : decode cX4_judge 11 = .ok (.iconst 0, 1) := by decide +kernel
theorem dX4_judge_12 : decode cX4_judge 12 = .ok (.putfield 9, 3) := by decide +kernel
theorem dX4_judge_15 : decode cX4_judge 15 = .ok (.iconst 0, 1) := by decide +kernel
theorem dX4_judge_16 : decode cX4_judge 16 = .ok (.istore_n 3, 1) := by decide +kernel
theorem dX4_judge_17 : decode cX4_judge 17 = .ok (.iload_n 3, 1) := by decide +kernel
theorem dX4_judge_18 : decode cX4_judge 18 = .ok (.aload_n 0, 1) := by decide +kernel
theorem dX4_judge_19 : decode cX4_judge 19 = .ok (.getfield 22, 3) := by decide +kernel
theorem dX4_judge_22 : decode cX4_judge 22 = .ok (.getfield 26, 3) := by decide +kernel
theorem dX4_judge_25 : decode cX4_judge 25 = .ok (.if_icmp .ge 31, 3) := by decide +kernel
theorem dX4_judge_28 : decode cX4_judge 28 = .ok (.aload_n 0, 1) := by decide +kernel
theorem dX4_judge_29 : decode cX4_judge 29 = .ok (.getfield 9, 3) := by decide +kernel
theorem dX4_judge_32 : decode cX4_judge 32 = .ok (.ifCond .ne 24, 3) := by decide +kernel
theorem dX4_judge_35 : decode cX4_judge 35 = .ok (.aload_n 0, 1) := by decide +kernel
theorem dX4_judge_36 : decode cX4_judge 36 = .ok (.aload_n 0, 1) := by decide +kernel
theorem dX4_judge_37 : decode cX4_judge 37 = .ok (.getfield 22, 3) := by decide +kernel
theorem dX4_judge_40 : decode cX4_judge 40 = .ok (.getfield 31, 3) := by decide +kernel
theorem dX4_judge_43 : decode cX4_judge 43 = .ok (.iload_n 3, 1) := by decide +kernel
theorem dX4_judge_44 : decode cX4_judge 44 = .ok (.aaload, 1) := by decide +kernel
theorem dX4_judge_45 : decode cX4_judge 45 = .ok (.iload_n 3, 1) := by decide +kernel
theorem dX4_judge_46 : decode cX4_judge 46 = .ok (.invokevirtual 35, 3) := by decide +kernel
theorem dX4_judge_49 : decode cX4_judge 49 = .ok (.pop, 1) := by decide +kernel
theorem dX4_judge_50 : decode cX4_judge 50 = .ok (.iinc 3 1, 3) := by decide +kernel
theorem dX4_judge_53 : decode cX4_judge 53 = .ok (.goto (-36), 3) := by decide +kernel
theorem dX4_judge_56 : decode cX4_judge 56 = .ok (.iconst 0, 1) := by decide +kernel
theorem dX4_judge_57 : decode cX4_judge 57 = .ok (.istore_n 3, 1) := by decide +kernel
theorem dX4_judge_58 : decode cX4_judge 58 = .ok (.iload_n 3, 1) := by decide +kernel
theorem dX4_judge_59 : decode cX4_judge 59 = .ok (.aload_n 0, 1) := by decide +kernel
theorem dX4_judge_60 : decode cX4_judge 60 = .ok (.getfield 22, 3) := by decide +kernel
theorem dX4_judge_63 : decode cX4_judge 63 = .ok (.getfield 26, 3) := by decide +kernel
theorem dX4_judge_66 : decode cX4_judge 66 = .ok (.if_icmp .ge 74, 3) := by decide +kernel
theorem dX4_judge_69 : decode cX4_judge 69 = .ok (.aload_n 0, 1) := by decide +kernel
theorem dX4_judge_70 : decode cX4_judge 70 = .ok (.getfield 9, 3) := by decide +kernel
theorem dX4_judge_73 : decode cX4_judge 73 = .ok (.ifCond .ne 67, 3) := by decide +kernel
theorem dX4_judge_76 : decode cX4_judge 76 = .ok (.aload_n 0, 1) := by decide +kernel
theorem dX4_judge_77 : decode cX4_judge 77 = .ok (.getfield 18, 3) := by decide +kernel
theorem dX4_judge_80 : decode cX4_judge 80 = .ok (.aload_n 0, 1) := by decide +kernel
theorem dX4_judge_81 : decode cX4_judge 81 = .ok (.getfield 22, 3) := by decide +kernel
theorem dX4_judge_84 : decode cX4_judge 84 = .ok (.getfield 31, 3) := by decide +kernel
theorem dX4_judge_87 : decode cX4_judge 87 = .ok (.iload_n 3, 1) := by decide +kernel
theorem dX4_judge_88 : decode cX4_judge 88 = .ok (.aaload, 1) := by decide +kernel
theorem dX4_judge_89 : decode cX4_judge 89 = .ok (.getfield 39, 3) := by decide +kernel
theorem dX4_judge_92 : decode cX4_judge 92 = .ok (.invokevirtual 45, 3) := by decide +kernel
theorem dX4_judge_95 : decode cX4_judge 95 = .ok (.istore 4, 2) := by decide +kernel
theorem dX4_judge_97 : decode cX4_judge 97 = .ok (.iload 4, 2) := by decide +kernel
theorem dX4_judge_99 : decode cX4_judge 99 = .ok (.ifCond .lt 35, 3) := by decide +kernel
theorem dX4_judge_102 : decode cX4_judge 102 = .ok (.aload_n 0, 1) := by decide +kernel
theorem dX4_judge_103 : decode cX4_judge 103 = .ok (.getfield 18, 3) := by decide +kernel
theorem dX4_judge_106 : decode cX4_judge 106 = .ok (.iload 4, 2) := by decide +kernel
theorem dX4_judge_108 : decode cX4_judge 108 = .ok (.iload 4, 2) := by decide +kernel
theorem dX4_judge_110 : decode cX4_judge 110 = .ok (.invokevirtual 51, 3) := by decide +kernel
theorem dX4_judge_113 : decode cX4_judge 113 = .ok (.ifCond .eq 21, 3) := by decide +kernel
theorem dX4_judge_116 : decode cX4_judge 116 = .ok (.aload_n 0, 1) := by decide +kernel
theorem dX4_judge_117 : decode cX4_judge 117 = .ok (.iconst 5, 1) := by decide +kernel
theorem dX4_judge_118 : decode cX4_judge 118 = .ok (.aload_n 0, 1) := by decide +kernel
theorem dX4_judge_119 : decode cX4_judge 119 = .ok (.getfield 22, 3) := by decide +kernel
theorem dX4_judge_122 : decode cX4_judge 122 = .ok (.getfield 31, 3) := by decide +kernel
theorem dX4_judge_125 : decode cX4_judge 125 = .ok (.iload_n 3, 1) := by decide +kernel
theorem dX4_judge_126 : decode cX4_judge 126 = .ok (.aaload, 1) := by decide +kernel
theorem dX4_judge_127 : decode cX4_judge 127 = .ok (.getfield 55, 3) := by decide +kernel
theorem dX4_judge_130 : decode cX4_judge 130 = .ok (.invokevirtual 58, 3) := by decide +kernel
theorem dX4_judge_133 : decode cX4_judge 133 = .ok (.pop, 1) := by decide +kernel
theorem dX4_judge_134 : decode cX4_judge 134 = .ok (.iinc 3 1, 3) := by decide +kernel
theorem dX4_judge_137 : decode cX4_judge 137 = .ok (.goto (-79), 3) := by decide +kernel
theorem dX4_judge_140 : decode cX4_judge 140 = .ok (.iconst 0, 1) := by decide +kernel
theorem dX4_judge_141 : decode cX4_judge 141 = .ok (.istore_n 3, 1) := by decide +kernel
theorem dX4_judge_142 : decode cX4_judge 142 = .ok (.iload_n 3, 1) := by decide +kernel
theorem dX4_judge_143 : decode cX4_judge 143 = .ok (.aload_n 0, 1) := by decide +kernel
theorem dX4_judge_144 : decode cX4_judge 144 = .ok (.getfield 22, 3) := by decide +kernel
theorem dX4_judge_147 : decode cX4_judge 147 = .ok (.getfield 26, 3) := by decide +kernel
theorem dX4_judge_150 : decode cX4_judge 150 = .ok (.if_icmp .ge 48, 3) := by decide +kernel
theorem dX4_judge_153 : decode cX4_judge 153 = .ok (.aload_n 0, 1) := by decide +kernel
theorem dX4_judge_154 : decode cX4_judge 154 = .ok (.getfield 9, 3) := by decide +kernel
theorem dX4_judge_157 : decode cX4_judge 157 = .ok (.ifCond .ne 41, 3) := by decide +kernel
theorem dX4_judge_160 : decode cX4_judge 160 = .ok (.aload_n 0, 1) := by decide +kernel
theorem dX4_judge_161 : decode cX4_judge 161 = .ok (.aload_n 0, 1) := by decide +kernel
theorem dX4_judge_162 : decode cX4_judge 162 = .ok (.getfield 22, 3) := by decide +kernel
theorem dX4_judge_165 : decode cX4_judge 165 = .ok (.getfield 31, 3) := by decide +kernel
theorem dX4_judge_168 : decode cX4_judge 168 = .ok (.iload_n 3, 1) := by decide +kernel
theorem dX4_judge_169 : decode cX4_judge 169 = .ok (.aaload, 1) := by decide +kernel
theorem dX4_judge_170 : decode cX4_judge 170 = .ok (.aload_n 0, 1) := by decide +kernel
theorem dX4_judge_171 : decode cX4_judge 171 = .ok (.getfield 18, 3) := by decide +kernel
theorem dX4_judge_174 : decode cX4_judge 174 = .ok (.aload_n 0, 1) := by decide +kernel
theorem dX4_judge_175 : decode cX4_judge 175 = .ok (.getfield 22, 3) := by decide +kernel
theorem dX4_judge_178 : decode cX4_judge 178 = .ok (.getfield 31, 3) := by decide +kernel
theorem dX4_judge_181 : decode cX4_judge 181 = .ok (.iload_n 3, 1) := by decide +kernel
theorem dX4_judge_182 : decode cX4_judge 182 = .ok (.aaload, 1) := by decide +kernel
theorem dX4_judge_183 : decode cX4_judge 183 = .ok (.getfield 39, 3) := by decide +kernel
theorem dX4_judge_186 : decode cX4_judge 186 = .ok (.invokevirtual 45, 3) := by decide +kernel
theorem dX4_judge_189 : decode cX4_judge 189 = .ok (.invokevirtual 61, 3) := by decide +kernel
theorem dX4_judge_192 : decode cX4_judge 192 = .ok (.iinc 3 1, 3) := by decide +kernel
theorem dX4_judge_195 : decode cX4_judge 195 = .ok (.goto (-53), 3) := by decide +kernel
theorem dX4_judge_198 : decode cX4_judge 198 = .ok (.iconst 0, 1) := by decide +kernel
theorem dX4_judge_199 : decode cX4_judge 199 = .ok (.istore_n 3, 1) := by decide +kernel
theorem dX4_judge_200 : decode cX4_judge 200 = .ok (.iload_n 3, 1) := by decide +kernel
theorem dX4_judge_201 : decode cX4_judge 201 = .ok (.aload_n 0, 1) := by decide +kernel
theorem dX4_judge_202 : decode cX4_judge 202 = .ok (.getfield 22, 3) := by decide +kernel
theorem dX4_judge_205 : decode cX4_judge 205 = .ok (.getfield 26, 3) := by decide +kernel
theorem dX4_judge_208 : decode cX4_judge 208 = .ok (.if_icmp .ge 48, 3) := by decide +kernel
theorem dX4_judge_211 : decode cX4_judge 211 = .ok (.aload_n 0, 1) := by decide +kernel
theorem dX4_judge_212 : decode cX4_judge 212 = .ok (.getfield 9, 3) := by decide +kernel
theorem dX4_judge_215 : decode cX4_judge 215 = .ok (.ifCond .ne 41, 3) := by decide +kernel
theorem dX4_judge_218 : decode cX4_judge 218 = .ok (.aload_n 0, 1) := by decide +kernel
theorem dX4_judge_219 : decode cX4_judge 219 = .ok (.aload_n 0, 1) := by decide +kernel
theorem dX4_judge_220 : decode cX4_judge 220 = .ok (.getfield 22, 3) := by decide +kernel
theorem dX4_judge_223 : decode cX4_judge 223 = .ok (.getfield 31, 3) := by decide +kernel
theorem dX4_judge_226 : decode cX4_judge 226 = .ok (.iload_n 3, 1) := by decide +kernel
theorem dX4_judge_227 : decode cX4_judge 227 = .ok (.aaload, 1) := by decide +kernel
theorem dX4_judge_228 : decode cX4_judge 228 = .ok (.aload_n 0, 1) := by decide +kernel
theorem dX4_judge_229 : decode cX4_judge 229 = .ok (.getfield 18, 3) := by decide +kernel
theorem dX4_judge_232 : decode cX4_judge 232 = .ok (.aload_n 0, 1) := by decide +kernel
theorem dX4_judge_233 : decode cX4_judge 233 = .ok (.getfield 22, 3) := by decide +kernel
theorem dX4_judge_236 : decode cX4_judge 236 = .ok (.getfield 31, 3) := by decide +kernel
theorem dX4_judge_239 : decode cX4_judge 239 = .ok (.iload_n 3, 1) := by decide +kernel
theorem dX4_judge_240 : decode cX4_judge 240 = .ok (.aaload, 1) := by decide +kernel
theorem dX4_judge_241 : decode cX4_judge 241 = .ok (.getfield 39, 3) := by decide +kernel
theorem dX4_judge_244 : decode cX4_judge 244 = .ok (.invokevirtual 45, 3) := by decide +kernel
theorem dX4_judge_247 : decode cX4_judge 247 = .ok (.invokevirtual 65, 3) := by decide +kernel
theorem dX4_judge_250 : decode cX4_judge 250 = .ok (.iinc 3 1, 3) := by decide +kernel
theorem dX4_judge_253 : decode cX4_judge 253 = .ok (.goto (-53), 3) := by decide +kernel
theorem dX4_judge_256 : decode cX4_judge 256 = .ok (.iconst 0, 1) := by decide +kernel
theorem dX4_judge_257 : decode cX4_judge 257 = .ok (.istore_n 3, 1) := by decide +kernel
theorem dX4_judge_258 : decode cX4_judge 258 = .ok (.iload_n 3, 1) := by decide +kernel
theorem dX4_judge_259 : decode cX4_judge 259 = .ok (.aload_n 0, 1) := by decide +kernel
theorem dX4_judge_260 : decode cX4_judge 260 = .ok (.getfield 22, 3) := by decide +kernel
theorem dX4_judge_263 : decode cX4_judge 263 = .ok (.getfield 26, 3) := by decide +kernel
theorem dX4_judge_266 : decode cX4_judge 266 = .ok (.if_icmp .ge 61, 3) := by decide +kernel
theorem dX4_judge_269 : decode cX4_judge 269 = .ok (.aload_n 0, 1) := by decide +kernel
theorem dX4_judge_270 : decode cX4_judge 270 = .ok (.getfield 9, 3) := by decide +kernel
theorem dX4_judge_273 : decode cX4_judge 273 = .ok (.ifCond .ne 54, 3) := by decide +kernel
theorem dX4_judge_276 : decode cX4_judge 276 = .ok (.aload_n 0, 1) := by decide +kernel
theorem dX4_judge_277 : decode cX4_judge 277 = .ok (.aload_n 0, 1) := by decide +kernel
theorem dX4_judge_278 : decode cX4_judge 278 = .ok (.getfield 22, 3) := by decide +kernel
theorem dX4_judge_281 : decode cX4_judge 281 = .ok (.getfield 31, 3) := by decide +kernel
theorem dX4_judge_284 : decode cX4_judge 284 = .ok (.iload_n 3, 1) := by decide +kernel
theorem dX4_judge_285 : decode cX4_judge 285 = .ok (.aaload, 1) := by decide +kernel
theorem dX4_judge_286 : decode cX4_judge 286 = .ok (.invokevirtual 68, 3) := by decide +kernel
theorem dX4_judge_289 : decode cX4_judge 289 = .ok (.aload_n 0, 1) := by decide +kernel
theorem dX4_judge_290 : decode cX4_judge 290 = .ok (.aload_n 0, 1) := by decide +kernel
theorem dX4_judge_291 : decode cX4_judge 291 = .ok (.getfield 22, 3) := by decide +kernel
theorem dX4_judge_294 : decode cX4_judge 294 = .ok (.getfield 31, 3) := by decide +kernel
theorem dX4_judge_297 : decode cX4_judge 297 = .ok (.iload_n 3, 1) := by decide +kernel
theorem dX4_judge_298 : decode cX4_judge 298 = .ok (.aaload, 1) := by decide +kernel
theorem dX4_judge_299 : decode cX4_judge 299 = .ok (.aload_n 0, 1) := by decide +kernel
theorem dX4_judge_300 : decode cX4_judge 300 = .ok (.getfield 18, 3) := by decide +kernel
theorem dX4_judge_303 : decode cX4_judge 303 = .ok (.aload_n 0, 1) := by decide +kernel
theorem dX4_judge_304 : decode cX4_judge 304 = .ok (.getfield 22, 3) := by decide +kernel
theorem dX4_judge_307 : decode cX4_judge 307 = .ok (.getfield 31, 3) := by decide +kernel
theorem dX4_judge_310 : decode cX4_judge 310 = .ok (.iload_n 3, 1) := by decide +kernel
theorem dX4_judge_311 : decode cX4_judge 311 = .ok (.aaload, 1) := by decide +kernel
theorem dX4_judge_312 : decode cX4_judge 312 = .ok (.getfield 39, 3) := by decide +kernel
theorem dX4_judge_315 : decode cX4_judge 315 = .ok (.invokevirtual 45, 3) := by decide +kernel
theorem dX4_judge_318 : decode cX4_judge 318 = .ok (.invokevirtual 72, 3) := by decide +kernel
theorem dX4_judge_321 : decode cX4_judge 321 = .ok (.iinc 3 1, 3) := by decide +kernel
theorem dX4_judge_324 : decode cX4_judge 324 = .ok (.goto (-66), 3) := by decide +kernel
theorem dX4_judge_327 : decode cX4_judge 327 = .ok (.iconst 0, 1) := by decide +kernel
theorem dX4_judge_328 : decode cX4_judge 328 = .ok (.istore_n 3, 1) := by decide +kernel
theorem dX4_judge_329 : decode cX4_judge 329 = .ok (.iload_n 3, 1) := by decide +kernel
theorem dX4_judge_330 : decode cX4_judge 330 = .ok (.aload_n 0, 1) := by decide +kernel
theorem dX4_judge_331 : decode cX4_judge 331 = .ok (.getfield 22, 3) := by decide +kernel
theorem dX4_judge_334 : decode cX4_judge 334 = .ok (.getfield 26, 3) := by decide +kernel
theorem dX4_judge_337 : decode cX4_judge 337 = .ok (.if_icmp .ge 48, 3) := by decide +kernel
theorem dX4_judge_340 : decode cX4_judge 340 = .ok (.aload_n 0, 1) := by decide +kernel
theorem dX4_judge_341 : decode cX4_judge 341 = .ok (.getfield 9, 3) := by decide +kernel
theorem dX4_judge_344 : decode cX4_judge 344 = .ok (.ifCond .ne 41, 3) := by decide +kernel
theorem dX4_judge_347 : decode cX4_judge 347 = .ok (.aload_n 0, 1) := by decide +kernel
theorem dX4_judge_348 : decode cX4_judge 348 = .ok (.aload_n 0, 1) := by decide +kernel
theorem dX4_judge_349 : decode cX4_judge 349 = .ok (.getfield 22, 3) := by decide +kernel
theorem dX4_judge_352 : decode cX4_judge 352 = .ok (.getfield 31, 3) := by decide +kernel
theorem dX4_judge_355 : decode cX4_judge 355 = .ok (.iload_n 3, 1) := by decide +kernel
theorem dX4_judge_356 : decode cX4_judge 356 = .ok (.aaload, 1) := by decide +kernel
theorem dX4_judge_357 : decode cX4_judge 357 = .ok (.aload_n 0, 1) := by decide +kernel
theorem dX4_judge_358 : decode cX4_judge 358 = .ok (.getfield 18, 3) := by decide +kernel
theorem dX4_judge_361 : decode cX4_judge 361 = .ok (.aload_n 0, 1) := by decide +kernel
theorem dX4_judge_362 : decode cX4_judge 362 = .ok (.getfield 22, 3) := by decide +kernel
theorem dX4_judge_365 : decode cX4_judge 365 = .ok (.getfield 31, 3) := by decide +kernel
theorem dX4_judge_368 : decode cX4_judge 368 = .ok (.iload_n 3, 1) := by decide +kernel
theorem dX4_judge_369 : decode cX4_judge 369 = .ok (.aaload, 1) := by decide +kernel
theorem dX4_judge_370 : decode cX4_judge 370 = .ok (.getfield 39, 3) := by decide +kernel
theorem dX4_judge_373 : decode cX4_judge 373 = .ok (.invokevirtual 45, 3) := by decide +kernel
theorem dX4_judge_376 : decode cX4_judge 376 = .ok (.invokevirtual 75, 3) := by decide +kernel
theorem dX4_judge_379 : decode cX4_judge 379 = .ok (.iinc 3 1, 3) := by decide +kernel
theorem dX4_judge_382 : decode cX4_judge 382 = .ok (.goto (-53), 3) := by decide +kernel
theorem dX4_judge_385 : decode cX4_judge 385 = .ok (.aload_n 0, 1) := by decide +kernel
theorem dX4_judge_386 : decode cX4_judge 386 = .ok (.getfield 9, 3) := by decide +kernel
theorem dX4_judge_389 : decode cX4_judge 389 = .ok (.ifCond .ne 7, 3) := by decide +kernel
theorem dX4_judge_392 : decode cX4_judge 392 = .ok (.iconst 1, 1) := by decide +kernel
theorem dX4_judge_393 : decode cX4_judge 393 = .ok (.goto 4, 3) := by decide +kernel
theorem dX4_judge_396 : decode cX4_judge 396 = .ok (.iconst 0, 1) := by decide +kernel
theorem dX4_judge_397 : decode cX4_judge 397 = .ok (.ireturn, 1) := by decide +kernel
theorem dX4_head_0 : decode cX4_head 0 = .ok (.iconst 0, 1) := by decide +kernel
theorem dX4_head_1 : decode cX4_head 1 = .ok (.istore_n 3, 1) := by decide +kernel
theorem dX4_head_2 : decode cX4_head 2 = .ok (.iload_n 3, 1) := by decide +kernel
theorem dX4_head_3 : decode cX4_head 3 = .ok (.iload_n 2, 1) := by decide +kernel
theorem dX4_head_4 : decode cX4_head 4 = .ok (.if_icmp .ge 39, 3) := by decide +kernel
theorem dX4_head_7 : decode cX4_head 7 = .ok (.aload_n 0, 1) := by decide +kernel
theorem dX4_head_8 : decode cX4_head 8 = .ok (.getfield 22, 3) := by decide +kernel
theorem dX4_head_11 : decode cX4_head 11 = .ok (.getfield 31, 3) := by decide +kernel
theorem dX4_head_14 : decode cX4_head 14 = .ok (.iload_n 3, 1) := by decide +kernel
theorem dX4_head_15 : decode cX4_head 15 = .ok (.aaload, 1) := by decide +kernel
theorem dX4_head_16 : decode cX4_head 16 = .ok (.getfield 39, 3) := by decide +kernel
theorem dX4_head_19 : decode cX4_head 19 = .ok (.aload_n 1, 1) := by decide +kernel
theorem dX4_head_20 : decode cX4_head 20 = .ok (.getfield 39, 3) := by decide +kernel
theorem dX4_head_23 : decode cX4_head 23 = .ok (.lcmp, 1) := by decide +kernel
theorem dX4_head_24 : decode cX4_head 24 = .ok (.ifCond .ne 13, 3) := by decide +kernel
theorem dX4_head_27 : decode cX4_head 27 = .ok (.aload_n 0, 1) := by decide +kernel
theorem dX4_head_28 : decode cX4_head 28 = .ok (.iconst 4, 1) := by decide +kernel
theorem dX4_head_29 : decode cX4_head 29 = .ok (.aload_n 1, 1) := by decide +kernel
theorem dX4_head_30 : decode cX4_head 30 = .ok (.getfield 55, 3) := by decide +kernel
theorem dX4_head_33 : decode cX4_head 33 = .ok (.invokevirtual 58, 3) := by decide +kernel
theorem dX4_head_36 : decode cX4_head 36 = .ok (.ireturn, 1) := by decide +kernel
theorem dX4_head_37 : decode cX4_head 37 = .ok (.iinc 3 1, 3) := by decide +kernel
theorem dX4_head_40 : decode cX4_head 40 = .ok (.goto (-38), 3) := by decide +kernel
theorem dX4_head_43 : decode cX4_head 43 = .ok (.aload_n 1, 1) := by decide +kernel
theorem dX4_head_44 : decode cX4_head 44 = .ok (.getfield 39, 3) := by decide +kernel
theorem dX4_head_47 : decode cX4_head 47 = .ok (.bipush 59, 2) := by decide +kernel
theorem dX4_head_49 : decode cX4_head 49 = .ok (.lushr, 1) := by decide +kernel
theorem dX4_head_50 : decode cX4_head 50 = .ok (.ldc2_w 78, 3) := by decide +kernel
theorem dX4_head_53 : decode cX4_head 53 = .ok (.lcmp, 1) := by decide +kernel
theorem dX4_head_54 : decode cX4_head 54 = .ok (.ifCond .ne 13, 3) := by decide +kernel
theorem dX4_head_57 : decode cX4_head 57 = .ok (.aload_n 0, 1) := by decide +kernel
theorem dX4_head_58 : decode cX4_head 58 = .ok (.iconst 4, 1) := by decide +kernel
theorem dX4_head_59 : decode cX4_head 59 = .ok (.aload_n 1, 1) := by decide +kernel
theorem dX4_head_60 : decode cX4_head 60 = .ok (.getfield 55, 3) := by decide +kernel
theorem dX4_head_63 : decode cX4_head 63 = .ok (.invokevirtual 58, 3) := by decide +kernel
theorem dX4_head_66 : decode cX4_head 66 = .ok (.ireturn, 1) := by decide +kernel
theorem dX4_head_67 : decode cX4_head 67 = .ok (.aload_n 1, 1) := by decide +kernel
theorem dX4_head_68 : decode cX4_head 68 = .ok (.getfield 55, 3) := by decide +kernel
theorem dX4_head_71 : decode cX4_head 71 = .ok (.iconst 1, 1) := by decide +kernel

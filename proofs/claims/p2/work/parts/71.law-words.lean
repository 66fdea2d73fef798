theorem dL_law_16 : decode cL_law 16 = .ok (.iconst 0, 1) := by decide +kernel
theorem dL_law_17 : decode cL_law 17 = .ok (.istore_n 3, 1) := by decide +kernel
theorem dL_law_18 : decode cL_law 18 = .ok (.iload_n 3, 1) := by decide +kernel
theorem dL_law_19 : decode cL_law 19 = .ok (.aload_n 0, 1) := by decide +kernel
theorem dL_law_20 : decode cL_law 20 = .ok (.arraylength, 1) := by decide +kernel
theorem dL_law_21 : decode cL_law 21 = .ok (.bipush 6, 2) := by decide +kernel
theorem dL_law_23 : decode cL_law 23 = .ok (.isub, 1) := by decide +kernel
theorem dL_law_24 : decode cL_law 24 = .ok (.if_icmp .gt 1323, 3) := by decide +kernel
theorem dL_law_27 : decode cL_law 27 = .ok (.aload_n 0, 1) := by decide +kernel
theorem dL_law_28 : decode cL_law 28 = .ok (.iload_n 3, 1) := by decide +kernel
theorem dL_law_29 : decode cL_law 29 = .ok (.iaload, 1) := by decide +kernel
theorem dL_law_30 : decode cL_law 30 = .ok (.bipush 63, 2) := by decide +kernel
theorem dL_law_32 : decode cL_law 32 = .ok (.iand, 1) := by decide +kernel
theorem dL_law_33 : decode cL_law 33 = .ok (.tableswitch 1308 0 38 #[171, 234, 257, 300, 333, 346, 369, 392, 405, 428, 461, 484, 517, 560, 613, 646, 699, 742, 785, 798, 821, 834, 867, 880, 893, 936, 969, 1012, 1055, 1068, 1111, 1124, 1137, 1160, 1183, 1206, 1229, 1252, 1275], 171) := by decide +kernel
theorem dL_law_204 : decode cL_law 204 = .ok (.aload_n 1, 1) := by decide +kernel
theorem dL_law_205 : decode cL_law 205 = .ok (.aload_n 0, 1) := by decide +kernel
theorem dL_law_206 : decode cL_law 206 = .ok (.iload_n 3, 1) := by decide +kernel
theorem dL_law_207 : decode cL_law 207 = .ok (.iconst 1, 1) := by decide +kernel
theorem dL_law_208 : decode cL_law 208 = .ok (.iadd, 1) := by decide +kernel
theorem dL_law_209 : decode cL_law 209 = .ok (.iaload, 1) := by decide +kernel
theorem dL_law_210 : decode cL_law 210 = .ok (.aload_n 0, 1) := by decide +kernel
theorem dL_law_211 : decode cL_law 211 = .ok (.iload_n 3, 1) := by decide +kernel
theorem dL_law_212 : decode cL_law 212 = .ok (.iconst 2, 1) := by decide +kernel
theorem dL_law_213 : decode cL_law 213 = .ok (.iadd, 1) := by decide +kernel
theorem dL_law_214 : decode cL_law 214 = .ok (.iaload, 1) := by decide +kernel
theorem dL_law_215 : decode cL_law 215 = .ok (.aload_n 0, 1) := by decide +kernel
theorem dL_law_216 : decode cL_law 216 = .ok (.iload_n 3, 1) := by decide +kernel
theorem dL_law_217 : decode cL_law 217 = .ok (.iconst 3, 1) := by decide +kernel
theorem dL_law_218 : decode cL_law 218 = .ok (.iadd, 1) := by decide +kernel
theorem dL_law_219 : decode cL_law 219 = .ok (.iaload, 1) := by decide +kernel
theorem dL_law_220 : decode cL_law 220 = .ok (.aload_n 0, 1) := by decide +kernel
theorem dL_law_221 : decode cL_law 221 = .ok (.iload_n 3, 1) := by decide +kernel
theorem dL_law_222 : decode cL_law 222 = .ok (.iconst 4, 1) := by decide +kernel
theorem dL_law_223 : decode cL_law 223 = .ok (.iadd, 1) := by decide +kernel
theorem dL_law_224 : decode cL_law 224 = .ok (.iaload, 1) := by decide +kernel
theorem dL_law_225 : decode cL_law 225 = .ok (.aload_n 0, 1) := by decide +kernel
theorem dL_law_226 : decode cL_law 226 = .ok (.iload_n 3, 1) := by decide +kernel
theorem dL_law_227 : decode cL_law 227 = .ok (.iconst 5, 1) := by decide +kernel
theorem dL_law_228 : decode cL_law 228 = .ok (.iadd, 1) := by decide +kernel
theorem dL_law_229 : decode cL_law 229 = .ok (.iaload, 1) := by decide +kernel
theorem dL_law_230 : decode cL_law 230 = .ok (.invokevirtual 13, 3) := by decide +kernel
theorem dL_law_233 : decode cL_law 233 = .ok (.aload_n 2, 1) := by decide +kernel
theorem dL_law_234 : decode cL_law 234 = .ok (.aload_n 0, 1) := by decide +kernel
theorem dL_law_235 : decode cL_law 235 = .ok (.iload_n 3, 1) := by decide +kernel
theorem dL_law_236 : decode cL_law 236 = .ok (.iconst 1, 1) := by decide +kernel
theorem dL_law_237 : decode cL_law 237 = .ok (.iadd, 1) := by decide +kernel
theorem dL_law_238 : decode cL_law 238 = .ok (.iaload, 1) := by decide +kernel
theorem dL_law_239 : decode cL_law 239 = .ok (.aload_n 0, 1) := by decide +kernel
theorem dL_law_240 : decode cL_law 240 = .ok (.iload_n 3, 1) := by decide +kernel
theorem dL_law_241 : decode cL_law 241 = .ok (.iconst 2, 1) := by decide +kernel
theorem dL_law_242 : decode cL_law 242 = .ok (.iadd, 1) := by decide +kernel
theorem dL_law_243 : decode cL_law 243 = .ok (.iaload, 1) := by decide +kernel
theorem dL_law_244 : decode cL_law 244 = .ok (.aload_n 0, 1) := by decide +kernel
theorem dL_law_245 : decode cL_law 245 = .ok (.iload_n 3, 1) := by decide +kernel
theorem dL_law_246 : decode cL_law 246 = .ok (.iconst 3, 1) := by decide +kernel
theorem dL_law_247 : decode cL_law 247 = .ok (.iadd, 1) := by decide +kernel
theorem dL_law_248 : decode cL_law 248 = .ok (.iaload, 1) := by decide +kernel
theorem dL_law_249 : decode cL_law 249 = .ok (.aload_n 0, 1) := by decide +kernel
theorem dL_law_250 : decode cL_law 250 = .ok (.iload_n 3, 1) := by decide +kernel
theorem dL_law_251 : decode cL_law 251 = .ok (.iconst 4, 1) := by decide +kernel
theorem dL_law_252 : decode cL_law 252 = .ok (.iadd, 1) := by decide +kernel
theorem dL_law_253 : decode cL_law 253 = .ok (.iaload, 1) := by decide +kernel
theorem dL_law_254 : decode cL_law 254 = .ok (.aload_n 0, 1) := by decide +kernel
theorem dL_law_255 : decode cL_law 255 = .ok (.iload_n 3, 1) := by decide +kernel
theorem dL_law_256 : decode cL_law 256 = .ok (.iconst 5, 1) := by decide +kernel
theorem dL_law_257 : decode cL_law 257 = .ok (.iadd, 1) := by decide +kernel
theorem dL_law_258 : decode cL_law 258 = .ok (.iaload, 1) := by decide +kernel
theorem dL_law_259 : decode cL_law 259 = .ok (.invokevirtual 17, 3) := by decide +kernel
theorem dL_law_262 : decode cL_law 262 = .ok (.if_icmp .eq 1079, 3) := by decide +kernel
theorem dL_law_265 : decode cL_law 265 = .ok (.iconst 0, 1) := by decide +kernel
theorem dL_law_266 : decode cL_law 266 = .ok (.ireturn, 1) := by decide +kernel
theorem dL_law_267 : decode cL_law 267 = .ok (.aload_n 1, 1) := by decide +kernel
theorem dL_law_268 : decode cL_law 268 = .ok (.aload_n 0, 1) := by decide +kernel
theorem dL_law_269 : decode cL_law 269 = .ok (.iload_n 3, 1) := by decide +kernel
theorem dL_law_270 : decode cL_law 270 = .ok (.iconst 1, 1) := by decide +kernel
theorem dL_law_271 : decode cL_law 271 = .ok (.iadd, 1) := by decide +kernel
theorem dL_law_272 : decode cL_law 272 = .ok (.iaload, 1) := by decide +kernel
theorem dL_law_273 : decode cL_law 273 = .ok (.invokevirtual 18, 3) := by decide +kernel
theorem dL_law_276 : decode cL_law 276 = .ok (.pop, 1) := by decide +kernel
theorem dL_law_277 : decode cL_law 277 = .ok (.aload_n 2, 1) := by decide +kernel
theorem dL_law_278 : decode cL_law 278 = .ok (.aload_n 0, 1) := by decide +kernel
theorem dL_law_279 : decode cL_law 279 = .ok (.iload_n 3, 1) := by decide +kernel
theorem dL_law_280 : decode cL_law 280 = .ok (.iconst 1, 1) := by decide +kernel
theorem dL_law_281 : decode cL_law 281 = .ok (.iadd, 1) := by decide +kernel
theorem dL_law_282 : decode cL_law 282 = .ok (.iaload, 1) := by decide +kernel
theorem dL_law_283 : decode cL_law 283 = .ok (.invokevirtual 22, 3) := by decide +kernel
theorem dL_law_286 : decode cL_law 286 = .ok (.pop, 1) := by decide +kernel
theorem dL_law_287 : decode cL_law 287 = .ok (.goto 1054, 3) := by decide +kernel
theorem dL_law_290 : decode cL_law 290 = .ok (.aload_n 1, 1) := by decide +kernel
theorem dL_law_291 : decode cL_law 291 = .ok (.aload_n 0, 1) := by decide +kernel
theorem dL_law_292 : decode cL_law 292 = .ok (.iload_n 3, 1) := by decide +kernel
theorem dL_law_293 : decode cL_law 293 = .ok (.iconst 1, 1) := by decide +kernel
theorem dL_law_294 : decode cL_law 294 = .ok (.iadd, 1) := by decide +kernel
theorem dL_law_295 : decode cL_law 295 = .ok (.iaload, 1) := by decide +kernel
theorem dL_law_296 : decode cL_law 296 = .ok (.aload_n 0, 1) := by decide +kernel
theorem dL_law_297 : decode cL_law 297 = .ok (.iload_n 3, 1) := by decide +kernel
theorem dL_law_298 : decode cL_law 298 = .ok (.iconst 2, 1) := by decide +kernel
theorem dL_law_299 : decode cL_law 299 = .ok (.iadd, 1) := by decide +kernel
theorem dL_law_300 : decode cL_law 300 = .ok (.iaload, 1) := by decide +kernel
theorem dL_law_301 : decode cL_law 301 = .ok (.aload_n 0, 1) := by decide +kernel
theorem dL_law_302 : decode cL_law 302 = .ok (.iload_n 3, 1) := by decide +kernel
theorem dL_law_303 : decode cL_law 303 = .ok (.iconst 3, 1) := by decide +kernel
theorem dL_law_304 : decode cL_law 304 = .ok (.iadd, 1) := by decide +kernel
theorem dL_law_305 : decode cL_law 305 = .ok (.iaload, 1) := by decide +kernel
theorem dL_law_306 : decode cL_law 306 = .ok (.invokevirtual 23, 3) := by decide +kernel
theorem dL_law_309 : decode cL_law 309 = .ok (.pop, 1) := by decide +kernel
theorem dL_law_310 : decode cL_law 310 = .ok (.aload_n 2, 1) := by decide +kernel
theorem dL_law_311 : decode cL_law 311 = .ok (.aload_n 0, 1) := by decide +kernel
theorem dL_law_312 : decode cL_law 312 = .ok (.iload_n 3, 1) := by decide +kernel
theorem dL_law_313 : decode cL_law 313 = .ok (.iconst 1, 1) := by decide +kernel
theorem dL_law_314 : decode cL_law 314 = .ok (.iadd, 1) := by decide +kernel
theorem dL_law_315 : decode cL_law 315 = .ok (.iaload, 1) := by decide +kernel
theorem dL_law_316 : decode cL_law 316 = .ok (.aload_n 0, 1) := by decide +kernel
theorem dL_law_317 : decode cL_law 317 = .ok (.iload_n 3, 1) := by decide +kernel
theorem dL_law_318 : decode cL_law 318 = .ok (.iconst 2, 1) := by decide +kernel
theorem dL_law_319 : decode cL_law 319 = .ok (.iadd, 1) := by decide +kernel
theorem dL_law_320 : decode cL_law 320 = .ok (.iaload, 1) := by decide +kernel
theorem dL_law_321 : decode cL_law 321 = .ok (.aload_n 0, 1) := by decide +kernel
theorem dL_law_322 : decode cL_law 322 = .ok (.iload_n 3, 1) := by decide +kernel
theorem dL_law_323 : decode cL_law 323 = .ok (.iconst 3, 1) := by decide +kernel
theorem dL_law_324 : decode cL_law 324 = .ok (.iadd, 1) := by decide +kernel
theorem dL_law_325 : decode cL_law 325 = .ok (.iaload, 1) := by decide +kernel
theorem dL_law_326 : decode cL_law 326 = .ok (.invokevirtual 27, 3) := by decide +kernel
theorem dL_law_329 : decode cL_law 329 = .ok (.pop, 1) := by decide +kernel
theorem dL_law_330 : decode cL_law 330 = .ok (.goto 1011, 3) := by decide +kernel
theorem dL_law_333 : decode cL_law 333 = .ok (.aload_n 1, 1) := by decide +kernel
theorem dL_law_334 : decode cL_law 334 = .ok (.aload_n 0, 1) := by decide +kernel
theorem dL_law_335 : decode cL_law 335 = .ok (.iload_n 3, 1) := by decide +kernel
theorem dL_law_336 : decode cL_law 336 = .ok (.iconst 1, 1) := by decide +kernel
theorem dL_law_337 : decode cL_law 337 = .ok (.iadd, 1) := by decide +kernel
theorem dL_law_338 : decode cL_law 338 = .ok (.iaload, 1) := by decide +kernel
theorem dL_law_339 : decode cL_law 339 = .ok (.aload_n 0, 1) := by decide +kernel
theorem dL_law_340 : decode cL_law 340 = .ok (.iload_n 3, 1) := by decide +kernel
theorem dL_law_341 : decode cL_law 341 = .ok (.iconst 2, 1) := by decide +kernel
theorem dL_law_342 : decode cL_law 342 = .ok (.iadd, 1) := by decide +kernel
theorem dL_law_343 : decode cL_law 343 = .ok (.iaload, 1) := by decide +kernel
theorem dL_law_344 : decode cL_law 344 = .ok (.invokevirtual 28, 3) := by decide +kernel
theorem dL_law_347 : decode cL_law 347 = .ok (.pop, 1) := by decide +kernel
theorem dL_law_348 : decode cL_law 348 = .ok (.aload_n 2, 1) := by decide +kernel
theorem dL_law_349 : decode cL_law 349 = .ok (.aload_n 0, 1) := by decide +kernel
theorem dL_law_350 : decode cL_law 350 = .ok (.iload_n 3, 1) := by decide +kernel
theorem dL_law_351 : decode cL_law 351 = .ok (.iconst 1, 1) := by decide +kernel
theorem dL_law_352 : decode cL_law 352 = .ok (.iadd, 1) := by decide +kernel
theorem dL_law_353 : decode cL_law 353 = .ok (.iaload, 1) := by decide +kernel
theorem dL_law_354 : decode cL_law 354 = .ok (.aload_n 0, 1) := by decide +kernel
theorem dL_law_355 : decode cL_law 355 = .ok (.iload_n 3, 1) := by decide +kernel
theorem dL_law_356 : decode cL_law 356 = .ok (.iconst 2, 1) := by decide +kernel
theorem dL_law_357 : decode cL_law 357 = .ok (.iadd, 1) := by decide +kernel
theorem dL_law_358 : decode cL_law 358 = .ok (.iaload, 1) := by decide +kernel
theorem dL_law_359 : decode cL_law 359 = .ok (.invokevirtual 32, 3) := by decide +kernel
theorem dL_law_362 : decode cL_law 362 = .ok (.pop, 1) := by decide +kernel
theorem dL_law_363 : decode cL_law 363 = .ok (.goto 978, 3) := by decide +kernel
theorem dL_law_366 : decode cL_law 366 = .ok (.aload_n 1, 1) := by decide +kernel
theorem dL_law_367 : decode cL_law 367 = .ok (.invokevirtual 33, 3) := by decide +kernel
theorem dL_law_370 : decode cL_law 370 = .ok (.pop, 1) := by decide +kernel
theorem dL_law_371 : decode cL_law 371 = .ok (.aload_n 2, 1) := by decide +kernel
theorem dL_law_372 : decode cL_law 372 = .ok (.invokevirtual 37, 3) := by decide +kernel
theorem dL_law_375 : decode cL_law 375 = .ok (.pop, 1) := by decide +kernel
theorem dL_law_376 : decode cL_law 376 = .ok (.goto 965, 3) := by decide +kernel
theorem dL_law_379 : decode cL_law 379 = .ok (.aload_n 1, 1) := by decide +kernel
theorem dL_law_380 : decode cL_law 380 = .ok (.aload_n 0, 1) := by decide +kernel
theorem dL_law_381 : decode cL_law 381 = .ok (.iload_n 3, 1) := by decide +kernel
theorem dL_law_382 : decode cL_law 382 = .ok (.iconst 1, 1) := by decide +kernel
theorem dL_law_383 : decode cL_law 383 = .ok (.iadd, 1) := by decide +kernel
theorem dL_law_384 : decode cL_law 384 = .ok (.iaload, 1) := by decide +kernel
theorem dL_law_385 : decode cL_law 385 = .ok (.invokevirtual 38, 3) := by decide +kernel
theorem dL_law_388 : decode cL_law 388 = .ok (.pop, 1) := by decide +kernel
theorem dL_law_389 : decode cL_law 389 = .ok (.aload_n 2, 1) := by decide +kernel
theorem dL_law_390 : decode cL_law 390 = .ok (.aload_n 0, 1) := by decide +kernel
theorem dL_law_391 : decode cL_law 391 = .ok (.iload_n 3, 1) := by decide +kernel
theorem dL_law_392 : decode cL_law 392 = .ok (.iconst 1, 1) := by decide +kernel
theorem dL_law_393 : decode cL_law 393 = .ok (.iadd, 1) := by decide +kernel
theorem dL_law_394 : decode cL_law 394 = .ok (.iaload, 1) := by decide +kernel
theorem dL_law_395 : decode cL_law 395 = .ok (.invokevirtual 41, 3) := by decide +kernel
theorem dL_law_398 : decode cL_law 398 = .ok (.pop, 1) := by decide +kernel
theorem dL_law_399 : decode cL_law 399 = .ok (.goto 942, 3) := by decide +kernel
theorem dL_law_402 : decode cL_law 402 = .ok (.aload_n 1, 1) := by decide +kernel
theorem dL_law_403 : decode cL_law 403 = .ok (.aload_n 0, 1) := by decide +kernel
theorem dL_law_404 : decode cL_law 404 = .ok (.iload_n 3, 1) := by decide +kernel
theorem dL_law_405 : decode cL_law 405 = .ok (.iconst 1, 1) := by decide +kernel
theorem dL_law_406 : decode cL_law 406 = .ok (.iadd, 1) := by decide +kernel
theorem dL_law_407 : decode cL_law 407 = .ok (.iaload, 1) := by decide +kernel
theorem dL_law_408 : decode cL_law 408 = .ok (.invokevirtual 42, 3) := by decide +kernel
theorem dL_law_411 : decode cL_law 411 = .ok (.pop, 1) := by decide +kernel
theorem dL_law_412 : decode cL_law 412 = .ok (.aload_n 2, 1) := by decide +kernel
theorem dL_law_413 : decode cL_law 413 = .ok (.aload_n 0, 1) := by decide +kernel
theorem dL_law_414 : decode cL_law 414 = .ok (.iload_n 3, 1) := by decide +kernel
theorem dL_law_415 : decode cL_law 415 = .ok (.iconst 1, 1) := by decide +kernel
theorem dL_law_416 : decode cL_law 416 = .ok (.iadd, 1) := by decide +kernel
theorem dL_law_417 : decode cL_law 417 = .ok (.iaload, 1) := by decide +kernel
theorem dL_law_418 : decode cL_law 418 = .ok (.invokevirtual 45, 3) := by decide +kernel
theorem dL_law_421 : decode cL_law 421 = .ok (.pop, 1) := by decide +kernel
theorem dL_law_422 : decode cL_law 422 = .ok (.goto 919, 3) := by decide +kernel
theorem dL_law_425 : decode cL_law 425 = .ok (.aload_n 1, 1) := by decide +kernel
theorem dL_law_426 : decode cL_law 426 = .ok (.invokevirtual 46, 3) := by decide +kernel
theorem dL_law_429 : decode cL_law 429 = .ok (.pop, 1) := by decide +kernel
theorem dL_law_430 : decode cL_law 430 = .ok (.aload_n 2, 1) := by decide +kernel
theorem dL_law_431 : decode cL_law 431 = .ok (.invokevirtual 49, 3) := by decide +kernel
theorem dL_law_434 : decode cL_law 434 = .ok (.pop, 1) := by decide +kernel
theorem dL_law_435 : decode cL_law 435 = .ok (.goto 906, 3) := by decide +kernel
theorem dL_law_438 : decode cL_law 438 = .ok (.aload_n 1, 1) := by decide +kernel
theorem dL_law_439 : decode cL_law 439 = .ok (.aload_n 0, 1) := by decide +kernel
theorem dL_law_440 : decode cL_law 440 = .ok (.iload_n 3, 1) := by decide +kernel
theorem dL_law_441 : decode cL_law 441 = .ok (.iconst 1, 1) := by decide +kernel
theorem dL_law_442 : decode cL_law 442 = .ok (.iadd, 1) := by decide +kernel
theorem dL_law_443 : decode cL_law 443 = .ok (.iaload, 1) := by decide +kernel
theorem dL_law_444 : decode cL_law 444 = .ok (.invokevirtual 50, 3) := by decide +kernel
theorem dL_law_447 : decode cL_law 447 = .ok (.pop, 1) := by decide +kernel
theorem dL_law_448 : decode cL_law 448 = .ok (.aload_n 2, 1) := by decide +kernel
theorem dL_law_449 : decode cL_law 449 = .ok (.aload_n 0, 1) := by decide +kernel
theorem dL_law_450 : decode cL_law 450 = .ok (.iload_n 3, 1) := by decide +kernel
theorem dL_law_451 : decode cL_law 451 = .ok (.iconst 1, 1) := by decide +kernel
theorem dL_law_452 : decode cL_law 452 = .ok (.iadd, 1) := by decide +kernel
theorem dL_law_453 : decode cL_law 453 = .ok (.iaload, 1) := by decide +kernel
theorem dL_law_454 : decode cL_law 454 = .ok (.invokevirtual 53, 3) := by decide +kernel
theorem dL_law_457 : decode cL_law 457 = .ok (.pop, 1) := by decide +kernel
theorem dL_law_458 : decode cL_law 458 = .ok (.goto 883, 3) := by decide +kernel
theorem dL_law_461 : decode cL_law 461 = .ok (.aload_n 1, 1) := by decide +kernel
theorem dL_law_462 : decode cL_law 462 = .ok (.aload_n 0, 1) := by decide +kernel
theorem dL_law_463 : decode cL_law 463 = .ok (.iload_n 3, 1) := by decide +kernel
theorem dL_law_464 : decode cL_law 464 = .ok (.iconst 1, 1) := by decide +kernel
theorem dL_law_465 : decode cL_law 465 = .ok (.iadd, 1) := by decide +kernel
theorem dL_law_466 : decode cL_law 466 = .ok (.iaload, 1) := by decide +kernel
theorem dL_law_467 : decode cL_law 467 = .ok (.aload_n 0, 1) := by decide +kernel
theorem dL_law_468 : decode cL_law 468 = .ok (.iload_n 3, 1) := by decide +kernel
theorem dL_law_469 : decode cL_law 469 = .ok (.iconst 2, 1) := by decide +kernel
theorem dL_law_470 : decode cL_law 470 = .ok (.iadd, 1) := by decide +kernel
theorem dL_law_471 : decode cL_law 471 = .ok (.iaload, 1) := by decide +kernel
theorem dL_law_472 : decode cL_law 472 = .ok (.invokevirtual 54, 3) := by decide +kernel
theorem dL_law_475 : decode cL_law 475 = .ok (.pop, 1) := by decide +kernel
theorem dL_law_476 : decode cL_law 476 = .ok (.aload_n 2, 1) := by decide +kernel
theorem dL_law_477 : decode cL_law 477 = .ok (.aload_n 0, 1) := by decide +kernel
theorem dL_law_478 : decode cL_law 478 = .ok (.iload_n 3, 1) := by decide +kernel
theorem dL_law_479 : decode cL_law 479 = .ok (.iconst 1, 1) := by decide +kernel
theorem dL_law_480 : decode cL_law 480 = .ok (.iadd, 1) := by decide +kernel
theorem dL_law_481 : decode cL_law 481 = .ok (.iaload, 1) := by decide +kernel
theorem dL_law_482 : decode cL_law 482 = .ok (.aload_n 0, 1) := by decide +kernel
theorem dL_law_483 : decode cL_law 483 = .ok (.iload_n 3, 1) := by decide +kernel
theorem dL_law_484 : decode cL_law 484 = .ok (.iconst 2, 1) := by decide +kernel
theorem dL_law_485 : decode cL_law 485 = .ok (.iadd, 1) := by decide +kernel
theorem dL_law_486 : decode cL_law 486 = .ok (.iaload, 1) := by decide +kernel
theorem dL_law_487 : decode cL_law 487 = .ok (.invokevirtual 57, 3) := by decide +kernel
theorem dL_law_490 : decode cL_law 490 = .ok (.pop, 1) := by decide +kernel
theorem dL_law_491 : decode cL_law 491 = .ok (.goto 850, 3) := by decide +kernel
theorem dL_law_494 : decode cL_law 494 = .ok (.aload_n 1, 1) := by decide +kernel
theorem dL_law_495 : decode cL_law 495 = .ok (.aload_n 0, 1) := by decide +kernel
theorem dL_law_496 : decode cL_law 496 = .ok (.iload_n 3, 1) := by decide +kernel
theorem dL_law_497 : decode cL_law 497 = .ok (.iconst 1, 1) := by decide +kernel
theorem dL_law_498 : decode cL_law 498 = .ok (.iadd, 1) := by decide +kernel
theorem dL_law_499 : decode cL_law 499 = .ok (.iaload, 1) := by decide +kernel
theorem dL_law_500 : decode cL_law 500 = .ok (.invokevirtual 58, 3) := by decide +kernel
theorem dL_law_503 : decode cL_law 503 = .ok (.pop, 1) := by decide +kernel
theorem dL_law_504 : decode cL_law 504 = .ok (.aload_n 2, 1) := by decide +kernel
theorem dL_law_505 : decode cL_law 505 = .ok (.aload_n 0, 1) := by decide +kernel
theorem dL_law_506 : decode cL_law 506 = .ok (.iload_n 3, 1) := by decide +kernel
theorem dL_law_507 : decode cL_law 507 = .ok (.iconst 1, 1) := by decide +kernel
theorem dL_law_508 : decode cL_law 508 = .ok (.iadd, 1) := by decide +kernel
theorem dL_law_509 : decode cL_law 509 = .ok (.iaload, 1) := by decide +kernel
theorem dL_law_510 : decode cL_law 510 = .ok (.invokevirtual 61, 3) := by decide +kernel
theorem dL_law_513 : decode cL_law 513 = .ok (.pop, 1) := by decide +kernel
theorem dL_law_514 : decode cL_law 514 = .ok (.goto 827, 3) := by decide +kernel
theorem dL_law_517 : decode cL_law 517 = .ok (.aload_n 1, 1) := by decide +kernel
theorem dL_law_518 : decode cL_law 518 = .ok (.aload_n 0, 1) := by decide +kernel
theorem dL_law_519 : decode cL_law 519 = .ok (.iload_n 3, 1) := by decide +kernel
theorem dL_law_520 : decode cL_law 520 = .ok (.iconst 1, 1) := by decide +kernel
theorem dL_law_521 : decode cL_law 521 = .ok (.iadd, 1) := by decide +kernel
theorem dL_law_522 : decode cL_law 522 = .ok (.iaload, 1) := by decide +kernel
theorem dL_law_523 : decode cL_law 523 = .ok (.aload_n 0, 1) := by decide +kernel
theorem dL_law_524 : decode cL_law 524 = .ok (.iload_n 3, 1) := by decide +kernel
theorem dL_law_525 : decode cL_law 525 = .ok (.iconst 2, 1) := by decide +kernel
theorem dL_law_526 : decode cL_law 526 = .ok (.iadd, 1) := by decide +kernel
theorem dL_law_527 : decode cL_law 527 = .ok (.iaload, 1) := by decide +kernel
theorem dL_law_528 : decode cL_law 528 = .ok (.invokevirtual 62, 3) := by decide +kernel
theorem dL_law_531 : decode cL_law 531 = .ok (.pop, 1) := by decide +kernel
theorem dL_law_532 : decode cL_law 532 = .ok (.aload_n 2, 1) := by decide +kernel
theorem dL_law_533 : decode cL_law 533 = .ok (.aload_n 0, 1) := by decide +kernel
theorem dL_law_534 : decode cL_law 534 = .ok (.iload_n 3, 1) := by decide +kernel
theorem dL_law_535 : decode cL_law 535 = .ok (.iconst 1, 1) := by decide +kernel
theorem dL_law_536 : decode cL_law 536 = .ok (.iadd, 1) := by decide +kernel
theorem dL_law_537 : decode cL_law 537 = .ok (.iaload, 1) := by decide +kernel
theorem dL_law_538 : decode cL_law 538 = .ok (.aload_n 0, 1) := by decide +kernel
theorem dL_law_539 : decode cL_law 539 = .ok (.iload_n 3, 1) := by decide +kernel
theorem dL_law_540 : decode cL_law 540 = .ok (.iconst 2, 1) := by decide +kernel
theorem dL_law_541 : decode cL_law 541 = .ok (.iadd, 1) := by decide +kernel
theorem dL_law_542 : decode cL_law 542 = .ok (.iaload, 1) := by decide +kernel
theorem dL_law_543 : decode cL_law 543 = .ok (.invokevirtual 65, 3) := by decide +kernel
theorem dL_law_546 : decode cL_law 546 = .ok (.pop, 1) := by decide +kernel
theorem dL_law_547 : decode cL_law 547 = .ok (.goto 794, 3) := by decide +kernel
theorem dL_law_550 : decode cL_law 550 = .ok (.aload_n 1, 1) := by decide +kernel
theorem dL_law_551 : decode cL_law 551 = .ok (.aload_n 0, 1) := by decide +kernel
theorem dL_law_552 : decode cL_law 552 = .ok (.iload_n 3, 1) := by decide +kernel
theorem dL_law_553 : decode cL_law 553 = .ok (.iconst 1, 1) := by decide +kernel
theorem dL_law_554 : decode cL_law 554 = .ok (.iadd, 1) := by decide +kernel
theorem dL_law_555 : decode cL_law 555 = .ok (.iaload, 1) := by decide +kernel
theorem dL_law_556 : decode cL_law 556 = .ok (.aload_n 0, 1) := by decide +kernel
theorem dL_law_557 : decode cL_law 557 = .ok (.iload_n 3, 1) := by decide +kernel
theorem dL_law_558 : decode cL_law 558 = .ok (.iconst 2, 1) := by decide +kernel
theorem dL_law_559 : decode cL_law 559 = .ok (.iadd, 1) := by decide +kernel
theorem dL_law_560 : decode cL_law 560 = .ok (.iaload, 1) := by decide +kernel
theorem dL_law_561 : decode cL_law 561 = .ok (.aload_n 0, 1) := by decide +kernel
theorem dL_law_562 : decode cL_law 562 = .ok (.iload_n 3, 1) := by decide +kernel
theorem dL_law_563 : decode cL_law 563 = .ok (.iconst 3, 1) := by decide +kernel
theorem dL_law_564 : decode cL_law 564 = .ok (.iadd, 1) := by decide +kernel
theorem dL_law_565 : decode cL_law 565 = .ok (.iaload, 1) := by decide +kernel
theorem dL_law_566 : decode cL_law 566 = .ok (.invokevirtual 66, 3) := by decide +kernel
theorem dL_law_569 : decode cL_law 569 = .ok (.pop, 1) := by decide +kernel
theorem dL_law_570 : decode cL_law 570 = .ok (.aload_n 2, 1) := by decide +kernel
theorem dL_law_571 : decode cL_law 571 = .ok (.aload_n 0, 1) := by decide +kernel
theorem dL_law_572 : decode cL_law 572 = .ok (.iload_n 3, 1) := by decide +kernel
theorem dL_law_573 : decode cL_law 573 = .ok (.iconst 1, 1) := by decide +kernel
theorem dL_law_574 : decode cL_law 574 = .ok (.iadd, 1) := by decide +kernel
theorem dL_law_575 : decode cL_law 575 = .ok (.iaload, 1) := by decide +kernel
theorem dL_law_576 : decode cL_law 576 = .ok (.aload_n 0, 1) := by decide +kernel
theorem dL_law_577 : decode cL_law 577 = .ok (.iload_n 3, 1) := by decide +kernel
theorem dL_law_578 : decode cL_law 578 = .ok (.iconst 2, 1) := by decide +kernel
theorem dL_law_579 : decode cL_law 579 = .ok (.iadd, 1) := by decide +kernel
theorem dL_law_580 : decode cL_law 580 = .ok (.iaload, 1) := by decide +kernel
theorem dL_law_581 : decode cL_law 581 = .ok (.aload_n 0, 1) := by decide +kernel
theorem dL_law_582 : decode cL_law 582 = .ok (.iload_n 3, 1) := by decide +kernel
theorem dL_law_583 : decode cL_law 583 = .ok (.iconst 3, 1) := by decide +kernel
theorem dL_law_584 : decode cL_law 584 = .ok (.iadd, 1) := by decide +kernel
theorem dL_law_585 : decode cL_law 585 = .ok (.iaload, 1) := by decide +kernel
theorem dL_law_586 : decode cL_law 586 = .ok (.invokevirtual 69, 3) := by decide +kernel
theorem dL_law_589 : decode cL_law 589 = .ok (.pop, 1) := by decide +kernel
theorem dL_law_590 : decode cL_law 590 = .ok (.goto 751, 3) := by decide +kernel
theorem dL_law_593 : decode cL_law 593 = .ok (.aload_n 1, 1) := by decide +kernel
theorem dL_law_594 : decode cL_law 594 = .ok (.aload_n 0, 1) := by decide +kernel
theorem dL_law_595 : decode cL_law 595 = .ok (.iload_n 3, 1) := by decide +kernel
theorem dL_law_596 : decode cL_law 596 = .ok (.iconst 1, 1) := by decide +kernel
theorem dL_law_597 : decode cL_law 597 = .ok (.iadd, 1) := by decide +kernel
theorem dL_law_598 : decode cL_law 598 = .ok (.iaload, 1) := by decide +kernel
theorem dL_law_599 : decode cL_law 599 = .ok (.aload_n 0, 1) := by decide +kernel
theorem dL_law_600 : decode cL_law 600 = .ok (.iload_n 3, 1) := by decide +kernel
theorem dL_law_601 : decode cL_law 601 = .ok (.iconst 2, 1) := by decide +kernel
theorem dL_law_602 : decode cL_law 602 = .ok (.iadd, 1) := by decide +kernel
theorem dL_law_603 : decode cL_law 603 = .ok (.iaload, 1) := by decide +kernel
theorem dL_law_604 : decode cL_law 604 = .ok (.aload_n 0, 1) := by decide +kernel
theorem dL_law_605 : decode cL_law 605 = .ok (.iload_n 3, 1) := by decide +kernel
theorem dL_law_606 : decode cL_law 606 = .ok (.iconst 3, 1) := by decide +kernel
theorem dL_law_607 : decode cL_law 607 = .ok (.iadd, 1) := by decide +kernel
theorem dL_law_608 : decode cL_law 608 = .ok (.iaload, 1) := by decide +kernel
theorem dL_law_609 : decode cL_law 609 = .ok (.aload_n 0, 1) := by decide +kernel
theorem dL_law_610 : decode cL_law 610 = .ok (.iload_n 3, 1) := by decide +kernel
theorem dL_law_611 : decode cL_law 611 = .ok (.iconst 4, 1) := by decide +kernel
theorem dL_law_612 : decode cL_law 612 = .ok (.iadd, 1) := by decide +kernel
theorem dL_law_613 : decode cL_law 613 = .ok (.iaload, 1) := by decide +kernel
theorem dL_law_614 : decode cL_law 614 = .ok (.invokevirtual 70, 3) := by decide +kernel
theorem dL_law_617 : decode cL_law 617 = .ok (.pop, 1) := by decide +kernel
theorem dL_law_618 : decode cL_law 618 = .ok (.aload_n 2, 1) := by decide +kernel
theorem dL_law_619 : decode cL_law 619 = .ok (.aload_n 0, 1) := by decide +kernel
theorem dL_law_620 : decode cL_law 620 = .ok (.iload_n 3, 1) := by decide +kernel
theorem dL_law_621 : decode cL_law 621 = .ok (.iconst 1, 1) := by decide +kernel
theorem dL_law_622 : decode cL_law 622 = .ok (.iadd, 1) := by decide +kernel
theorem dL_law_623 : decode cL_law 623 = .ok (.iaload, 1) := by decide +kernel
theorem dL_law_624 : decode cL_law 624 = .ok (.aload_n 0, 1) := by decide +kernel
theorem dL_law_625 : decode cL_law 625 = .ok (.iload_n 3, 1) := by decide +kernel
theorem dL_law_626 : decode cL_law 626 = .ok (.iconst 2, 1) := by decide +kernel
theorem dL_law_627 : decode cL_law 627 = .ok (.iadd, 1) := by decide +kernel
theorem dL_law_628 : decode cL_law 628 = .ok (.iaload, 1) := by decide +kernel
theorem dL_law_629 : decode cL_law 629 = .ok (.aload_n 0, 1) := by decide +kernel
theorem dL_law_630 : decode cL_law 630 = .ok (.iload_n 3, 1) := by decide +kernel
theorem dL_law_631 : decode cL_law 631 = .ok (.iconst 3, 1) := by decide +kernel
theorem dL_law_632 : decode cL_law 632 = .ok (.iadd, 1) := by decide +kernel
theorem dL_law_633 : decode cL_law 633 = .ok (.iaload, 1) := by decide +kernel
theorem dL_law_634 : decode cL_law 634 = .ok (.aload_n 0, 1) := by decide +kernel
theorem dL_law_635 : decode cL_law 635 = .ok (.iload_n 3, 1) := by decide +kernel
theorem dL_law_636 : decode cL_law 636 = .ok (.iconst 4, 1) := by decide +kernel
theorem dL_law_637 : decode cL_law 637 = .ok (.iadd, 1) := by decide +kernel
theorem dL_law_638 : decode cL_law 638 = .ok (.iaload, 1) := by decide +kernel
theorem dL_law_639 : decode cL_law 639 = .ok (.invokevirtual 74, 3) := by decide +kernel
theorem dL_law_642 : decode cL_law 642 = .ok (.pop, 1) := by decide +kernel
theorem dL_law_643 : decode cL_law 643 = .ok (.goto 698, 3) := by decide +kernel
theorem dL_law_646 : decode cL_law 646 = .ok (.aload_n 1, 1) := by decide +kernel
theorem dL_law_647 : decode cL_law 647 = .ok (.aload_n 0, 1) := by decide +kernel
theorem dL_law_648 : decode cL_law 648 = .ok (.iload_n 3, 1) := by decide +kernel
theorem dL_law_649 : decode cL_law 649 = .ok (.iconst 1, 1) := by decide +kernel
theorem dL_law_650 : decode cL_law 650 = .ok (.iadd, 1) := by decide +kernel
theorem dL_law_651 : decode cL_law 651 = .ok (.iaload, 1) := by decide +kernel
theorem dL_law_652 : decode cL_law 652 = .ok (.aload_n 0, 1) := by decide +kernel
theorem dL_law_653 : decode cL_law 653 = .ok (.iload_n 3, 1) := by decide +kernel
theorem dL_law_654 : decode cL_law 654 = .ok (.iconst 2, 1) := by decide +kernel
theorem dL_law_655 : decode cL_law 655 = .ok (.iadd, 1) := by decide +kernel
theorem dL_law_656 : decode cL_law 656 = .ok (.iaload, 1) := by decide +kernel
theorem dL_law_657 : decode cL_law 657 = .ok (.invokevirtual 75, 3) := by decide +kernel
theorem dL_law_660 : decode cL_law 660 = .ok (.pop, 1) := by decide +kernel
theorem dL_law_661 : decode cL_law 661 = .ok (.aload_n 2, 1) := by decide +kernel
theorem dL_law_662 : decode cL_law 662 = .ok (.aload_n 0, 1) := by decide +kernel
theorem dL_law_663 : decode cL_law 663 = .ok (.iload_n 3, 1) := by decide +kernel
theorem dL_law_664 : decode cL_law 664 = .ok (.iconst 1, 1) := by decide +kernel
theorem dL_law_665 : decode cL_law 665 = .ok (.iadd, 1) := by decide +kernel
theorem dL_law_666 : decode cL_law 666 = .ok (.iaload, 1) := by decide +kernel
theorem dL_law_667 : decode cL_law 667 = .ok (.aload_n 0, 1) := by decide +kernel
theorem dL_law_668 : decode cL_law 668 = .ok (.iload_n 3, 1) := by decide +kernel
theorem dL_law_669 : decode cL_law 669 = .ok (.iconst 2, 1) := by decide +kernel
theorem dL_law_670 : decode cL_law 670 = .ok (.iadd, 1) := by decide +kernel
theorem dL_law_671 : decode cL_law 671 = .ok (.iaload, 1) := by decide +kernel
theorem dL_law_672 : decode cL_law 672 = .ok (.invokevirtual 78, 3) := by decide +kernel
theorem dL_law_675 : decode cL_law 675 = .ok (.pop, 1) := by decide +kernel
theorem dL_law_676 : decode cL_law 676 = .ok (.goto 665, 3) := by decide +kernel
theorem dL_law_679 : decode cL_law 679 = .ok (.aload_n 1, 1) := by decide +kernel
theorem dL_law_680 : decode cL_law 680 = .ok (.aload_n 0, 1) := by decide +kernel
theorem dL_law_681 : decode cL_law 681 = .ok (.iload_n 3, 1) := by decide +kernel
theorem dL_law_682 : decode cL_law 682 = .ok (.iconst 1, 1) := by decide +kernel
theorem dL_law_683 : decode cL_law 683 = .ok (.iadd, 1) := by decide +kernel
theorem dL_law_684 : decode cL_law 684 = .ok (.iaload, 1) := by decide +kernel
theorem dL_law_685 : decode cL_law 685 = .ok (.aload_n 0, 1) := by decide +kernel
theorem dL_law_686 : decode cL_law 686 = .ok (.iload_n 3, 1) := by decide +kernel
theorem dL_law_687 : decode cL_law 687 = .ok (.iconst 2, 1) := by decide +kernel
theorem dL_law_688 : decode cL_law 688 = .ok (.iadd, 1) := by decide +kernel
theorem dL_law_689 : decode cL_law 689 = .ok (.iaload, 1) := by decide +kernel
theorem dL_law_690 : decode cL_law 690 = .ok (.aload_n 0, 1) := by decide +kernel
theorem dL_law_691 : decode cL_law 691 = .ok (.iload_n 3, 1) := by decide +kernel
theorem dL_law_692 : decode cL_law 692 = .ok (.iconst 3, 1) := by decide +kernel
theorem dL_law_693 : decode cL_law 693 = .ok (.iadd, 1) := by decide +kernel
theorem dL_law_694 : decode cL_law 694 = .ok (.iaload, 1) := by decide +kernel
theorem dL_law_695 : decode cL_law 695 = .ok (.aload_n 0, 1) := by decide +kernel
theorem dL_law_696 : decode cL_law 696 = .ok (.iload_n 3, 1) := by decide +kernel
theorem dL_law_697 : decode cL_law 697 = .ok (.iconst 4, 1) := by decide +kernel
theorem dL_law_698 : decode cL_law 698 = .ok (.iadd, 1) := by decide +kernel
theorem dL_law_699 : decode cL_law 699 = .ok (.iaload, 1) := by decide +kernel
theorem dL_law_700 : decode cL_law 700 = .ok (.invokevirtual 79, 3) := by decide +kernel
theorem dL_law_703 : decode cL_law 703 = .ok (.pop, 1) := by decide +kernel
theorem dL_law_704 : decode cL_law 704 = .ok (.aload_n 2, 1) := by decide +kernel
theorem dL_law_705 : decode cL_law 705 = .ok (.aload_n 0, 1) := by decide +kernel
theorem dL_law_706 : decode cL_law 706 = .ok (.iload_n 3, 1) := by decide +kernel
theorem dL_law_707 : decode cL_law 707 = .ok (.iconst 1, 1) := by decide +kernel
theorem dL_law_708 : decode cL_law 708 = .ok (.iadd, 1) := by decide +kernel
theorem dL_law_709 : decode cL_law 709 = .ok (.iaload, 1) := by decide +kernel
theorem dL_law_710 : decode cL_law 710 = .ok (.aload_n 0, 1) := by decide +kernel
theorem dL_law_711 : decode cL_law 711 = .ok (.iload_n 3, 1) := by decide +kernel
theorem dL_law_712 : decode cL_law 712 = .ok (.iconst 2, 1) := by decide +kernel
theorem dL_law_713 : decode cL_law 713 = .ok (.iadd, 1) := by decide +kernel
theorem dL_law_714 : decode cL_law 714 = .ok (.iaload, 1) := by decide +kernel
theorem dL_law_715 : decode cL_law 715 = .ok (.aload_n 0, 1) := by decide +kernel
theorem dL_law_716 : decode cL_law 716 = .ok (.iload_n 3, 1) := by decide +kernel
theorem dL_law_717 : decode cL_law 717 = .ok (.iconst 3, 1) := by decide +kernel
theorem dL_law_718 : decode cL_law 718 = .ok (.iadd, 1) := by decide +kernel
theorem dL_law_719 : decode cL_law 719 = .ok (.iaload, 1) := by decide +kernel
theorem dL_law_720 : decode cL_law 720 = .ok (.aload_n 0, 1) := by decide +kernel
theorem dL_law_721 : decode cL_law 721 = .ok (.iload_n 3, 1) := by decide +kernel
theorem dL_law_722 : decode cL_law 722 = .ok (.iconst 4, 1) := by decide +kernel
theorem dL_law_723 : decode cL_law 723 = .ok (.iadd, 1) := by decide +kernel
theorem dL_law_724 : decode cL_law 724 = .ok (.iaload, 1) := by decide +kernel
theorem dL_law_725 : decode cL_law 725 = .ok (.invokevirtual 82, 3) := by decide +kernel
theorem dL_law_728 : decode cL_law 728 = .ok (.pop, 1) := by decide +kernel
theorem dL_law_729 : decode cL_law 729 = .ok (.goto 612, 3) := by decide +kernel
theorem dL_law_732 : decode cL_law 732 = .ok (.aload_n 1, 1) := by decide +kernel
theorem dL_law_733 : decode cL_law 733 = .ok (.aload_n 0, 1) := by decide +kernel
theorem dL_law_734 : decode cL_law 734 = .ok (.iload_n 3, 1) := by decide +kernel
theorem dL_law_735 : decode cL_law 735 = .ok (.iconst 1, 1) := by decide +kernel
theorem dL_law_736 : decode cL_law 736 = .ok (.iadd, 1) := by decide +kernel
theorem dL_law_737 : decode cL_law 737 = .ok (.iaload, 1) := by decide +kernel
theorem dL_law_738 : decode cL_law 738 = .ok (.aload_n 0, 1) := by decide +kernel
theorem dL_law_739 : decode cL_law 739 = .ok (.iload_n 3, 1) := by decide +kernel
theorem dL_law_740 : decode cL_law 740 = .ok (.iconst 2, 1) := by decide +kernel
theorem dL_law_741 : decode cL_law 741 = .ok (.iadd, 1) := by decide +kernel
theorem dL_law_742 : decode cL_law 742 = .ok (.iaload, 1) := by decide +kernel
theorem dL_law_743 : decode cL_law 743 = .ok (.aload_n 0, 1) := by decide +kernel
theorem dL_law_744 : decode cL_law 744 = .ok (.iload_n 3, 1) := by decide +kernel
theorem dL_law_745 : decode cL_law 745 = .ok (.iconst 3, 1) := by decide +kernel
theorem dL_law_746 : decode cL_law 746 = .ok (.iadd, 1) := by decide +kernel
theorem dL_law_747 : decode cL_law 747 = .ok (.iaload, 1) := by decide +kernel
theorem dL_law_748 : decode cL_law 748 = .ok (.invokevirtual 83, 3) := by decide +kernel
theorem dL_law_751 : decode cL_law 751 = .ok (.pop, 1) := by decide +kernel
theorem dL_law_752 : decode cL_law 752 = .ok (.aload_n 2, 1) := by decide +kernel
theorem dL_law_753 : decode cL_law 753 = .ok (.aload_n 0, 1) := by decide +kernel
theorem dL_law_754 : decode cL_law 754 = .ok (.iload_n 3, 1) := by decide +kernel
theorem dL_law_755 : decode cL_law 755 = .ok (.iconst 1, 1) := by decide +kernel
theorem dL_law_756 : decode cL_law 756 = .ok (.iadd, 1) := by decide +kernel
theorem dL_law_757 : decode cL_law 757 = .ok (.iaload, 1) := by decide +kernel
theorem dL_law_758 : decode cL_law 758 = .ok (.aload_n 0, 1) := by decide +kernel
theorem dL_law_759 : decode cL_law 759 = .ok (.iload_n 3, 1) := by decide +kernel
theorem dL_law_760 : decode cL_law 760 = .ok (.iconst 2, 1) := by decide +kernel
theorem dL_law_761 : decode cL_law 761 = .ok (.iadd, 1) := by decide +kernel
theorem dL_law_762 : decode cL_law 762 = .ok (.iaload, 1) := by decide +kernel
theorem dL_law_763 : decode cL_law 763 = .ok (.aload_n 0, 1) := by decide +kernel
theorem dL_law_764 : decode cL_law 764 = .ok (.iload_n 3, 1) := by decide +kernel
theorem dL_law_765 : decode cL_law 765 = .ok (.iconst 3, 1) := by decide +kernel
theorem dL_law_766 : decode cL_law 766 = .ok (.iadd, 1) := by decide +kernel
theorem dL_law_767 : decode cL_law 767 = .ok (.iaload, 1) := by decide +kernel
theorem dL_law_768 : decode cL_law 768 = .ok (.invokevirtual 86, 3) := by decide +kernel
theorem dL_law_771 : decode cL_law 771 = .ok (.pop, 1) := by decide +kernel
theorem dL_law_772 : decode cL_law 772 = .ok (.goto 569, 3) := by decide +kernel
theorem dL_law_775 : decode cL_law 775 = .ok (.aload_n 1, 1) := by decide +kernel
theorem dL_law_776 : decode cL_law 776 = .ok (.aload_n 0, 1) := by decide +kernel
theorem dL_law_777 : decode cL_law 777 = .ok (.iload_n 3, 1) := by decide +kernel
theorem dL_law_778 : decode cL_law 778 = .ok (.iconst 1, 1) := by decide +kernel
theorem dL_law_779 : decode cL_law 779 = .ok (.iadd, 1) := by decide +kernel
theorem dL_law_780 : decode cL_law 780 = .ok (.iaload, 1) := by decide +kernel
theorem dL_law_781 : decode cL_law 781 = .ok (.aload_n 0, 1) := by decide +kernel
theorem dL_law_782 : decode cL_law 782 = .ok (.iload_n 3, 1) := by decide +kernel
theorem dL_law_783 : decode cL_law 783 = .ok (.iconst 2, 1) := by decide +kernel
theorem dL_law_784 : decode cL_law 784 = .ok (.iadd, 1) := by decide +kernel
theorem dL_law_785 : decode cL_law 785 = .ok (.iaload, 1) := by decide +kernel
theorem dL_law_786 : decode cL_law 786 = .ok (.aload_n 0, 1) := by decide +kernel
theorem dL_law_787 : decode cL_law 787 = .ok (.iload_n 3, 1) := by decide +kernel
theorem dL_law_788 : decode cL_law 788 = .ok (.iconst 3, 1) := by decide +kernel
theorem dL_law_789 : decode cL_law 789 = .ok (.iadd, 1) := by decide +kernel
theorem dL_law_790 : decode cL_law 790 = .ok (.iaload, 1) := by decide +kernel
theorem dL_law_791 : decode cL_law 791 = .ok (.invokevirtual 87, 3) := by decide +kernel
theorem dL_law_794 : decode cL_law 794 = .ok (.pop, 1) := by decide +kernel
theorem dL_law_795 : decode cL_law 795 = .ok (.aload_n 2, 1) := by decide +kernel
theorem dL_law_796 : decode cL_law 796 = .ok (.aload_n 0, 1) := by decide +kernel
theorem dL_law_797 : decode cL_law 797 = .ok (.iload_n 3, 1) := by decide +kernel
theorem dL_law_798 : decode cL_law 798 = .ok (.iconst 1, 1) := by decide +kernel
theorem dL_law_799 : decode cL_law 799 = .ok (.iadd, 1) := by decide +kernel
theorem dL_law_800 : decode cL_law 800 = .ok (.iaload, 1) := by decide +kernel
theorem dL_law_801 : decode cL_law 801 = .ok (.aload_n 0, 1) := by decide +kernel
theorem dL_law_802 : decode cL_law 802 = .ok (.iload_n 3, 1) := by decide +kernel
theorem dL_law_803 : decode cL_law 803 = .ok (.iconst 2, 1) := by decide +kernel
theorem dL_law_804 : decode cL_law 804 = .ok (.iadd, 1) := by decide +kernel
theorem dL_law_805 : decode cL_law 805 = .ok (.iaload, 1) := by decide +kernel
theorem dL_law_806 : decode cL_law 806 = .ok (.aload_n 0, 1) := by decide +kernel
theorem dL_law_807 : decode cL_law 807 = .ok (.iload_n 3, 1) := by decide +kernel
theorem dL_law_808 : decode cL_law 808 = .ok (.iconst 3, 1) := by decide +kernel
theorem dL_law_809 : decode cL_law 809 = .ok (.iadd, 1) := by decide +kernel
theorem dL_law_810 : decode cL_law 810 = .ok (.iaload, 1) := by decide +kernel
theorem dL_law_811 : decode cL_law 811 = .ok (.invokevirtual 90, 3) := by decide +kernel
theorem dL_law_814 : decode cL_law 814 = .ok (.pop, 1) := by decide +kernel
theorem dL_law_815 : decode cL_law 815 = .ok (.goto 526, 3) := by decide +kernel
theorem dL_law_818 : decode cL_law 818 = .ok (.aload_n 1, 1) := by decide +kernel
theorem dL_law_819 : decode cL_law 819 = .ok (.invokevirtual 91, 3) := by decide +kernel
theorem dL_law_822 : decode cL_law 822 = .ok (.pop, 1) := by decide +kernel
theorem dL_law_823 : decode cL_law 823 = .ok (.aload_n 2, 1) := by decide +kernel
theorem dL_law_824 : decode cL_law 824 = .ok (.invokevirtual 94, 3) := by decide +kernel
theorem dL_law_827 : decode cL_law 827 = .ok (.pop, 1) := by decide +kernel
theorem dL_law_828 : decode cL_law 828 = .ok (.goto 513, 3) := by decide +kernel
theorem dL_law_831 : decode cL_law 831 = .ok (.aload_n 1, 1) := by decide +kernel
theorem dL_law_832 : decode cL_law 832 = .ok (.aload_n 0, 1) := by decide +kernel
theorem dL_law_833 : decode cL_law 833 = .ok (.iload_n 3, 1) := by decide +kernel
theorem dL_law_834 : decode cL_law 834 = .ok (.iconst 1, 1) := by decide +kernel
theorem dL_law_835 : decode cL_law 835 = .ok (.iadd, 1) := by decide +kernel
theorem dL_law_836 : decode cL_law 836 = .ok (.iaload, 1) := by decide +kernel
theorem dL_law_837 : decode cL_law 837 = .ok (.invokevirtual 95, 3) := by decide +kernel
theorem dL_law_840 : decode cL_law 840 = .ok (.pop, 1) := by decide +kernel
theorem dL_law_841 : decode cL_law 841 = .ok (.aload_n 2, 1) := by decide +kernel
theorem dL_law_842 : decode cL_law 842 = .ok (.aload_n 0, 1) := by decide +kernel
theorem dL_law_843 : decode cL_law 843 = .ok (.iload_n 3, 1) := by decide +kernel
theorem dL_law_844 : decode cL_law 844 = .ok (.iconst 1, 1) := by decide +kernel
theorem dL_law_845 : decode cL_law 845 = .ok (.iadd, 1) := by decide +kernel
theorem dL_law_846 : decode cL_law 846 = .ok (.iaload, 1) := by decide +kernel
theorem dL_law_847 : decode cL_law 847 = .ok (.invokevirtual 98, 3) := by decide +kernel
theorem dL_law_850 : decode cL_law 850 = .ok (.pop, 1) := by decide +kernel
theorem dL_law_851 : decode cL_law 851 = .ok (.goto 490, 3) := by decide +kernel
theorem dL_law_854 : decode cL_law 854 = .ok (.aload_n 1, 1) := by decide +kernel
theorem dL_law_855 : decode cL_law 855 = .ok (.invokevirtual 99, 3) := by decide +kernel
theorem dL_law_858 : decode cL_law 858 = .ok (.pop, 1) := by decide +kernel
theorem dL_law_859 : decode cL_law 859 = .ok (.aload_n 2, 1) := by decide +kernel
theorem dL_law_860 : decode cL_law 860 = .ok (.invokevirtual 102, 3) := by decide +kernel
theorem dL_law_863 : decode cL_law 863 = .ok (.pop, 1) := by decide +kernel
theorem dL_law_864 : decode cL_law 864 = .ok (.goto 477, 3) := by decide +kernel
theorem dL_law_867 : decode cL_law 867 = .ok (.aload_n 1, 1) := by decide +kernel
theorem dL_law_868 : decode cL_law 868 = .ok (.aload_n 0, 1) := by decide +kernel
theorem dL_law_869 : decode cL_law 869 = .ok (.iload_n 3, 1) := by decide +kernel
theorem dL_law_870 : decode cL_law 870 = .ok (.iconst 1, 1) := by decide +kernel
theorem dL_law_871 : decode cL_law 871 = .ok (.iadd, 1) := by decide +kernel
theorem dL_law_872 : decode cL_law 872 = .ok (.iaload, 1) := by decide +kernel
theorem dL_law_873 : decode cL_law 873 = .ok (.aload_n 0, 1) := by decide +kernel
theorem dL_law_874 : decode cL_law 874 = .ok (.iload_n 3, 1) := by decide +kernel
theorem dL_law_875 : decode cL_law 875 = .ok (.iconst 2, 1) := by decide +kernel
theorem dL_law_876 : decode cL_law 876 = .ok (.iadd, 1) := by decide +kernel
theorem dL_law_877 : decode cL_law 877 = .ok (.iaload, 1) := by decide +kernel
theorem dL_law_878 : decode cL_law 878 = .ok (.invokevirtual 103, 3) := by decide +kernel
theorem dL_law_881 : decode cL_law 881 = .ok (.pop, 1) := by decide +kernel
theorem dL_law_882 : decode cL_law 882 = .ok (.aload_n 2, 1) := by decide +kernel
theorem dL_law_883 : decode cL_law 883 = .ok (.aload_n 0, 1) := by decide +kernel
theorem dL_law_884 : decode cL_law 884 = .ok (.iload_n 3, 1) := by decide +kernel
theorem dL_law_885 : decode cL_law 885 = .ok (.iconst 1, 1) := by decide +kernel
theorem dL_law_886 : decode cL_law 886 = .ok (.iadd, 1) := by decide +kernel
theorem dL_law_887 : decode cL_law 887 = .ok (.iaload, 1) := by decide +kernel
theorem dL_law_888 : decode cL_law 888 = .ok (.aload_n 0, 1) := by decide +kernel
theorem dL_law_889 : decode cL_law 889 = .ok (.iload_n 3, 1) := by decide +kernel
theorem dL_law_890 : decode cL_law 890 = .ok (.iconst 2, 1) := by decide +kernel
theorem dL_law_891 : decode cL_law 891 = .ok (.iadd, 1) := by decide +kernel
theorem dL_law_892 : decode cL_law 892 = .ok (.iaload, 1) := by decide +kernel
theorem dL_law_893 : decode cL_law 893 = .ok (.invokevirtual 106, 3) := by decide +kernel
theorem dL_law_896 : decode cL_law 896 = .ok (.pop, 1) := by decide +kernel
theorem dL_law_897 : decode cL_law 897 = .ok (.goto 444, 3) := by decide +kernel
theorem dL_law_900 : decode cL_law 900 = .ok (.aload_n 1, 1) := by decide +kernel
theorem dL_law_901 : decode cL_law 901 = .ok (.invokevirtual 107, 3) := by decide +kernel
theorem dL_law_904 : decode cL_law 904 = .ok (.pop, 1) := by decide +kernel
theorem dL_law_905 : decode cL_law 905 = .ok (.aload_n 2, 1) := by decide +kernel
theorem dL_law_906 : decode cL_law 906 = .ok (.invokevirtual 110, 3) := by decide +kernel
theorem dL_law_909 : decode cL_law 909 = .ok (.pop, 1) := by decide +kernel
theorem dL_law_910 : decode cL_law 910 = .ok (.goto 431, 3) := by decide +kernel
theorem dL_law_913 : decode cL_law 913 = .ok (.aload_n 1, 1) := by decide +kernel
theorem dL_law_914 : decode cL_law 914 = .ok (.invokevirtual 111, 3) := by decide +kernel
theorem dL_law_917 : decode cL_law 917 = .ok (.pop, 1) := by decide +kernel
theorem dL_law_918 : decode cL_law 918 = .ok (.aload_n 2, 1) := by decide +kernel
theorem dL_law_919 : decode cL_law 919 = .ok (.invokevirtual 114, 3) := by decide +kernel
theorem dL_law_922 : decode cL_law 922 = .ok (.pop, 1) := by decide +kernel
theorem dL_law_923 : decode cL_law 923 = .ok (.goto 418, 3) := by decide +kernel
theorem dL_law_926 : decode cL_law 926 = .ok (.aload_n 1, 1) := by decide +kernel
theorem dL_law_927 : decode cL_law 927 = .ok (.aload_n 0, 1) := by decide +kernel
theorem dL_law_928 : decode cL_law 928 = .ok (.iload_n 3, 1) := by decide +kernel
theorem dL_law_929 : decode cL_law 929 = .ok (.iconst 1, 1) := by decide +kernel
theorem dL_law_930 : decode cL_law 930 = .ok (.iadd, 1) := by decide +kernel
theorem dL_law_931 : decode cL_law 931 = .ok (.iaload, 1) := by decide +kernel
theorem dL_law_932 : decode cL_law 932 = .ok (.aload_n 0, 1) := by decide +kernel
theorem dL_law_933 : decode cL_law 933 = .ok (.iload_n 3, 1) := by decide +kernel
theorem dL_law_934 : decode cL_law 934 = .ok (.iconst 2, 1) := by decide +kernel
theorem dL_law_935 : decode cL_law 935 = .ok (.iadd, 1) := by decide +kernel
theorem dL_law_936 : decode cL_law 936 = .ok (.iaload, 1) := by decide +kernel
theorem dL_law_937 : decode cL_law 937 = .ok (.aload_n 0, 1) := by decide +kernel
theorem dL_law_938 : decode cL_law 938 = .ok (.iload_n 3, 1) := by decide +kernel
theorem dL_law_939 : decode cL_law 939 = .ok (.iconst 3, 1) := by decide +kernel
theorem dL_law_940 : decode cL_law 940 = .ok (.iadd, 1) := by decide +kernel
theorem dL_law_941 : decode cL_law 941 = .ok (.iaload, 1) := by decide +kernel
theorem dL_law_942 : decode cL_law 942 = .ok (.invokevirtual 115, 3) := by decide +kernel
theorem dL_law_945 : decode cL_law 945 = .ok (.pop, 1) := by decide +kernel
theorem dL_law_946 : decode cL_law 946 = .ok (.aload_n 2, 1) := by decide +kernel
theorem dL_law_947 : decode cL_law 947 = .ok (.aload_n 0, 1) := by decide +kernel
theorem dL_law_948 : decode cL_law 948 = .ok (.iload_n 3, 1) := by decide +kernel
theorem dL_law_949 : decode cL_law 949 = .ok (.iconst 1, 1) := by decide +kernel
theorem dL_law_950 : decode cL_law 950 = .ok (.iadd, 1) := by decide +kernel
theorem dL_law_951 : decode cL_law 951 = .ok (.iaload, 1) := by decide +kernel
theorem dL_law_952 : decode cL_law 952 = .ok (.aload_n 0, 1) := by decide +kernel
theorem dL_law_953 : decode cL_law 953 = .ok (.iload_n 3, 1) := by decide +kernel
theorem dL_law_954 : decode cL_law 954 = .ok (.iconst 2, 1) := by decide +kernel
theorem dL_law_955 : decode cL_law 955 = .ok (.iadd, 1) := by decide +kernel
theorem dL_law_956 : decode cL_law 956 = .ok (.iaload, 1) := by decide +kernel
theorem dL_law_957 : decode cL_law 957 = .ok (.aload_n 0, 1) := by decide +kernel
theorem dL_law_958 : decode cL_law 958 = .ok (.iload_n 3, 1) := by decide +kernel
theorem dL_law_959 : decode cL_law 959 = .ok (.iconst 3, 1) := by decide +kernel
theorem dL_law_960 : decode cL_law 960 = .ok (.iadd, 1) := by decide +kernel
theorem dL_law_961 : decode cL_law 961 = .ok (.iaload, 1) := by decide +kernel
theorem dL_law_962 : decode cL_law 962 = .ok (.invokevirtual 118, 3) := by decide +kernel
theorem dL_law_965 : decode cL_law 965 = .ok (.pop, 1) := by decide +kernel
theorem dL_law_966 : decode cL_law 966 = .ok (.goto 375, 3) := by decide +kernel
theorem dL_law_969 : decode cL_law 969 = .ok (.aload_n 1, 1) := by decide +kernel
theorem dL_law_970 : decode cL_law 970 = .ok (.aload_n 0, 1) := by decide +kernel
theorem dL_law_971 : decode cL_law 971 = .ok (.iload_n 3, 1) := by decide +kernel
theorem dL_law_972 : decode cL_law 972 = .ok (.iconst 1, 1) := by decide +kernel
theorem dL_law_973 : decode cL_law 973 = .ok (.iadd, 1) := by decide +kernel
theorem dL_law_974 : decode cL_law 974 = .ok (.iaload, 1) := by decide +kernel
theorem dL_law_975 : decode cL_law 975 = .ok (.aload_n 0, 1) := by decide +kernel
theorem dL_law_976 : decode cL_law 976 = .ok (.iload_n 3, 1) := by decide +kernel
theorem dL_law_977 : decode cL_law 977 = .ok (.iconst 2, 1) := by decide +kernel
theorem dL_law_978 : decode cL_law 978 = .ok (.iadd, 1) := by decide +kernel
theorem dL_law_979 : decode cL_law 979 = .ok (.iaload, 1) := by decide +kernel
theorem dL_law_980 : decode cL_law 980 = .ok (.invokevirtual 119, 3) := by decide +kernel
theorem dL_law_983 : decode cL_law 983 = .ok (.pop, 1) := by decide +kernel
theorem dL_law_984 : decode cL_law 984 = .ok (.aload_n 2, 1) := by decide +kernel
theorem dL_law_985 : decode cL_law 985 = .ok (.aload_n 0, 1) := by decide +kernel
theorem dL_law_986 : decode cL_law 986 = .ok (.iload_n 3, 1) := by decide +kernel
theorem dL_law_987 : decode cL_law 987 = .ok (.iconst 1, 1) := by decide +kernel
theorem dL_law_988 : decode cL_law 988 = .ok (.iadd, 1) := by decide +kernel
theorem dL_law_989 : decode cL_law 989 = .ok (.iaload, 1) := by decide +kernel
theorem dL_law_990 : decode cL_law 990 = .ok (.aload_n 0, 1) := by decide +kernel
theorem dL_law_991 : decode cL_law 991 = .ok (.iload_n 3, 1) := by decide +kernel
theorem dL_law_992 : decode cL_law 992 = .ok (.iconst 2, 1) := by decide +kernel
theorem dL_law_993 : decode cL_law 993 = .ok (.iadd, 1) := by decide +kernel
theorem dL_law_994 : decode cL_law 994 = .ok (.iaload, 1) := by decide +kernel
theorem dL_law_995 : decode cL_law 995 = .ok (.invokevirtual 122, 3) := by decide +kernel
theorem dL_law_998 : decode cL_law 998 = .ok (.pop, 1) := by decide +kernel
theorem dL_law_999 : decode cL_law 999 = .ok (.goto 342, 3) := by decide +kernel
theorem dL_law_1002 : decode cL_law 1002 = .ok (.aload_n 1, 1) := by decide +kernel
theorem dL_law_1003 : decode cL_law 1003 = .ok (.aload_n 0, 1) := by decide +kernel
theorem dL_law_1004 : decode cL_law 1004 = .ok (.iload_n 3, 1) := by decide +kernel
theorem dL_law_1005 : decode cL_law 1005 = .ok (.iconst 1, 1) := by decide +kernel
theorem dL_law_1006 : decode cL_law 1006 = .ok (.iadd, 1) := by decide +kernel
theorem dL_law_1007 : decode cL_law 1007 = .ok (.iaload, 1) := by decide +kernel
theorem dL_law_1008 : decode cL_law 1008 = .ok (.aload_n 0, 1) := by decide +kernel
theorem dL_law_1009 : decode cL_law 1009 = .ok (.iload_n 3, 1) := by decide +kernel
theorem dL_law_1010 : decode cL_law 1010 = .ok (.iconst 2, 1) := by decide +kernel
theorem dL_law_1011 : decode cL_law 1011 = .ok (.iadd, 1) := by decide +kernel
theorem dL_law_1012 : decode cL_law 1012 = .ok (.iaload, 1) := by decide +kernel
theorem dL_law_1013 : decode cL_law 1013 = .ok (.aload_n 0, 1) := by decide +kernel
theorem dL_law_1014 : decode cL_law 1014 = .ok (.iload_n 3, 1) := by decide +kernel
theorem dL_law_1015 : decode cL_law 1015 = .ok (.iconst 3, 1) := by decide +kernel
theorem dL_law_1016 : decode cL_law 1016 = .ok (.iadd, 1) := by decide +kernel
theorem dL_law_1017 : decode cL_law 1017 = .ok (.iaload, 1) := by decide +kernel
theorem dL_law_1018 : decode cL_law 1018 = .ok (.invokevirtual 123, 3) := by decide +kernel
theorem dL_law_1021 : decode cL_law 1021 = .ok (.pop, 1) := by decide +kernel
theorem dL_law_1022 : decode cL_law 1022 = .ok (.aload_n 2, 1) := by decide +kernel
theorem dL_law_1023 : decode cL_law 1023 = .ok (.aload_n 0, 1) := by decide +kernel
theorem dL_law_1024 : decode cL_law 1024 = .ok (.iload_n 3, 1) := by decide +kernel
theorem dL_law_1025 : decode cL_law 1025 = .ok (.iconst 1, 1) := by decide +kernel
theorem dL_law_1026 : decode cL_law 1026 = .ok (.iadd, 1) := by decide +kernel
theorem dL_law_1027 : decode cL_law 1027 = .ok (.iaload, 1) := by decide +kernel
theorem dL_law_1028 : decode cL_law 1028 = .ok (.aload_n 0, 1) := by decide +kernel
theorem dL_law_1029 : decode cL_law 1029 = .ok (.iload_n 3, 1) := by decide +kernel
theorem dL_law_1030 : decode cL_law 1030 = .ok (.iconst 2, 1) := by decide +kernel
theorem dL_law_1031 : decode cL_law 1031 = .ok (.iadd, 1) := by decide +kernel
theorem dL_law_1032 : decode cL_law 1032 = .ok (.iaload, 1) := by decide +kernel
theorem dL_law_1033 : decode cL_law 1033 = .ok (.aload_n 0, 1) := by decide +kernel
theorem dL_law_1034 : decode cL_law 1034 = .ok (.iload_n 3, 1) := by decide +kernel
theorem dL_law_1035 : decode cL_law 1035 = .ok (.iconst 3, 1) := by decide +kernel
theorem dL_law_1036 : decode cL_law 1036 = .ok (.iadd, 1) := by decide +kernel
theorem dL_law_1037 : decode cL_law 1037 = .ok (.iaload, 1) := by decide +kernel
theorem dL_law_1038 : decode cL_law 1038 = .ok (.invokevirtual 126, 3) := by decide +kernel
theorem dL_law_1041 : decode cL_law 1041 = .ok (.pop, 1) := by decide +kernel
theorem dL_law_1042 : decode cL_law 1042 = .ok (.goto 299, 3) := by decide +kernel
theorem dL_law_1045 : decode cL_law 1045 = .ok (.aload_n 1, 1) := by decide +kernel
theorem dL_law_1046 : decode cL_law 1046 = .ok (.aload_n 0, 1) := by decide +kernel
theorem dL_law_1047 : decode cL_law 1047 = .ok (.iload_n 3, 1) := by decide +kernel
theorem dL_law_1048 : decode cL_law 1048 = .ok (.iconst 1, 1) := by decide +kernel
theorem dL_law_1049 : decode cL_law 1049 = .ok (.iadd, 1) := by decide +kernel
theorem dL_law_1050 : decode cL_law 1050 = .ok (.iaload, 1) := by decide +kernel
theorem dL_law_1051 : decode cL_law 1051 = .ok (.aload_n 0, 1) := by decide +kernel
theorem dL_law_1052 : decode cL_law 1052 = .ok (.iload_n 3, 1) := by decide +kernel
theorem dL_law_1053 : decode cL_law 1053 = .ok (.iconst 2, 1) := by decide +kernel
theorem dL_law_1054 : decode cL_law 1054 = .ok (.iadd, 1) := by decide +kernel
theorem dL_law_1055 : decode cL_law 1055 = .ok (.iaload, 1) := by decide +kernel
theorem dL_law_1056 : decode cL_law 1056 = .ok (.aload_n 0, 1) := by decide +kernel
theorem dL_law_1057 : decode cL_law 1057 = .ok (.iload_n 3, 1) := by decide +kernel
theorem dL_law_1058 : decode cL_law 1058 = .ok (.iconst 3, 1) := by decide +kernel
theorem dL_law_1059 : decode cL_law 1059 = .ok (.iadd, 1) := by decide +kernel
theorem dL_law_1060 : decode cL_law 1060 = .ok (.iaload, 1) := by decide +kernel
theorem dL_law_1061 : decode cL_law 1061 = .ok (.invokevirtual 127, 3) := by decide +kernel
theorem dL_law_1064 : decode cL_law 1064 = .ok (.pop, 1) := by decide +kernel
theorem dL_law_1065 : decode cL_law 1065 = .ok (.aload_n 2, 1) := by decide +kernel
theorem dL_law_1066 : decode cL_law 1066 = .ok (.aload_n 0, 1) := by decide +kernel
theorem dL_law_1067 : decode cL_law 1067 = .ok (.iload_n 3, 1) := by decide +kernel
theorem dL_law_1068 : decode cL_law 1068 = .ok (.iconst 1, 1) := by decide +kernel
theorem dL_law_1069 : decode cL_law 1069 = .ok (.iadd, 1) := by decide +kernel
theorem dL_law_1070 : decode cL_law 1070 = .ok (.iaload, 1) := by decide +kernel
theorem dL_law_1071 : decode cL_law 1071 = .ok (.aload_n 0, 1) := by decide +kernel
theorem dL_law_1072 : decode cL_law 1072 = .ok (.iload_n 3, 1) := by decide +kernel
theorem dL_law_1073 : decode cL_law 1073 = .ok (.iconst 2, 1) := by decide +kernel
theorem dL_law_1074 : decode cL_law 1074 = .ok (.iadd, 1) := by decide +kernel
theorem dL_law_1075 : decode cL_law 1075 = .ok (.iaload, 1) := by decide +kernel
theorem dL_law_1076 : decode cL_law 1076 = .ok (.aload_n 0, 1) := by decide +kernel
theorem dL_law_1077 : decode cL_law 1077 = .ok (.iload_n 3, 1) := by decide +kernel
theorem dL_law_1078 : decode cL_law 1078 = .ok (.iconst 3, 1) := by decide +kernel
theorem dL_law_1079 : decode cL_law 1079 = .ok (.iadd, 1) := by decide +kernel
theorem dL_law_1080 : decode cL_law 1080 = .ok (.iaload, 1) := by decide +kernel
theorem dL_law_1081 : decode cL_law 1081 = .ok (.invokevirtual 130, 3) := by decide +kernel
theorem dL_law_1084 : decode cL_law 1084 = .ok (.pop, 1) := by decide +kernel
theorem dL_law_1085 : decode cL_law 1085 = .ok (.goto 256, 3) := by decide +kernel
theorem dL_law_1088 : decode cL_law 1088 = .ok (.aload_n 1, 1) := by decide +kernel
theorem dL_law_1089 : decode cL_law 1089 = .ok (.invokevirtual 131, 3) := by decide +kernel
theorem dL_law_1092 : decode cL_law 1092 = .ok (.pop, 1) := by decide +kernel
theorem dL_law_1093 : decode cL_law 1093 = .ok (.aload_n 2, 1) := by decide +kernel
theorem dL_law_1094 : decode cL_law 1094 = .ok (.invokevirtual 134, 3) := by decide +kernel
theorem dL_law_1097 : decode cL_law 1097 = .ok (.pop, 1) := by decide +kernel
theorem dL_law_1098 : decode cL_law 1098 = .ok (.goto 243, 3) := by decide +kernel
theorem dL_law_1101 : decode cL_law 1101 = .ok (.aload_n 1, 1) := by decide +kernel
theorem dL_law_1102 : decode cL_law 1102 = .ok (.aload_n 0, 1) := by decide +kernel
theorem dL_law_1103 : decode cL_law 1103 = .ok (.iload_n 3, 1) := by decide +kernel
theorem dL_law_1104 : decode cL_law 1104 = .ok (.iconst 1, 1) := by decide +kernel
theorem dL_law_1105 : decode cL_law 1105 = .ok (.iadd, 1) := by decide +kernel
theorem dL_law_1106 : decode cL_law 1106 = .ok (.iaload, 1) := by decide +kernel
theorem dL_law_1107 : decode cL_law 1107 = .ok (.aload_n 0, 1) := by decide +kernel
theorem dL_law_1108 : decode cL_law 1108 = .ok (.iload_n 3, 1) := by decide +kernel
theorem dL_law_1109 : decode cL_law 1109 = .ok (.iconst 2, 1) := by decide +kernel
theorem dL_law_1110 : decode cL_law 1110 = .ok (.iadd, 1) := by decide +kernel
theorem dL_law_1111 : decode cL_law 1111 = .ok (.iaload, 1) := by decide +kernel
theorem dL_law_1112 : decode cL_law 1112 = .ok (.aload_n 0, 1) := by decide +kernel
theorem dL_law_1113 : decode cL_law 1113 = .ok (.iload_n 3, 1) := by decide +kernel
theorem dL_law_1114 : decode cL_law 1114 = .ok (.iconst 3, 1) := by decide +kernel
theorem dL_law_1115 : decode cL_law 1115 = .ok (.iadd, 1) := by decide +kernel
theorem dL_law_1116 : decode cL_law 1116 = .ok (.iaload, 1) := by decide +kernel
theorem dL_law_1117 : decode cL_law 1117 = .ok (.invokevirtual 135, 3) := by decide +kernel
theorem dL_law_1120 : decode cL_law 1120 = .ok (.pop, 1) := by decide +kernel
theorem dL_law_1121 : decode cL_law 1121 = .ok (.aload_n 2, 1) := by decide +kernel
theorem dL_law_1122 : decode cL_law 1122 = .ok (.aload_n 0, 1) := by decide +kernel
theorem dL_law_1123 : decode cL_law 1123 = .ok (.iload_n 3, 1) := by decide +kernel
theorem dL_law_1124 : decode cL_law 1124 = .ok (.iconst 1, 1) := by decide +kernel
theorem dL_law_1125 : decode cL_law 1125 = .ok (.iadd, 1) := by decide +kernel
theorem dL_law_1126 : decode cL_law 1126 = .ok (.iaload, 1) := by decide +kernel
theorem dL_law_1127 : decode cL_law 1127 = .ok (.aload_n 0, 1) := by decide +kernel
theorem dL_law_1128 : decode cL_law 1128 = .ok (.iload_n 3, 1) := by decide +kernel
theorem dL_law_1129 : decode cL_law 1129 = .ok (.iconst 2, 1) := by decide +kernel
theorem dL_law_1130 : decode cL_law 1130 = .ok (.iadd, 1) := by decide +kernel
theorem dL_law_1131 : decode cL_law 1131 = .ok (.iaload, 1) := by decide +kernel
theorem dL_law_1132 : decode cL_law 1132 = .ok (.aload_n 0, 1) := by decide +kernel
theorem dL_law_1133 : decode cL_law 1133 = .ok (.iload_n 3, 1) := by decide +kernel
theorem dL_law_1134 : decode cL_law 1134 = .ok (.iconst 3, 1) := by decide +kernel
theorem dL_law_1135 : decode cL_law 1135 = .ok (.iadd, 1) := by decide +kernel
theorem dL_law_1136 : decode cL_law 1136 = .ok (.iaload, 1) := by decide +kernel
theorem dL_law_1137 : decode cL_law 1137 = .ok (.invokevirtual 138, 3) := by decide +kernel
theorem dL_law_1140 : decode cL_law 1140 = .ok (.pop, 1) := by decide +kernel
theorem dL_law_1141 : decode cL_law 1141 = .ok (.goto 200, 3) := by decide +kernel
theorem dL_law_1144 : decode cL_law 1144 = .ok (.aload_n 1, 1) := by decide +kernel
theorem dL_law_1145 : decode cL_law 1145 = .ok (.invokevirtual 139, 3) := by decide +kernel
theorem dL_law_1148 : decode cL_law 1148 = .ok (.pop, 1) := by decide +kernel
theorem dL_law_1149 : decode cL_law 1149 = .ok (.aload_n 2, 1) := by decide +kernel
theorem dL_law_1150 : decode cL_law 1150 = .ok (.invokevirtual 142, 3) := by decide +kernel
theorem dL_law_1153 : decode cL_law 1153 = .ok (.pop, 1) := by decide +kernel
theorem dL_law_1154 : decode cL_law 1154 = .ok (.goto 187, 3) := by decide +kernel
theorem dL_law_1157 : decode cL_law 1157 = .ok (.aload_n 1, 1) := by decide +kernel
theorem dL_law_1158 : decode cL_law 1158 = .ok (.invokevirtual 143, 3) := by decide +kernel
theorem dL_law_1161 : decode cL_law 1161 = .ok (.pop, 1) := by decide +kernel
theorem dL_law_1162 : decode cL_law 1162 = .ok (.aload_n 2, 1) := by decide +kernel
theorem dL_law_1163 : decode cL_law 1163 = .ok (.invokevirtual 146, 3) := by decide +kernel
theorem dL_law_1166 : decode cL_law 1166 = .ok (.pop, 1) := by decide +kernel
theorem dL_law_1167 : decode cL_law 1167 = .ok (.goto 174, 3) := by decide +kernel
theorem dL_law_1170 : decode cL_law 1170 = .ok (.aload_n 1, 1) := by decide +kernel
theorem dL_law_1171 : decode cL_law 1171 = .ok (.aload_n 0, 1) := by decide +kernel
theorem dL_law_1172 : decode cL_law 1172 = .ok (.iload_n 3, 1) := by decide +kernel
theorem dL_law_1173 : decode cL_law 1173 = .ok (.iconst 1, 1) := by decide +kernel
theorem dL_law_1174 : decode cL_law 1174 = .ok (.iadd, 1) := by decide +kernel
theorem dL_law_1175 : decode cL_law 1175 = .ok (.iaload, 1) := by decide +kernel
theorem dL_law_1176 : decode cL_law 1176 = .ok (.invokevirtual 147, 3) := by decide +kernel
theorem dL_law_1179 : decode cL_law 1179 = .ok (.pop, 1) := by decide +kernel
theorem dL_law_1180 : decode cL_law 1180 = .ok (.aload_n 2, 1) := by decide +kernel
theorem dL_law_1181 : decode cL_law 1181 = .ok (.aload_n 0, 1) := by decide +kernel
theorem dL_law_1182 : decode cL_law 1182 = .ok (.iload_n 3, 1) := by decide +kernel
theorem dL_law_1183 : decode cL_law 1183 = .ok (.iconst 1, 1) := by decide +kernel
theorem dL_law_1184 : decode cL_law 1184 = .ok (.iadd, 1) := by decide +kernel
theorem dL_law_1185 : decode cL_law 1185 = .ok (.iaload, 1) := by decide +kernel
theorem dL_law_1186 : decode cL_law 1186 = .ok (.invokevirtual 150, 3) := by decide +kernel
theorem dL_law_1189 : decode cL_law 1189 = .ok (.pop, 1) := by decide +kernel
theorem dL_law_1190 : decode cL_law 1190 = .ok (.goto 151, 3) := by decide +kernel
theorem dL_law_1193 : decode cL_law 1193 = .ok (.aload_n 1, 1) := by decide +kernel
theorem dL_law_1194 : decode cL_law 1194 = .ok (.aload_n 0, 1) := by decide +kernel
theorem dL_law_1195 : decode cL_law 1195 = .ok (.iload_n 3, 1) := by decide +kernel
theorem dL_law_1196 : decode cL_law 1196 = .ok (.iconst 1, 1) := by decide +kernel
theorem dL_law_1197 : decode cL_law 1197 = .ok (.iadd, 1) := by decide +kernel
theorem dL_law_1198 : decode cL_law 1198 = .ok (.iaload, 1) := by decide +kernel
theorem dL_law_1199 : decode cL_law 1199 = .ok (.invokevirtual 151, 3) := by decide +kernel
theorem dL_law_1202 : decode cL_law 1202 = .ok (.pop, 1) := by decide +kernel
theorem dL_law_1203 : decode cL_law 1203 = .ok (.aload_n 2, 1) := by decide +kernel
theorem dL_law_1204 : decode cL_law 1204 = .ok (.aload_n 0, 1) := by decide +kernel
theorem dL_law_1205 : decode cL_law 1205 = .ok (.iload_n 3, 1) := by decide +kernel
theorem dL_law_1206 : decode cL_law 1206 = .ok (.iconst 1, 1) := by decide +kernel
theorem dL_law_1207 : decode cL_law 1207 = .ok (.iadd, 1) := by decide +kernel
theorem dL_law_1208 : decode cL_law 1208 = .ok (.iaload, 1) := by decide +kernel
theorem dL_law_1209 : decode cL_law 1209 = .ok (.invokevirtual 154, 3) := by decide +kernel
theorem dL_law_1212 : decode cL_law 1212 = .ok (.pop, 1) := by decide +kernel
theorem dL_law_1213 : decode cL_law 1213 = .ok (.goto 128, 3) := by decide +kernel
theorem dL_law_1216 : decode cL_law 1216 = .ok (.aload_n 1, 1) := by decide +kernel
theorem dL_law_1217 : decode cL_law 1217 = .ok (.aload_n 0, 1) := by decide +kernel
theorem dL_law_1218 : decode cL_law 1218 = .ok (.iload_n 3, 1) := by decide +kernel
theorem dL_law_1219 : decode cL_law 1219 = .ok (.iconst 1, 1) := by decide +kernel
theorem dL_law_1220 : decode cL_law 1220 = .ok (.iadd, 1) := by decide +kernel
theorem dL_law_1221 : decode cL_law 1221 = .ok (.iaload, 1) := by decide +kernel
theorem dL_law_1222 : decode cL_law 1222 = .ok (.invokevirtual 155, 3) := by decide +kernel
theorem dL_law_1225 : decode cL_law 1225 = .ok (.pop, 1) := by decide +kernel
theorem dL_law_1226 : decode cL_law 1226 = .ok (.aload_n 2, 1) := by decide +kernel
theorem dL_law_1227 : decode cL_law 1227 = .ok (.aload_n 0, 1) := by decide +kernel
theorem dL_law_1228 : decode cL_law 1228 = .ok (.iload_n 3, 1) := by decide +kernel
theorem dL_law_1229 : decode cL_law 1229 = .ok (.iconst 1, 1) := by decide +kernel
theorem dL_law_1230 : decode cL_law 1230 = .ok (.iadd, 1) := by decide +kernel
theorem dL_law_1231 : decode cL_law 1231 = .ok (.iaload, 1) := by decide +kernel
theorem dL_law_1232 : decode cL_law 1232 = .ok (.invokevirtual 158, 3) := by decide +kernel
theorem dL_law_1235 : decode cL_law 1235 = .ok (.pop, 1) := by decide +kernel
theorem dL_law_1236 : decode cL_law 1236 = .ok (.goto 105, 3) := by decide +kernel
theorem dL_law_1239 : decode cL_law 1239 = .ok (.aload_n 1, 1) := by decide +kernel
theorem dL_law_1240 : decode cL_law 1240 = .ok (.aload_n 0, 1) := by decide +kernel
theorem dL_law_1241 : decode cL_law 1241 = .ok (.iload_n 3, 1) := by decide +kernel
theorem dL_law_1242 : decode cL_law 1242 = .ok (.iconst 1, 1) := by decide +kernel
theorem dL_law_1243 : decode cL_law 1243 = .ok (.iadd, 1) := by decide +kernel
theorem dL_law_1244 : decode cL_law 1244 = .ok (.iaload, 1) := by decide +kernel
theorem dL_law_1245 : decode cL_law 1245 = .ok (.invokevirtual 159, 3) := by decide +kernel
theorem dL_law_1248 : decode cL_law 1248 = .ok (.pop, 1) := by decide +kernel
theorem dL_law_1249 : decode cL_law 1249 = .ok (.aload_n 2, 1) := by decide +kernel
theorem dL_law_1250 : decode cL_law 1250 = .ok (.aload_n 0, 1) := by decide +kernel
theorem dL_law_1251 : decode cL_law 1251 = .ok (.iload_n 3, 1) := by decide +kernel
theorem dL_law_1252 : decode cL_law 1252 = .ok (.iconst 1, 1) := by decide +kernel
theorem dL_law_1253 : decode cL_law 1253 = .ok (.iadd, 1) := by decide +kernel
theorem dL_law_1254 : decode cL_law 1254 = .ok (.iaload, 1) := by decide +kernel
theorem dL_law_1255 : decode cL_law 1255 = .ok (.invokevirtual 162, 3) := by decide +kernel
theorem dL_law_1258 : decode cL_law 1258 = .ok (.pop, 1) := by decide +kernel
theorem dL_law_1259 : decode cL_law 1259 = .ok (.goto 82, 3) := by decide +kernel
theorem dL_law_1262 : decode cL_law 1262 = .ok (.aload_n 1, 1) := by decide +kernel
theorem dL_law_1263 : decode cL_law 1263 = .ok (.aload_n 0, 1) := by decide +kernel
theorem dL_law_1264 : decode cL_law 1264 = .ok (.iload_n 3, 1) := by decide +kernel
theorem dL_law_1265 : decode cL_law 1265 = .ok (.iconst 1, 1) := by decide +kernel
theorem dL_law_1266 : decode cL_law 1266 = .ok (.iadd, 1) := by decide +kernel
theorem dL_law_1267 : decode cL_law 1267 = .ok (.iaload, 1) := by decide +kernel
theorem dL_law_1268 : decode cL_law 1268 = .ok (.invokevirtual 163, 3) := by decide +kernel
theorem dL_law_1271 : decode cL_law 1271 = .ok (.pop, 1) := by decide +kernel
theorem dL_law_1272 : decode cL_law 1272 = .ok (.aload_n 2, 1) := by decide +kernel
theorem dL_law_1273 : decode cL_law 1273 = .ok (.aload_n 0, 1) := by decide +kernel
theorem dL_law_1274 : decode cL_law 1274 = .ok (.iload_n 3, 1) := by decide +kernel
theorem dL_law_1275 : decode cL_law 1275 = .ok (.iconst 1, 1) := by decide +kernel
theorem dL_law_1276 : decode cL_law 1276 = .ok (.iadd, 1) := by decide +kernel
theorem dL_law_1277 : decode cL_law 1277 = .ok (.iaload, 1) := by decide +kernel
theorem dL_law_1278 : decode cL_law 1278 = .ok (.invokevirtual 166, 3) := by decide +kernel
theorem dL_law_1281 : decode cL_law 1281 = .ok (.pop, 1) := by decide +kernel
theorem dL_law_1282 : decode cL_law 1282 = .ok (.goto 59, 3) := by decide +kernel
theorem dL_law_1285 : decode cL_law 1285 = .ok (.aload_n 1, 1) := by decide +kernel
theorem dL_law_1286 : decode cL_law 1286 = .ok (.aload_n 0, 1) := by decide +kernel
theorem dL_law_1287 : decode cL_law 1287 = .ok (.iload_n 3, 1) := by decide +kernel
theorem dL_law_1288 : decode cL_law 1288 = .ok (.iconst 1, 1) := by decide +kernel
theorem dL_law_1289 : decode cL_law 1289 = .ok (.iadd, 1) := by decide +kernel
theorem dL_law_1290 : decode cL_law 1290 = .ok (.iaload, 1) := by decide +kernel
theorem dL_law_1291 : decode cL_law 1291 = .ok (.invokevirtual 167, 3) := by decide +kernel
theorem dL_law_1294 : decode cL_law 1294 = .ok (.pop, 1) := by decide +kernel
theorem dL_law_1295 : decode cL_law 1295 = .ok (.aload_n 2, 1) := by decide +kernel
theorem dL_law_1296 : decode cL_law 1296 = .ok (.aload_n 0, 1) := by decide +kernel
theorem dL_law_1297 : decode cL_law 1297 = .ok (.iload_n 3, 1) := by decide +kernel
theorem dL_law_1298 : decode cL_law 1298 = .ok (.iconst 1, 1) := by decide +kernel
theorem dL_law_1299 : decode cL_law 1299 = .ok (.iadd, 1) := by decide +kernel
theorem dL_law_1300 : decode cL_law 1300 = .ok (.iaload, 1) := by decide +kernel
theorem dL_law_1301 : decode cL_law 1301 = .ok (.invokevirtual 170, 3) := by decide +kernel
theorem dL_law_1304 : decode cL_law 1304 = .ok (.pop, 1) := by decide +kernel
theorem dL_law_1305 : decode cL_law 1305 = .ok (.goto 36, 3) := by decide +kernel
theorem dL_law_1308 : decode cL_law 1308 = .ok (.aload_n 1, 1) := by decide +kernel
theorem dL_law_1309 : decode cL_law 1309 = .ok (.aload_n 0, 1) := by decide +kernel
theorem dL_law_1310 : decode cL_law 1310 = .ok (.iload_n 3, 1) := by decide +kernel
theorem dL_law_1311 : decode cL_law 1311 = .ok (.iconst 1, 1) := by decide +kernel
theorem dL_law_1312 : decode cL_law 1312 = .ok (.iadd, 1) := by decide +kernel
theorem dL_law_1313 : decode cL_law 1313 = .ok (.iaload, 1) := by decide +kernel
theorem dL_law_1314 : decode cL_law 1314 = .ok (.aload_n 0, 1) := by decide +kernel
theorem dL_law_1315 : decode cL_law 1315 = .ok (.iload_n 3, 1) := by decide +kernel
theorem dL_law_1316 : decode cL_law 1316 = .ok (.iconst 2, 1) := by decide +kernel
theorem dL_law_1317 : decode cL_law 1317 = .ok (.iadd, 1) := by decide +kernel
theorem dL_law_1318 : decode cL_law 1318 = .ok (.iaload, 1) := by decide +kernel
theorem dL_law_1319 : decode cL_law 1319 = .ok (.invokevirtual 171, 3) := by decide +kernel
theorem dL_law_1322 : decode cL_law 1322 = .ok (.pop, 1) := by decide +kernel
theorem dL_law_1323 : decode cL_law 1323 = .ok (.aload_n 2, 1) := by decide +kernel
theorem dL_law_1324 : decode cL_law 1324 = .ok (.aload_n 0, 1) := by decide +kernel
theorem dL_law_1325 : decode cL_law 1325 = .ok (.iload_n 3, 1) := by decide +kernel
theorem dL_law_1326 : decode cL_law 1326 = .ok (.iconst 1, 1) := by decide +kernel
theorem dL_law_1327 : decode cL_law 1327 = .ok (.iadd, 1) := by decide +kernel
theorem dL_law_1328 : decode cL_law 1328 = .ok (.iaload, 1) := by decide +kernel
theorem dL_law_1329 : decode cL_law 1329 = .ok (.aload_n 0, 1) := by decide +kernel
theorem dL_law_1330 : decode cL_law 1330 = .ok (.iload_n 3, 1) := by decide +kernel
theorem dL_law_1331 : decode cL_law 1331 = .ok (.iconst 2, 1) := by decide +kernel
theorem dL_law_1332 : decode cL_law 1332 = .ok (.iadd, 1) := by decide +kernel
theorem dL_law_1333 : decode cL_law 1333 = .ok (.iaload, 1) := by decide +kernel
theorem dL_law_1334 : decode cL_law 1334 = .ok (.invokevirtual 174, 3) := by decide +kernel
theorem dL_law_1337 : decode cL_law 1337 = .ok (.pop, 1) := by decide +kernel
theorem dL_law_1338 : decode cL_law 1338 = .ok (.goto 3, 3) := by decide +kernel
theorem dL_law_1341 : decode cL_law 1341 = .ok (.iinc 3 6, 3) := by decide +kernel
theorem dL_law_1344 : decode cL_law 1344 = .ok (.goto (-1326), 3) := by decide +kernel
theorem dL_law_1347 : decode cL_law 1347 = .ok (.iconst 1, 1) := by decide +kernel
theorem dL_law_1348 : decode cL_law 1348 = .ok (.ireturn, 1) := by decide +kernel
theorem zx1667 : Cond.methodLink R_law 13 yX12_feed ∈ lw_tbl := zT6 (List.mem_of_getElem? (i := 55) rfl)
theorem zw1667 {b : Nat} {e : Nat → Value} {D : va_G} {A : Nat → ClassId} {X : State → Prop} : Cond.methodLink R_law 13 yX12_feed ∈ eW (zV b e D A X) := z_e zx1667 rfl
theorem zx1668 : Cond.instanceMethod yX12_feed ∈ lw_tbl := zT6 (List.mem_of_getElem? (i := 56) rfl)
theorem zw1668 {b : Nat} {e : Nat → Value} {D : va_G} {A : Nat → ClassId} {X : State → Prop} : Cond.instanceMethod yX12_feed ∈ eW (zV b e D A X) := z_e zx1668 rfl
theorem zx1669 : Cond.selects RX12 yX12_feed yX12_feed ∈ lw_tbl := zT6 (List.mem_of_getElem? (i := 57) rfl)
theorem zw1669 {b : Nat} {e : Nat → Value} {D : va_G} {A : Nat → ClassId} {X : State → Prop} : Cond.selects RX12 yX12_feed yX12_feed ∈ eW (zV b e D A X) := z_e zx1669 rfl
theorem zx1675 : Cond.methodLink R_law 18 yX12_cut ∈ lw_tbl := zT6 (List.mem_of_getElem? (i := 63) rfl)
theorem zw1675 {b : Nat} {e : Nat → Value} {D : va_G} {A : Nat → ClassId} {X : State → Prop} : Cond.methodLink R_law 18 yX12_cut ∈ eW (zV b e D A X) := z_e zx1675 rfl
theorem zx1676 : Cond.instanceMethod yX12_cut ∈ lw_tbl := zT6 (List.mem_of_getElem? (i := 64) rfl)
theorem zw1676 {b : Nat} {e : Nat → Value} {D : va_G} {A : Nat → ClassId} {X : State → Prop} : Cond.instanceMethod yX12_cut ∈ eW (zV b e D A X) := z_e zx1676 rfl
theorem zx1677 : Cond.selects RX12 yX12_cut yX12_cut ∈ lw_tbl := zT6 (List.mem_of_getElem? (i := 65) rfl)
theorem zw1677 {b : Nat} {e : Nat → Value} {D : va_G} {A : Nat → ClassId} {X : State → Prop} : Cond.selects RX12 yX12_cut yX12_cut ∈ eW (zV b e D A X) := z_e zx1677 rfl
theorem zx1679 : Cond.methodLink R_law 23 yX12_splice ∈ lw_tbl := zT6 (List.mem_of_getElem? (i := 67) rfl)
theorem zw1679 {b : Nat} {e : Nat → Value} {D : va_G} {A : Nat → ClassId} {X : State → Prop} : Cond.methodLink R_law 23 yX12_splice ∈ eW (zV b e D A X) := z_e zx1679 rfl
theorem zx1680 : Cond.instanceMethod yX12_splice ∈ lw_tbl := zT6 (List.mem_of_getElem? (i := 68) rfl)
theorem zw1680 {b : Nat} {e : Nat → Value} {D : va_G} {A : Nat → ClassId} {X : State → Prop} : Cond.instanceMethod yX12_splice ∈ eW (zV b e D A X) := z_e zx1680 rfl
theorem zx1681 : Cond.selects RX12 yX12_splice yX12_splice ∈ lw_tbl := zT6 (List.mem_of_getElem? (i := 69) rfl)
theorem zw1681 {b : Nat} {e : Nat → Value} {D : va_G} {A : Nat → ClassId} {X : State → Prop} : Cond.selects RX12 yX12_splice yX12_splice ∈ eW (zV b e D A X) := z_e zx1681 rfl
theorem zx1693 : Cond.methodLink R_law 28 yX12_text ∈ lw_tbl := zT6 (List.mem_of_getElem? (i := 81) rfl)
theorem zw1693 {b : Nat} {e : Nat → Value} {D : va_G} {A : Nat → ClassId} {X : State → Prop} : Cond.methodLink R_law 28 yX12_text ∈ eW (zV b e D A X) := z_e zx1693 rfl
theorem zx1694 : Cond.instanceMethod yX12_text ∈ lw_tbl := zT6 (List.mem_of_getElem? (i := 82) rfl)
theorem zw1694 {b : Nat} {e : Nat → Value} {D : va_G} {A : Nat → ClassId} {X : State → Prop} : Cond.instanceMethod yX12_text ∈ eW (zV b e D A X) := z_e zx1694 rfl
theorem zx1695 : Cond.selects RX12 yX12_text yX12_text ∈ lw_tbl := zT6 (List.mem_of_getElem? (i := 83) rfl)
theorem zw1695 {b : Nat} {e : Nat → Value} {D : va_G} {A : Nat → ClassId} {X : State → Prop} : Cond.selects RX12 yX12_text yX12_text ∈ eW (zV b e D A X) := z_e zx1695 rfl
theorem zx1697 : Cond.methodLink R_law 33 yX12_size ∈ lw_tbl := zT6 (List.mem_of_getElem? (i := 85) rfl)
theorem zw1697 {b : Nat} {e : Nat → Value} {D : va_G} {A : Nat → ClassId} {X : State → Prop} : Cond.methodLink R_law 33 yX12_size ∈ eW (zV b e D A X) := z_e zx1697 rfl
theorem zx1698 : Cond.instanceMethod yX12_size ∈ lw_tbl := zT6 (List.mem_of_getElem? (i := 86) rfl)
theorem zw1698 {b : Nat} {e : Nat → Value} {D : va_G} {A : Nat → ClassId} {X : State → Prop} : Cond.instanceMethod yX12_size ∈ eW (zV b e D A X) := z_e zx1698 rfl
theorem zx1699 : Cond.selects RX12 yX12_size yX12_size ∈ lw_tbl := zT6 (List.mem_of_getElem? (i := 87) rfl)
theorem zw1699 {b : Nat} {e : Nat → Value} {D : va_G} {A : Nat → ClassId} {X : State → Prop} : Cond.selects RX12 yX12_size yX12_size ∈ eW (zV b e D A X) := z_e zx1699 rfl
theorem zx1701 : Cond.methodLink R_law 38 yX12_octet ∈ lw_tbl := zT6 (List.mem_of_getElem? (i := 89) rfl)
theorem zw1701 {b : Nat} {e : Nat → Value} {D : va_G} {A : Nat → ClassId} {X : State → Prop} : Cond.methodLink R_law 38 yX12_octet ∈ eW (zV b e D A X) := z_e zx1701 rfl
theorem zx1702 : Cond.instanceMethod yX12_octet ∈ lw_tbl := zT6 (List.mem_of_getElem? (i := 90) rfl)
theorem zw1702 {b : Nat} {e : Nat → Value} {D : va_G} {A : Nat → ClassId} {X : State → Prop} : Cond.instanceMethod yX12_octet ∈ eW (zV b e D A X) := z_e zx1702 rfl
theorem zx1703 : Cond.selects RX12 yX12_octet yX12_octet ∈ lw_tbl := zT6 (List.mem_of_getElem? (i := 91) rfl)
theorem zw1703 {b : Nat} {e : Nat → Value} {D : va_G} {A : Nat → ClassId} {X : State → Prop} : Cond.selects RX12 yX12_octet yX12_octet ∈ eW (zV b e D A X) := z_e zx1703 rfl
theorem zx1705 : Cond.methodLink R_law 42 yX12_make ∈ lw_tbl := zT6 (List.mem_of_getElem? (i := 93) rfl)
theorem zw1705 {b : Nat} {e : Nat → Value} {D : va_G} {A : Nat → ClassId} {X : State → Prop} : Cond.methodLink R_law 42 yX12_make ∈ eW (zV b e D A X) := z_e zx1705 rfl
theorem zx1706 : Cond.instanceMethod yX12_make ∈ lw_tbl := zT6 (List.mem_of_getElem? (i := 94) rfl)
theorem zw1706 {b : Nat} {e : Nat → Value} {D : va_G} {A : Nat → ClassId} {X : State → Prop} : Cond.instanceMethod yX12_make ∈ eW (zV b e D A X) := z_e zx1706 rfl
theorem zx1707 : Cond.selects RX12 yX12_make yX12_make ∈ lw_tbl := zT6 (List.mem_of_getElem? (i := 95) rfl)
theorem zw1707 {b : Nat} {e : Nat → Value} {D : va_G} {A : Nat → ClassId} {X : State → Prop} : Cond.selects RX12 yX12_make yX12_make ∈ eW (zV b e D A X) := z_e zx1707 rfl
theorem zx2340 : Cond.methodLink R_law 46 yX12_place ∈ lw_tbl := zT9 (List.mem_of_getElem? (i := 8) rfl)
theorem zw2340 {b : Nat} {e : Nat → Value} {D : va_G} {A : Nat → ClassId} {X : State → Prop} : Cond.methodLink R_law 46 yX12_place ∈ eW (zV b e D A X) := z_e zx2340 rfl
theorem zx2341 : Cond.instanceMethod yX12_place ∈ lw_tbl := zT9 (List.mem_of_getElem? (i := 9) rfl)
theorem zw2341 {b : Nat} {e : Nat → Value} {D : va_G} {A : Nat → ClassId} {X : State → Prop} : Cond.instanceMethod yX12_place ∈ eW (zV b e D A X) := z_e zx2341 rfl
theorem zx2342 : Cond.selects RX12 yX12_place yX12_place ∈ lw_tbl := zT9 (List.mem_of_getElem? (i := 10) rfl)
theorem zw2342 {b : Nat} {e : Nat → Value} {D : va_G} {A : Nat → ClassId} {X : State → Prop} : Cond.selects RX12 yX12_place yX12_place ∈ eW (zV b e D A X) := z_e zx2342 rfl
theorem zx2344 : Cond.methodLink R_law 50 yX12_builds ∈ lw_tbl := zT9 (List.mem_of_getElem? (i := 12) rfl)
theorem zw2344 {b : Nat} {e : Nat → Value} {D : va_G} {A : Nat → ClassId} {X : State → Prop} : Cond.methodLink R_law 50 yX12_builds ∈ eW (zV b e D A X) := z_e zx2344 rfl
theorem zx2345 : Cond.instanceMethod yX12_builds ∈ lw_tbl := zT9 (List.mem_of_getElem? (i := 13) rfl)
theorem zw2345 {b : Nat} {e : Nat → Value} {D : va_G} {A : Nat → ClassId} {X : State → Prop} : Cond.instanceMethod yX12_builds ∈ eW (zV b e D A X) := z_e zx2345 rfl
theorem zx2346 : Cond.selects RX12 yX12_builds yX12_builds ∈ lw_tbl := zT9 (List.mem_of_getElem? (i := 14) rfl)
theorem zw2346 {b : Nat} {e : Nat → Value} {D : va_G} {A : Nat → ClassId} {X : State → Prop} : Cond.selects RX12 yX12_builds yX12_builds ∈ eW (zV b e D A X) := z_e zx2346 rfl
theorem zx2348 : Cond.methodLink R_law 54 yX12_pick ∈ lw_tbl := zT9 (List.mem_of_getElem? (i := 16) rfl)
theorem zw2348 {b : Nat} {e : Nat → Value} {D : va_G} {A : Nat → ClassId} {X : State → Prop} : Cond.methodLink R_law 54 yX12_pick ∈ eW (zV b e D A X) := z_e zx2348 rfl
theorem zx2349 : Cond.instanceMethod yX12_pick ∈ lw_tbl := zT9 (List.mem_of_getElem? (i := 17) rfl)
theorem zw2349 {b : Nat} {e : Nat → Value} {D : va_G} {A : Nat → ClassId} {X : State → Prop} : Cond.instanceMethod yX12_pick ∈ eW (zV b e D A X) := z_e zx2349 rfl
theorem zx2350 : Cond.selects RX12 yX12_pick yX12_pick ∈ lw_tbl := zT9 (List.mem_of_getElem? (i := 18) rfl)
theorem zw2350 {b : Nat} {e : Nat → Value} {D : va_G} {A : Nat → ClassId} {X : State → Prop} : Cond.selects RX12 yX12_pick yX12_pick ∈ eW (zV b e D A X) := z_e zx2350 rfl
theorem zx2356 : Cond.methodLink R_law 58 yX12_picked ∈ lw_tbl := zT9 (List.mem_of_getElem? (i := 24) rfl)
theorem zw2356 {b : Nat} {e : Nat → Value} {D : va_G} {A : Nat → ClassId} {X : State → Prop} : Cond.methodLink R_law 58 yX12_picked ∈ eW (zV b e D A X) := z_e zx2356 rfl
theorem zx2357 : Cond.instanceMethod yX12_picked ∈ lw_tbl := zT9 (List.mem_of_getElem? (i := 25) rfl)
theorem zw2357 {b : Nat} {e : Nat → Value} {D : va_G} {A : Nat → ClassId} {X : State → Prop} : Cond.instanceMethod yX12_picked ∈ eW (zV b e D A X) := z_e zx2357 rfl
theorem zx2358 : Cond.selects RX12 yX12_picked yX12_picked ∈ lw_tbl := zT9 (List.mem_of_getElem? (i := 26) rfl)
theorem zw2358 {b : Nat} {e : Nat → Value} {D : va_G} {A : Nat → ClassId} {X : State → Prop} : Cond.selects RX12 yX12_picked yX12_picked ∈ eW (zV b e D A X) := z_e zx2358 rfl
theorem zx2360 : Cond.methodLink R_law 62 yX12_classes ∈ lw_tbl := zT9 (List.mem_of_getElem? (i := 28) rfl)
theorem zw2360 {b : Nat} {e : Nat → Value} {D : va_G} {A : Nat → ClassId} {X : State → Prop} : Cond.methodLink R_law 62 yX12_classes ∈ eW (zV b e D A X) := z_e zx2360 rfl
theorem zx2361 : Cond.instanceMethod yX12_classes ∈ lw_tbl := zT9 (List.mem_of_getElem? (i := 29) rfl)
theorem zw2361 {b : Nat} {e : Nat → Value} {D : va_G} {A : Nat → ClassId} {X : State → Prop} : Cond.instanceMethod yX12_classes ∈ eW (zV b e D A X) := z_e zx2361 rfl
theorem zx2362 : Cond.selects RX12 yX12_classes yX12_classes ∈ lw_tbl := zT9 (List.mem_of_getElem? (i := 30) rfl)
theorem zw2362 {b : Nat} {e : Nat → Value} {D : va_G} {A : Nat → ClassId} {X : State → Prop} : Cond.selects RX12 yX12_classes yX12_classes ∈ eW (zV b e D A X) := z_e zx2362 rfl
theorem zx2364 : Cond.methodLink R_law 66 yX12_members ∈ lw_tbl := zT9 (List.mem_of_getElem? (i := 32) rfl)
theorem zw2364 {b : Nat} {e : Nat → Value} {D : va_G} {A : Nat → ClassId} {X : State → Prop} : Cond.methodLink R_law 66 yX12_members ∈ eW (zV b e D A X) := z_e zx2364 rfl
theorem zx2365 : Cond.instanceMethod yX12_members ∈ lw_tbl := zT9 (List.mem_of_getElem? (i := 33) rfl)
theorem zw2365 {b : Nat} {e : Nat → Value} {D : va_G} {A : Nat → ClassId} {X : State → Prop} : Cond.instanceMethod yX12_members ∈ eW (zV b e D A X) := z_e zx2365 rfl
theorem zx2366 : Cond.selects RX12 yX12_members yX12_members ∈ lw_tbl := zT9 (List.mem_of_getElem? (i := 34) rfl)
theorem zw2366 {b : Nat} {e : Nat → Value} {D : va_G} {A : Nat → ClassId} {X : State → Prop} : Cond.selects RX12 yX12_members yX12_members ∈ eW (zV b e D A X) := z_e zx2366 rfl
theorem zx2372 : Cond.methodLink R_law 70 yX12_shape ∈ lw_tbl := zT9 (List.mem_of_getElem? (i := 40) rfl)
theorem zw2372 {b : Nat} {e : Nat → Value} {D : va_G} {A : Nat → ClassId} {X : State → Prop} : Cond.methodLink R_law 70 yX12_shape ∈ eW (zV b e D A X) := z_e zx2372 rfl
theorem zx2373 : Cond.instanceMethod yX12_shape ∈ lw_tbl := zT9 (List.mem_of_getElem? (i := 41) rfl)
theorem zw2373 {b : Nat} {e : Nat → Value} {D : va_G} {A : Nat → ClassId} {X : State → Prop} : Cond.instanceMethod yX12_shape ∈ eW (zV b e D A X) := z_e zx2373 rfl
theorem zx2374 : Cond.selects RX12 yX12_shape yX12_shape ∈ lw_tbl := zT9 (List.mem_of_getElem? (i := 42) rfl)
theorem zw2374 {b : Nat} {e : Nat → Value} {D : va_G} {A : Nat → ClassId} {X : State → Prop} : Cond.selects RX12 yX12_shape yX12_shape ∈ eW (zV b e D A X) := z_e zx2374 rfl
theorem zx2448 : Cond.methodLink R_law 75 yX12_uses ∈ lw_tbl := zT9 (List.mem_of_getElem? (i := 116) rfl)
theorem zw2448 {b : Nat} {e : Nat → Value} {D : va_G} {A : Nat → ClassId} {X : State → Prop} : Cond.methodLink R_law 75 yX12_uses ∈ eW (zV b e D A X) := z_e zx2448 rfl
theorem zx2449 : Cond.instanceMethod yX12_uses ∈ lw_tbl := zT9 (List.mem_of_getElem? (i := 117) rfl)
theorem zw2449 {b : Nat} {e : Nat → Value} {D : va_G} {A : Nat → ClassId} {X : State → Prop} : Cond.instanceMethod yX12_uses ∈ eW (zV b e D A X) := z_e zx2449 rfl
theorem zx2450 : Cond.selects RX12 yX12_uses yX12_uses ∈ lw_tbl := zT9 (List.mem_of_getElem? (i := 118) rfl)
theorem zw2450 {b : Nat} {e : Nat → Value} {D : va_G} {A : Nat → ClassId} {X : State → Prop} : Cond.selects RX12 yX12_uses yX12_uses ∈ eW (zV b e D A X) := z_e zx2450 rfl
theorem zx2452 : Cond.methodLink R_law 79 yX12_use ∈ lw_tbl := zT9 (List.mem_of_getElem? (i := 120) rfl)
theorem zw2452 {b : Nat} {e : Nat → Value} {D : va_G} {A : Nat → ClassId} {X : State → Prop} : Cond.methodLink R_law 79 yX12_use ∈ eW (zV b e D A X) := z_e zx2452 rfl
theorem zx2453 : Cond.instanceMethod yX12_use ∈ lw_tbl := zT9 (List.mem_of_getElem? (i := 121) rfl)
theorem zw2453 {b : Nat} {e : Nat → Value} {D : va_G} {A : Nat → ClassId} {X : State → Prop} : Cond.instanceMethod yX12_use ∈ eW (zV b e D A X) := z_e zx2453 rfl
theorem zx2454 : Cond.selects RX12 yX12_use yX12_use ∈ lw_tbl := zT9 (List.mem_of_getElem? (i := 122) rfl)
theorem zw2454 {b : Nat} {e : Nat → Value} {D : va_G} {A : Nat → ClassId} {X : State → Prop} : Cond.selects RX12 yX12_use yX12_use ∈ eW (zV b e D A X) := z_e zx2454 rfl
theorem zx2459 : Cond.methodLink R_law 83 yX12_tell ∈ lw_tbl := zT9 (List.mem_of_getElem? (i := 127) rfl)
theorem zw2459 {b : Nat} {e : Nat → Value} {D : va_G} {A : Nat → ClassId} {X : State → Prop} : Cond.methodLink R_law 83 yX12_tell ∈ eW (zV b e D A X) := z_e zx2459 rfl
theorem zx2460 : Cond.instanceMethod yX12_tell ∈ lw_tbl := zT9 (List.mem_of_getElem? (i := 128) rfl)
theorem zw2460 {b : Nat} {e : Nat → Value} {D : va_G} {A : Nat → ClassId} {X : State → Prop} : Cond.instanceMethod yX12_tell ∈ eW (zV b e D A X) := z_e zx2460 rfl
theorem zx2461 : Cond.selects RX12 yX12_tell yX12_tell ∈ lw_tbl := zT9 (List.mem_of_getElem? (i := 129) rfl)
theorem zw2461 {b : Nat} {e : Nat → Value} {D : va_G} {A : Nat → ClassId} {X : State → Prop} : Cond.selects RX12 yX12_tell yX12_tell ∈ eW (zV b e D A X) := z_e zx2461 rfl
theorem zx2470 : Cond.methodLink R_law 87 yX12_meet ∈ lw_tbl := zT9 (List.mem_of_getElem? (i := 138) rfl)
theorem zw2470 {b : Nat} {e : Nat → Value} {D : va_G} {A : Nat → ClassId} {X : State → Prop} : Cond.methodLink R_law 87 yX12_meet ∈ eW (zV b e D A X) := z_e zx2470 rfl
theorem zx2471 : Cond.instanceMethod yX12_meet ∈ lw_tbl := zT9 (List.mem_of_getElem? (i := 139) rfl)
theorem zw2471 {b : Nat} {e : Nat → Value} {D : va_G} {A : Nat → ClassId} {X : State → Prop} : Cond.instanceMethod yX12_meet ∈ eW (zV b e D A X) := z_e zx2471 rfl
theorem zx2472 : Cond.selects RX12 yX12_meet yX12_meet ∈ lw_tbl := zT9 (List.mem_of_getElem? (i := 140) rfl)
theorem zw2472 {b : Nat} {e : Nat → Value} {D : va_G} {A : Nat → ClassId} {X : State → Prop} : Cond.selects RX12 yX12_meet yX12_meet ∈ eW (zV b e D A X) := z_e zx2472 rfl
theorem zx2548 : Cond.methodLink R_law 91 yX12_met ∈ lw_tbl := zT9 (List.mem_of_getElem? (i := 216) rfl)
theorem zw2548 {b : Nat} {e : Nat → Value} {D : va_G} {A : Nat → ClassId} {X : State → Prop} : Cond.methodLink R_law 91 yX12_met ∈ eW (zV b e D A X) := z_e zx2548 rfl
theorem zx2549 : Cond.instanceMethod yX12_met ∈ lw_tbl := zT9 (List.mem_of_getElem? (i := 217) rfl)
theorem zw2549 {b : Nat} {e : Nat → Value} {D : va_G} {A : Nat → ClassId} {X : State → Prop} : Cond.instanceMethod yX12_met ∈ eW (zV b e D A X) := z_e zx2549 rfl
theorem zx2550 : Cond.selects RX12 yX12_met yX12_met ∈ lw_tbl := zT9 (List.mem_of_getElem? (i := 218) rfl)
theorem zw2550 {b : Nat} {e : Nat → Value} {D : va_G} {A : Nat → ClassId} {X : State → Prop} : Cond.selects RX12 yX12_met yX12_met ∈ eW (zV b e D A X) := z_e zx2550 rfl
theorem zx2552 : Cond.methodLink R_law 95 yX12_looked ∈ lw_tbl := zT9 (List.mem_of_getElem? (i := 220) rfl)
theorem zw2552 {b : Nat} {e : Nat → Value} {D : va_G} {A : Nat → ClassId} {X : State → Prop} : Cond.methodLink R_law 95 yX12_looked ∈ eW (zV b e D A X) := z_e zx2552 rfl
theorem zx2553 : Cond.instanceMethod yX12_looked ∈ lw_tbl := zT9 (List.mem_of_getElem? (i := 221) rfl)
theorem zw2553 {b : Nat} {e : Nat → Value} {D : va_G} {A : Nat → ClassId} {X : State → Prop} : Cond.instanceMethod yX12_looked ∈ eW (zV b e D A X) := z_e zx2553 rfl
theorem zx2554 : Cond.selects RX12 yX12_looked yX12_looked ∈ lw_tbl := zT9 (List.mem_of_getElem? (i := 222) rfl)
theorem zw2554 {b : Nat} {e : Nat → Value} {D : va_G} {A : Nat → ClassId} {X : State → Prop} : Cond.selects RX12 yX12_looked yX12_looked ∈ eW (zV b e D A X) := z_e zx2554 rfl
theorem zx2556 : Cond.methodLink R_law 99 yX12_broken ∈ lw_tbl := zT9 (List.mem_of_getElem? (i := 224) rfl)
theorem zw2556 {b : Nat} {e : Nat → Value} {D : va_G} {A : Nat → ClassId} {X : State → Prop} : Cond.methodLink R_law 99 yX12_broken ∈ eW (zV b e D A X) := z_e zx2556 rfl
theorem zx2557 : Cond.instanceMethod yX12_broken ∈ lw_tbl := zT9 (List.mem_of_getElem? (i := 225) rfl)
theorem zw2557 {b : Nat} {e : Nat → Value} {D : va_G} {A : Nat → ClassId} {X : State → Prop} : Cond.instanceMethod yX12_broken ∈ eW (zV b e D A X) := z_e zx2557 rfl
theorem zx2558 : Cond.selects RX12 yX12_broken yX12_broken ∈ lw_tbl := zT9 (List.mem_of_getElem? (i := 226) rfl)
theorem zw2558 {b : Nat} {e : Nat → Value} {D : va_G} {A : Nat → ClassId} {X : State → Prop} : Cond.selects RX12 yX12_broken yX12_broken ∈ eW (zV b e D A X) := z_e zx2558 rfl
theorem zx2573 : Cond.methodLink R_law 103 yX12_brokenAt ∈ lw_tbl := zT10 (List.mem_of_getElem? (i := 1) rfl)
theorem zw2573 {b : Nat} {e : Nat → Value} {D : va_G} {A : Nat → ClassId} {X : State → Prop} : Cond.methodLink R_law 103 yX12_brokenAt ∈ eW (zV b e D A X) := z_e zx2573 rfl
theorem zx2574 : Cond.instanceMethod yX12_brokenAt ∈ lw_tbl := zT10 (List.mem_of_getElem? (i := 2) rfl)
theorem zw2574 {b : Nat} {e : Nat → Value} {D : va_G} {A : Nat → ClassId} {X : State → Prop} : Cond.instanceMethod yX12_brokenAt ∈ eW (zV b e D A X) := z_e zx2574 rfl
theorem zx2575 : Cond.selects RX12 yX12_brokenAt yX12_brokenAt ∈ lw_tbl := zT10 (List.mem_of_getElem? (i := 3) rfl)
theorem zw2575 {b : Nat} {e : Nat → Value} {D : va_G} {A : Nat → ClassId} {X : State → Prop} : Cond.selects RX12 yX12_brokenAt yX12_brokenAt ∈ eW (zV b e D A X) := z_e zx2575 rfl
theorem zx2577 : Cond.methodLink R_law 107 yX12_stale ∈ lw_tbl := zT10 (List.mem_of_getElem? (i := 5) rfl)
theorem zw2577 {b : Nat} {e : Nat → Value} {D : va_G} {A : Nat → ClassId} {X : State → Prop} : Cond.methodLink R_law 107 yX12_stale ∈ eW (zV b e D A X) := z_e zx2577 rfl
theorem zx2578 : Cond.instanceMethod yX12_stale ∈ lw_tbl := zT10 (List.mem_of_getElem? (i := 6) rfl)
theorem zw2578 {b : Nat} {e : Nat → Value} {D : va_G} {A : Nat → ClassId} {X : State → Prop} : Cond.instanceMethod yX12_stale ∈ eW (zV b e D A X) := z_e zx2578 rfl
theorem zx2579 : Cond.selects RX12 yX12_stale yX12_stale ∈ lw_tbl := zT10 (List.mem_of_getElem? (i := 7) rfl)
theorem zw2579 {b : Nat} {e : Nat → Value} {D : va_G} {A : Nat → ClassId} {X : State → Prop} : Cond.selects RX12 yX12_stale yX12_stale ∈ eW (zV b e D A X) := z_e zx2579 rfl
theorem zx2581 : Cond.methodLink R_law 111 yX12_choose ∈ lw_tbl := zT10 (List.mem_of_getElem? (i := 9) rfl)
theorem zw2581 {b : Nat} {e : Nat → Value} {D : va_G} {A : Nat → ClassId} {X : State → Prop} : Cond.methodLink R_law 111 yX12_choose ∈ eW (zV b e D A X) := z_e zx2581 rfl
theorem zx2582 : Cond.instanceMethod yX12_choose ∈ lw_tbl := zT10 (List.mem_of_getElem? (i := 10) rfl)
theorem zw2582 {b : Nat} {e : Nat → Value} {D : va_G} {A : Nat → ClassId} {X : State → Prop} : Cond.instanceMethod yX12_choose ∈ eW (zV b e D A X) := z_e zx2582 rfl
theorem zx2583 : Cond.selects RX12 yX12_choose yX12_choose ∈ lw_tbl := zT10 (List.mem_of_getElem? (i := 11) rfl)
theorem zw2583 {b : Nat} {e : Nat → Value} {D : va_G} {A : Nat → ClassId} {X : State → Prop} : Cond.selects RX12 yX12_choose yX12_choose ∈ eW (zV b e D A X) := z_e zx2583 rfl
theorem zx2594 : Cond.methodLink R_law 115 yX12_differ ∈ lw_tbl := zT10 (List.mem_of_getElem? (i := 22) rfl)
theorem zw2594 {b : Nat} {e : Nat → Value} {D : va_G} {A : Nat → ClassId} {X : State → Prop} : Cond.methodLink R_law 115 yX12_differ ∈ eW (zV b e D A X) := z_e zx2594 rfl
theorem zx2595 : Cond.instanceMethod yX12_differ ∈ lw_tbl := zT10 (List.mem_of_getElem? (i := 23) rfl)
theorem zw2595 {b : Nat} {e : Nat → Value} {D : va_G} {A : Nat → ClassId} {X : State → Prop} : Cond.instanceMethod yX12_differ ∈ eW (zV b e D A X) := z_e zx2595 rfl
theorem zx2596 : Cond.selects RX12 yX12_differ yX12_differ ∈ lw_tbl := zT10 (List.mem_of_getElem? (i := 24) rfl)
theorem zw2596 {b : Nat} {e : Nat → Value} {D : va_G} {A : Nat → ClassId} {X : State → Prop} : Cond.selects RX12 yX12_differ yX12_differ ∈ eW (zV b e D A X) := z_e zx2596 rfl
theorem zx2682 : Cond.methodLink R_law 119 yX12_change ∈ lw_tbl := zT10 (List.mem_of_getElem? (i := 110) rfl)
theorem zw2682 {b : Nat} {e : Nat → Value} {D : va_G} {A : Nat → ClassId} {X : State → Prop} : Cond.methodLink R_law 119 yX12_change ∈ eW (zV b e D A X) := z_e zx2682 rfl
theorem zx2683 : Cond.instanceMethod yX12_change ∈ lw_tbl := zT10 (List.mem_of_getElem? (i := 111) rfl)
theorem zw2683 {b : Nat} {e : Nat → Value} {D : va_G} {A : Nat → ClassId} {X : State → Prop} : Cond.instanceMethod yX12_change ∈ eW (zV b e D A X) := z_e zx2683 rfl
theorem zx2684 : Cond.selects RX12 yX12_change yX12_change ∈ lw_tbl := zT10 (List.mem_of_getElem? (i := 112) rfl)
theorem zw2684 {b : Nat} {e : Nat → Value} {D : va_G} {A : Nat → ClassId} {X : State → Prop} : Cond.selects RX12 yX12_change yX12_change ∈ eW (zV b e D A X) := z_e zx2684 rfl
theorem zx2686 : Cond.methodLink R_law 123 yX12_word ∈ lw_tbl := zT10 (List.mem_of_getElem? (i := 114) rfl)
theorem zw2686 {b : Nat} {e : Nat → Value} {D : va_G} {A : Nat → ClassId} {X : State → Prop} : Cond.methodLink R_law 123 yX12_word ∈ eW (zV b e D A X) := z_e zx2686 rfl
theorem zx2687 : Cond.instanceMethod yX12_word ∈ lw_tbl := zT10 (List.mem_of_getElem? (i := 115) rfl)
theorem zw2687 {b : Nat} {e : Nat → Value} {D : va_G} {A : Nat → ClassId} {X : State → Prop} : Cond.instanceMethod yX12_word ∈ eW (zV b e D A X) := z_e zx2687 rfl
theorem zx2688 : Cond.selects RX12 yX12_word yX12_word ∈ lw_tbl := zT10 (List.mem_of_getElem? (i := 116) rfl)
theorem zw2688 {b : Nat} {e : Nat → Value} {D : va_G} {A : Nat → ClassId} {X : State → Prop} : Cond.selects RX12 yX12_word yX12_word ∈ eW (zV b e D A X) := z_e zx2688 rfl
theorem zx2690 : Cond.methodLink R_law 127 yX12_weave ∈ lw_tbl := zT10 (List.mem_of_getElem? (i := 118) rfl)
theorem zw2690 {b : Nat} {e : Nat → Value} {D : va_G} {A : Nat → ClassId} {X : State → Prop} : Cond.methodLink R_law 127 yX12_weave ∈ eW (zV b e D A X) := z_e zx2690 rfl
theorem zx2691 : Cond.instanceMethod yX12_weave ∈ lw_tbl := zT10 (List.mem_of_getElem? (i := 119) rfl)
theorem zw2691 {b : Nat} {e : Nat → Value} {D : va_G} {A : Nat → ClassId} {X : State → Prop} : Cond.instanceMethod yX12_weave ∈ eW (zV b e D A X) := z_e zx2691 rfl
theorem zx2692 : Cond.selects RX12 yX12_weave yX12_weave ∈ lw_tbl := zT10 (List.mem_of_getElem? (i := 120) rfl)
theorem zw2692 {b : Nat} {e : Nat → Value} {D : va_G} {A : Nat → ClassId} {X : State → Prop} : Cond.selects RX12 yX12_weave yX12_weave ∈ eW (zV b e D A X) := z_e zx2692 rfl
theorem zx2717 : Cond.methodLink R_law 131 yX12_fresh ∈ lw_tbl := zT10 (List.mem_of_getElem? (i := 145) rfl)
theorem zw2717 {b : Nat} {e : Nat → Value} {D : va_G} {A : Nat → ClassId} {X : State → Prop} : Cond.methodLink R_law 131 yX12_fresh ∈ eW (zV b e D A X) := z_e zx2717 rfl
theorem zx2718 : Cond.instanceMethod yX12_fresh ∈ lw_tbl := zT10 (List.mem_of_getElem? (i := 146) rfl)
theorem zw2718 {b : Nat} {e : Nat → Value} {D : va_G} {A : Nat → ClassId} {X : State → Prop} : Cond.instanceMethod yX12_fresh ∈ eW (zV b e D A X) := z_e zx2718 rfl
theorem zx2719 : Cond.selects RX12 yX12_fresh yX12_fresh ∈ lw_tbl := zT10 (List.mem_of_getElem? (i := 147) rfl)
theorem zw2719 {b : Nat} {e : Nat → Value} {D : va_G} {A : Nat → ClassId} {X : State → Prop} : Cond.selects RX12 yX12_fresh yX12_fresh ∈ eW (zV b e D A X) := z_e zx2719 rfl
theorem zx2725 : Cond.methodLink R_law 135 yX12_touch ∈ lw_tbl := zT10 (List.mem_of_getElem? (i := 153) rfl)
theorem zw2725 {b : Nat} {e : Nat → Value} {D : va_G} {A : Nat → ClassId} {X : State → Prop} : Cond.methodLink R_law 135 yX12_touch ∈ eW (zV b e D A X) := z_e zx2725 rfl
theorem zx2726 : Cond.instanceMethod yX12_touch ∈ lw_tbl := zT10 (List.mem_of_getElem? (i := 154) rfl)
theorem zw2726 {b : Nat} {e : Nat → Value} {D : va_G} {A : Nat → ClassId} {X : State → Prop} : Cond.instanceMethod yX12_touch ∈ eW (zV b e D A X) := z_e zx2726 rfl
theorem zx2727 : Cond.selects RX12 yX12_touch yX12_touch ∈ lw_tbl := zT10 (List.mem_of_getElem? (i := 155) rfl)
theorem zw2727 {b : Nat} {e : Nat → Value} {D : va_G} {A : Nat → ClassId} {X : State → Prop} : Cond.selects RX12 yX12_touch yX12_touch ∈ eW (zV b e D A X) := z_e zx2727 rfl
theorem zx2729 : Cond.methodLink R_law 139 yX12_run ∈ lw_tbl := zT10 (List.mem_of_getElem? (i := 157) rfl)
theorem zw2729 {b : Nat} {e : Nat → Value} {D : va_G} {A : Nat → ClassId} {X : State → Prop} : Cond.methodLink R_law 139 yX12_run ∈ eW (zV b e D A X) := z_e zx2729 rfl
theorem zx2730 : Cond.instanceMethod yX12_run ∈ lw_tbl := zT10 (List.mem_of_getElem? (i := 158) rfl)
theorem zw2730 {b : Nat} {e : Nat → Value} {D : va_G} {A : Nat → ClassId} {X : State → Prop} : Cond.instanceMethod yX12_run ∈ eW (zV b e D A X) := z_e zx2730 rfl
theorem zx2731 : Cond.selects RX12 yX12_run yX12_run ∈ lw_tbl := zT10 (List.mem_of_getElem? (i := 159) rfl)
theorem zw2731 {b : Nat} {e : Nat → Value} {D : va_G} {A : Nat → ClassId} {X : State → Prop} : Cond.selects RX12 yX12_run yX12_run ∈ eW (zV b e D A X) := z_e zx2731 rfl
theorem zx2868 : Cond.methodLink R_law 143 yX12_value ∈ lw_tbl := zT11 (List.mem_of_getElem? (i := 56) rfl)
theorem zw2868 {b : Nat} {e : Nat → Value} {D : va_G} {A : Nat → ClassId} {X : State → Prop} : Cond.methodLink R_law 143 yX12_value ∈ eW (zV b e D A X) := z_e zx2868 rfl
theorem zx2869 : Cond.instanceMethod yX12_value ∈ lw_tbl := zT11 (List.mem_of_getElem? (i := 57) rfl)
theorem zw2869 {b : Nat} {e : Nat → Value} {D : va_G} {A : Nat → ClassId} {X : State → Prop} : Cond.instanceMethod yX12_value ∈ eW (zV b e D A X) := z_e zx2869 rfl
theorem zx2870 : Cond.selects RX12 yX12_value yX12_value ∈ lw_tbl := zT11 (List.mem_of_getElem? (i := 58) rfl)
theorem zw2870 {b : Nat} {e : Nat → Value} {D : va_G} {A : Nat → ClassId} {X : State → Prop} : Cond.selects RX12 yX12_value yX12_value ∈ eW (zV b e D A X) := z_e zx2870 rfl
theorem zx2872 : Cond.methodLink R_law 147 yX12_told ∈ lw_tbl := zT11 (List.mem_of_getElem? (i := 60) rfl)
theorem zw2872 {b : Nat} {e : Nat → Value} {D : va_G} {A : Nat → ClassId} {X : State → Prop} : Cond.methodLink R_law 147 yX12_told ∈ eW (zV b e D A X) := z_e zx2872 rfl
theorem zx2873 : Cond.instanceMethod yX12_told ∈ lw_tbl := zT11 (List.mem_of_getElem? (i := 61) rfl)
theorem zw2873 {b : Nat} {e : Nat → Value} {D : va_G} {A : Nat → ClassId} {X : State → Prop} : Cond.instanceMethod yX12_told ∈ eW (zV b e D A X) := z_e zx2873 rfl
theorem zx2874 : Cond.selects RX12 yX12_told yX12_told ∈ lw_tbl := zT11 (List.mem_of_getElem? (i := 62) rfl)
theorem zw2874 {b : Nat} {e : Nat → Value} {D : va_G} {A : Nat → ClassId} {X : State → Prop} : Cond.selects RX12 yX12_told yX12_told ∈ eW (zV b e D A X) := z_e zx2874 rfl
theorem zx2876 : Cond.methodLink R_law 151 yX12_number ∈ lw_tbl := zT11 (List.mem_of_getElem? (i := 64) rfl)
theorem zw2876 {b : Nat} {e : Nat → Value} {D : va_G} {A : Nat → ClassId} {X : State → Prop} : Cond.methodLink R_law 151 yX12_number ∈ eW (zV b e D A X) := z_e zx2876 rfl
theorem zx2877 : Cond.instanceMethod yX12_number ∈ lw_tbl := zT11 (List.mem_of_getElem? (i := 65) rfl)
theorem zw2877 {b : Nat} {e : Nat → Value} {D : va_G} {A : Nat → ClassId} {X : State → Prop} : Cond.instanceMethod yX12_number ∈ eW (zV b e D A X) := z_e zx2877 rfl
theorem zx2878 : Cond.selects RX12 yX12_number yX12_number ∈ lw_tbl := zT11 (List.mem_of_getElem? (i := 66) rfl)
theorem zw2878 {b : Nat} {e : Nat → Value} {D : va_G} {A : Nat → ClassId} {X : State → Prop} : Cond.selects RX12 yX12_number yX12_number ∈ eW (zV b e D A X) := z_e zx2878 rfl
theorem zx2880 : Cond.methodLink R_law 155 yX12_event ∈ lw_tbl := zT11 (List.mem_of_getElem? (i := 68) rfl)
theorem zw2880 {b : Nat} {e : Nat → Value} {D : va_G} {A : Nat → ClassId} {X : State → Prop} : Cond.methodLink R_law 155 yX12_event ∈ eW (zV b e D A X) := z_e zx2880 rfl
theorem zx2881 : Cond.instanceMethod yX12_event ∈ lw_tbl := zT11 (List.mem_of_getElem? (i := 69) rfl)
theorem zw2881 {b : Nat} {e : Nat → Value} {D : va_G} {A : Nat → ClassId} {X : State → Prop} : Cond.instanceMethod yX12_event ∈ eW (zV b e D A X) := z_e zx2881 rfl
theorem zx2882 : Cond.selects RX12 yX12_event yX12_event ∈ lw_tbl := zT11 (List.mem_of_getElem? (i := 70) rfl)
theorem zw2882 {b : Nat} {e : Nat → Value} {D : va_G} {A : Nat → ClassId} {X : State → Prop} : Cond.selects RX12 yX12_event yX12_event ∈ eW (zV b e D A X) := z_e zx2882 rfl
theorem zx2884 : Cond.methodLink R_law 159 yX12_name ∈ lw_tbl := zT11 (List.mem_of_getElem? (i := 72) rfl)
theorem zw2884 {b : Nat} {e : Nat → Value} {D : va_G} {A : Nat → ClassId} {X : State → Prop} : Cond.methodLink R_law 159 yX12_name ∈ eW (zV b e D A X) := z_e zx2884 rfl
theorem zx2885 : Cond.instanceMethod yX12_name ∈ lw_tbl := zT11 (List.mem_of_getElem? (i := 73) rfl)
theorem zw2885 {b : Nat} {e : Nat → Value} {D : va_G} {A : Nat → ClassId} {X : State → Prop} : Cond.instanceMethod yX12_name ∈ eW (zV b e D A X) := z_e zx2885 rfl
theorem zx2886 : Cond.selects RX12 yX12_name yX12_name ∈ lw_tbl := zT11 (List.mem_of_getElem? (i := 74) rfl)
theorem zw2886 {b : Nat} {e : Nat → Value} {D : va_G} {A : Nat → ClassId} {X : State → Prop} : Cond.selects RX12 yX12_name yX12_name ∈ eW (zV b e D A X) := z_e zx2886 rfl
theorem zx2888 : Cond.methodLink R_law 163 yX12_state ∈ lw_tbl := zT11 (List.mem_of_getElem? (i := 76) rfl)
theorem zw2888 {b : Nat} {e : Nat → Value} {D : va_G} {A : Nat → ClassId} {X : State → Prop} : Cond.methodLink R_law 163 yX12_state ∈ eW (zV b e D A X) := z_e zx2888 rfl
theorem zx2889 : Cond.instanceMethod yX12_state ∈ lw_tbl := zT11 (List.mem_of_getElem? (i := 77) rfl)
theorem zw2889 {b : Nat} {e : Nat → Value} {D : va_G} {A : Nat → ClassId} {X : State → Prop} : Cond.instanceMethod yX12_state ∈ eW (zV b e D A X) := z_e zx2889 rfl
theorem zx2890 : Cond.selects RX12 yX12_state yX12_state ∈ lw_tbl := zT11 (List.mem_of_getElem? (i := 78) rfl)
theorem zw2890 {b : Nat} {e : Nat → Value} {D : va_G} {A : Nat → ClassId} {X : State → Prop} : Cond.selects RX12 yX12_state yX12_state ∈ eW (zV b e D A X) := z_e zx2890 rfl
theorem zx2892 : Cond.methodLink R_law 167 yX12_classOf ∈ lw_tbl := zT11 (List.mem_of_getElem? (i := 80) rfl)
theorem zw2892 {b : Nat} {e : Nat → Value} {D : va_G} {A : Nat → ClassId} {X : State → Prop} : Cond.methodLink R_law 167 yX12_classOf ∈ eW (zV b e D A X) := z_e zx2892 rfl
theorem zx2893 : Cond.instanceMethod yX12_classOf ∈ lw_tbl := zT11 (List.mem_of_getElem? (i := 81) rfl)
theorem zw2893 {b : Nat} {e : Nat → Value} {D : va_G} {A : Nat → ClassId} {X : State → Prop} : Cond.instanceMethod yX12_classOf ∈ eW (zV b e D A X) := z_e zx2893 rfl
theorem zx2894 : Cond.selects RX12 yX12_classOf yX12_classOf ∈ lw_tbl := zT11 (List.mem_of_getElem? (i := 82) rfl)
theorem zw2894 {b : Nat} {e : Nat → Value} {D : va_G} {A : Nat → ClassId} {X : State → Prop} : Cond.selects RX12 yX12_classOf yX12_classOf ∈ eW (zV b e D A X) := z_e zx2894 rfl
theorem zx2896 : Cond.methodLink R_law 171 yX12_fieldOf ∈ lw_tbl := zT11 (List.mem_of_getElem? (i := 84) rfl)
theorem zw2896 {b : Nat} {e : Nat → Value} {D : va_G} {A : Nat → ClassId} {X : State → Prop} : Cond.methodLink R_law 171 yX12_fieldOf ∈ eW (zV b e D A X) := z_e zx2896 rfl
theorem zx2897 : Cond.instanceMethod yX12_fieldOf ∈ lw_tbl := zT11 (List.mem_of_getElem? (i := 85) rfl)
theorem zw2897 {b : Nat} {e : Nat → Value} {D : va_G} {A : Nat → ClassId} {X : State → Prop} : Cond.instanceMethod yX12_fieldOf ∈ eW (zV b e D A X) := z_e zx2897 rfl
theorem zx2898 : Cond.selects RX12 yX12_fieldOf yX12_fieldOf ∈ lw_tbl := zT11 (List.mem_of_getElem? (i := 86) rfl)
theorem zw2898 {b : Nat} {e : Nat → Value} {D : va_G} {A : Nat → ClassId} {X : State → Prop} : Cond.selects RX12 yX12_fieldOf yX12_fieldOf ∈ eW (zV b e D A X) := z_e zx2898 rfl
theorem zx2901 : Cond.methodLink R_law 17 yX13_feed ∈ lw_tbl := zT11 (List.mem_of_getElem? (i := 89) rfl)
theorem zw2901 {b : Nat} {e : Nat → Value} {D : va_G} {A : Nat → ClassId} {X : State → Prop} : Cond.methodLink R_law 17 yX13_feed ∈ eW (zV b e D A X) := z_e zx2901 rfl
theorem zx2902 : Cond.instanceMethod yX13_feed ∈ lw_tbl := zT11 (List.mem_of_getElem? (i := 90) rfl)
theorem zw2902 {b : Nat} {e : Nat → Value} {D : va_G} {A : Nat → ClassId} {X : State → Prop} : Cond.instanceMethod yX13_feed ∈ eW (zV b e D A X) := z_e zx2902 rfl
theorem zx2903 : Cond.selects RX13 yX13_feed yX13_feed ∈ lw_tbl := zT11 (List.mem_of_getElem? (i := 91) rfl)
theorem zw2903 {b : Nat} {e : Nat → Value} {D : va_G} {A : Nat → ClassId} {X : State → Prop} : Cond.selects RX13 yX13_feed yX13_feed ∈ eW (zV b e D A X) := z_e zx2903 rfl
theorem zx2910 : Cond.methodLink R_law 22 yX13_cut ∈ lw_tbl := zT11 (List.mem_of_getElem? (i := 98) rfl)
theorem zw2910 {b : Nat} {e : Nat → Value} {D : va_G} {A : Nat → ClassId} {X : State → Prop} : Cond.methodLink R_law 22 yX13_cut ∈ eW (zV b e D A X) := z_e zx2910 rfl
theorem zx2911 : Cond.instanceMethod yX13_cut ∈ lw_tbl := zT11 (List.mem_of_getElem? (i := 99) rfl)
theorem zw2911 {b : Nat} {e : Nat → Value} {D : va_G} {A : Nat → ClassId} {X : State → Prop} : Cond.instanceMethod yX13_cut ∈ eW (zV b e D A X) := z_e zx2911 rfl
theorem zx2912 : Cond.selects RX13 yX13_cut yX13_cut ∈ lw_tbl := zT11 (List.mem_of_getElem? (i := 100) rfl)
theorem zw2912 {b : Nat} {e : Nat → Value} {D : va_G} {A : Nat → ClassId} {X : State → Prop} : Cond.selects RX13 yX13_cut yX13_cut ∈ eW (zV b e D A X) := z_e zx2912 rfl
theorem zx2914 : Cond.methodLink R_law 27 yX13_splice ∈ lw_tbl := zT11 (List.mem_of_getElem? (i := 102) rfl)
theorem zw2914 {b : Nat} {e : Nat → Value} {D : va_G} {A : Nat → ClassId} {X : State → Prop} : Cond.methodLink R_law 27 yX13_splice ∈ eW (zV b e D A X) := z_e zx2914 rfl
theorem zx2915 : Cond.instanceMethod yX13_splice ∈ lw_tbl := zT11 (List.mem_of_getElem? (i := 103) rfl)
theorem zw2915 {b : Nat} {e : Nat → Value} {D : va_G} {A : Nat → ClassId} {X : State → Prop} : Cond.instanceMethod yX13_splice ∈ eW (zV b e D A X) := z_e zx2915 rfl
theorem zx2916 : Cond.selects RX13 yX13_splice yX13_splice ∈ lw_tbl := zT11 (List.mem_of_getElem? (i := 104) rfl)
theorem zw2916 {b : Nat} {e : Nat → Value} {D : va_G} {A : Nat → ClassId} {X : State → Prop} : Cond.selects RX13 yX13_splice yX13_splice ∈ eW (zV b e D A X) := z_e zx2916 rfl
theorem zx2918 : Cond.methodLink R_law 37 yX13_size ∈ lw_tbl := zT11 (List.mem_of_getElem? (i := 106) rfl)
theorem zw2918 {b : Nat} {e : Nat → Value} {D : va_G} {A : Nat → ClassId} {X : State → Prop} : Cond.methodLink R_law 37 yX13_size ∈ eW (zV b e D A X) := z_e zx2918 rfl
theorem zx2919 : Cond.instanceMethod yX13_size ∈ lw_tbl := zT11 (List.mem_of_getElem? (i := 107) rfl)
theorem zw2919 {b : Nat} {e : Nat → Value} {D : va_G} {A : Nat → ClassId} {X : State → Prop} : Cond.instanceMethod yX13_size ∈ eW (zV b e D A X) := z_e zx2919 rfl
theorem zx2920 : Cond.selects RX13 yX13_size yX13_size ∈ lw_tbl := zT11 (List.mem_of_getElem? (i := 108) rfl)
theorem zw2920 {b : Nat} {e : Nat → Value} {D : va_G} {A : Nat → ClassId} {X : State → Prop} : Cond.selects RX13 yX13_size yX13_size ∈ eW (zV b e D A X) := z_e zx2920 rfl
theorem zx2922 : Cond.methodLink R_law 41 yX13_octet ∈ lw_tbl := zT11 (List.mem_of_getElem? (i := 110) rfl)
theorem zw2922 {b : Nat} {e : Nat → Value} {D : va_G} {A : Nat → ClassId} {X : State → Prop} : Cond.methodLink R_law 41 yX13_octet ∈ eW (zV b e D A X) := z_e zx2922 rfl
theorem zx2923 : Cond.instanceMethod yX13_octet ∈ lw_tbl := zT11 (List.mem_of_getElem? (i := 111) rfl)
theorem zw2923 {b : Nat} {e : Nat → Value} {D : va_G} {A : Nat → ClassId} {X : State → Prop} : Cond.instanceMethod yX13_octet ∈ eW (zV b e D A X) := z_e zx2923 rfl
theorem zx2924 : Cond.selects RX13 yX13_octet yX13_octet ∈ lw_tbl := zT11 (List.mem_of_getElem? (i := 112) rfl)
theorem zw2924 {b : Nat} {e : Nat → Value} {D : va_G} {A : Nat → ClassId} {X : State → Prop} : Cond.selects RX13 yX13_octet yX13_octet ∈ eW (zV b e D A X) := z_e zx2924 rfl
theorem zx2926 : Cond.methodLink R_law 45 yX13_make ∈ lw_tbl := zT11 (List.mem_of_getElem? (i := 114) rfl)
theorem zw2926 {b : Nat} {e : Nat → Value} {D : va_G} {A : Nat → ClassId} {X : State → Prop} : Cond.methodLink R_law 45 yX13_make ∈ eW (zV b e D A X) := z_e zx2926 rfl
theorem zx2927 : Cond.instanceMethod yX13_make ∈ lw_tbl := zT11 (List.mem_of_getElem? (i := 115) rfl)
theorem zw2927 {b : Nat} {e : Nat → Value} {D : va_G} {A : Nat → ClassId} {X : State → Prop} : Cond.instanceMethod yX13_make ∈ eW (zV b e D A X) := z_e zx2927 rfl
theorem zx2928 : Cond.selects RX13 yX13_make yX13_make ∈ lw_tbl := zT11 (List.mem_of_getElem? (i := 116) rfl)
theorem zw2928 {b : Nat} {e : Nat → Value} {D : va_G} {A : Nat → ClassId} {X : State → Prop} : Cond.selects RX13 yX13_make yX13_make ∈ eW (zV b e D A X) := z_e zx2928 rfl
theorem zx3571 : Cond.methodLink R_law 49 yX13_place ∈ lw_tbl := zT14 (List.mem_of_getElem? (i := 39) rfl)
theorem zw3571 {b : Nat} {e : Nat → Value} {D : va_G} {A : Nat → ClassId} {X : State → Prop} : Cond.methodLink R_law 49 yX13_place ∈ eW (zV b e D A X) := z_e zx3571 rfl
theorem zx3572 : Cond.instanceMethod yX13_place ∈ lw_tbl := zT14 (List.mem_of_getElem? (i := 40) rfl)
theorem zw3572 {b : Nat} {e : Nat → Value} {D : va_G} {A : Nat → ClassId} {X : State → Prop} : Cond.instanceMethod yX13_place ∈ eW (zV b e D A X) := z_e zx3572 rfl
theorem zx3573 : Cond.selects RX13 yX13_place yX13_place ∈ lw_tbl := zT14 (List.mem_of_getElem? (i := 41) rfl)
theorem zw3573 {b : Nat} {e : Nat → Value} {D : va_G} {A : Nat → ClassId} {X : State → Prop} : Cond.selects RX13 yX13_place yX13_place ∈ eW (zV b e D A X) := z_e zx3573 rfl
theorem zx3575 : Cond.methodLink R_law 53 yX13_builds ∈ lw_tbl := zT14 (List.mem_of_getElem? (i := 43) rfl)
theorem zw3575 {b : Nat} {e : Nat → Value} {D : va_G} {A : Nat → ClassId} {X : State → Prop} : Cond.methodLink R_law 53 yX13_builds ∈ eW (zV b e D A X) := z_e zx3575 rfl
theorem zx3576 : Cond.instanceMethod yX13_builds ∈ lw_tbl := zT14 (List.mem_of_getElem? (i := 44) rfl)
theorem zw3576 {b : Nat} {e : Nat → Value} {D : va_G} {A : Nat → ClassId} {X : State → Prop} : Cond.instanceMethod yX13_builds ∈ eW (zV b e D A X) := z_e zx3576 rfl
theorem zx3577 : Cond.selects RX13 yX13_builds yX13_builds ∈ lw_tbl := zT14 (List.mem_of_getElem? (i := 45) rfl)
theorem zw3577 {b : Nat} {e : Nat → Value} {D : va_G} {A : Nat → ClassId} {X : State → Prop} : Cond.selects RX13 yX13_builds yX13_builds ∈ eW (zV b e D A X) := z_e zx3577 rfl
theorem zx3579 : Cond.methodLink R_law 32 yX13_text ∈ lw_tbl := zT14 (List.mem_of_getElem? (i := 47) rfl)
theorem zw3579 {b : Nat} {e : Nat → Value} {D : va_G} {A : Nat → ClassId} {X : State → Prop} : Cond.methodLink R_law 32 yX13_text ∈ eW (zV b e D A X) := z_e zx3579 rfl
theorem zx3580 : Cond.instanceMethod yX13_text ∈ lw_tbl := zT14 (List.mem_of_getElem? (i := 48) rfl)
theorem zw3580 {b : Nat} {e : Nat → Value} {D : va_G} {A : Nat → ClassId} {X : State → Prop} : Cond.instanceMethod yX13_text ∈ eW (zV b e D A X) := z_e zx3580 rfl
theorem zx3581 : Cond.selects RX13 yX13_text yX13_text ∈ lw_tbl := zT14 (List.mem_of_getElem? (i := 49) rfl)
theorem zw3581 {b : Nat} {e : Nat → Value} {D : va_G} {A : Nat → ClassId} {X : State → Prop} : Cond.selects RX13 yX13_text yX13_text ∈ eW (zV b e D A X) := z_e zx3581 rfl
theorem zx3587 : Cond.methodLink R_law 57 yX13_pick ∈ lw_tbl := zT14 (List.mem_of_getElem? (i := 55) rfl)
theorem zw3587 {b : Nat} {e : Nat → Value} {D : va_G} {A : Nat → ClassId} {X : State → Prop} : Cond.methodLink R_law 57 yX13_pick ∈ eW (zV b e D A X) := z_e zx3587 rfl
theorem zx3588 : Cond.instanceMethod yX13_pick ∈ lw_tbl := zT14 (List.mem_of_getElem? (i := 56) rfl)
theorem zw3588 {b : Nat} {e : Nat → Value} {D : va_G} {A : Nat → ClassId} {X : State → Prop} : Cond.instanceMethod yX13_pick ∈ eW (zV b e D A X) := z_e zx3588 rfl
theorem zx3589 : Cond.selects RX13 yX13_pick yX13_pick ∈ lw_tbl := zT14 (List.mem_of_getElem? (i := 57) rfl)
theorem zw3589 {b : Nat} {e : Nat → Value} {D : va_G} {A : Nat → ClassId} {X : State → Prop} : Cond.selects RX13 yX13_pick yX13_pick ∈ eW (zV b e D A X) := z_e zx3589 rfl
theorem zx3615 : Cond.methodLink R_law 61 yX13_picked ∈ lw_tbl := zT14 (List.mem_of_getElem? (i := 83) rfl)
theorem zw3615 {b : Nat} {e : Nat → Value} {D : va_G} {A : Nat → ClassId} {X : State → Prop} : Cond.methodLink R_law 61 yX13_picked ∈ eW (zV b e D A X) := z_e zx3615 rfl
theorem zx3616 : Cond.methodLink R_law 65 yX13_classes ∈ lw_tbl := zT14 (List.mem_of_getElem? (i := 84) rfl)
theorem zw3616 {b : Nat} {e : Nat → Value} {D : va_G} {A : Nat → ClassId} {X : State → Prop} : Cond.methodLink R_law 65 yX13_classes ∈ eW (zV b e D A X) := z_e zx3616 rfl
theorem zx3617 : Cond.instanceMethod yX13_classes ∈ lw_tbl := zT14 (List.mem_of_getElem? (i := 85) rfl)
theorem zw3617 {b : Nat} {e : Nat → Value} {D : va_G} {A : Nat → ClassId} {X : State → Prop} : Cond.instanceMethod yX13_classes ∈ eW (zV b e D A X) := z_e zx3617 rfl
theorem zx3618 : Cond.selects RX13 yX13_classes yX13_classes ∈ lw_tbl := zT14 (List.mem_of_getElem? (i := 86) rfl)
theorem zw3618 {b : Nat} {e : Nat → Value} {D : va_G} {A : Nat → ClassId} {X : State → Prop} : Cond.selects RX13 yX13_classes yX13_classes ∈ eW (zV b e D A X) := z_e zx3618 rfl
theorem zx3620 : Cond.methodLink R_law 69 yX13_members ∈ lw_tbl := zT14 (List.mem_of_getElem? (i := 88) rfl)
theorem zw3620 {b : Nat} {e : Nat → Value} {D : va_G} {A : Nat → ClassId} {X : State → Prop} : Cond.methodLink R_law 69 yX13_members ∈ eW (zV b e D A X) := z_e zx3620 rfl
theorem zx3621 : Cond.instanceMethod yX13_members ∈ lw_tbl := zT14 (List.mem_of_getElem? (i := 89) rfl)
theorem zw3621 {b : Nat} {e : Nat → Value} {D : va_G} {A : Nat → ClassId} {X : State → Prop} : Cond.instanceMethod yX13_members ∈ eW (zV b e D A X) := z_e zx3621 rfl
theorem zx3622 : Cond.selects RX13 yX13_members yX13_members ∈ lw_tbl := zT14 (List.mem_of_getElem? (i := 90) rfl)
theorem zw3622 {b : Nat} {e : Nat → Value} {D : va_G} {A : Nat → ClassId} {X : State → Prop} : Cond.selects RX13 yX13_members yX13_members ∈ eW (zV b e D A X) := z_e zx3622 rfl
theorem zx3632 : Cond.methodLink R_law 74 yX13_shape ∈ lw_tbl := zT14 (List.mem_of_getElem? (i := 100) rfl)
theorem zw3632 {b : Nat} {e : Nat → Value} {D : va_G} {A : Nat → ClassId} {X : State → Prop} : Cond.methodLink R_law 74 yX13_shape ∈ eW (zV b e D A X) := z_e zx3632 rfl
theorem zx3633 : Cond.instanceMethod yX13_shape ∈ lw_tbl := zT14 (List.mem_of_getElem? (i := 101) rfl)
theorem zw3633 {b : Nat} {e : Nat → Value} {D : va_G} {A : Nat → ClassId} {X : State → Prop} : Cond.instanceMethod yX13_shape ∈ eW (zV b e D A X) := z_e zx3633 rfl
theorem zx3634 : Cond.selects RX13 yX13_shape yX13_shape ∈ lw_tbl := zT14 (List.mem_of_getElem? (i := 102) rfl)
theorem zw3634 {b : Nat} {e : Nat → Value} {D : va_G} {A : Nat → ClassId} {X : State → Prop} : Cond.selects RX13 yX13_shape yX13_shape ∈ eW (zV b e D A X) := z_e zx3634 rfl
theorem zx3690 : Cond.methodLink R_law 78 yX13_uses ∈ lw_tbl := zT14 (List.mem_of_getElem? (i := 158) rfl)
theorem zw3690 {b : Nat} {e : Nat → Value} {D : va_G} {A : Nat → ClassId} {X : State → Prop} : Cond.methodLink R_law 78 yX13_uses ∈ eW (zV b e D A X) := z_e zx3690 rfl
theorem zx3691 : Cond.instanceMethod yX13_uses ∈ lw_tbl := zT14 (List.mem_of_getElem? (i := 159) rfl)
theorem zw3691 {b : Nat} {e : Nat → Value} {D : va_G} {A : Nat → ClassId} {X : State → Prop} : Cond.instanceMethod yX13_uses ∈ eW (zV b e D A X) := z_e zx3691 rfl
theorem zx3692 : Cond.selects RX13 yX13_uses yX13_uses ∈ lw_tbl := zT14 (List.mem_of_getElem? (i := 160) rfl)
theorem zw3692 {b : Nat} {e : Nat → Value} {D : va_G} {A : Nat → ClassId} {X : State → Prop} : Cond.selects RX13 yX13_uses yX13_uses ∈ eW (zV b e D A X) := z_e zx3692 rfl
theorem zx3694 : Cond.methodLink R_law 82 yX13_use ∈ lw_tbl := zT14 (List.mem_of_getElem? (i := 162) rfl)
theorem zw3694 {b : Nat} {e : Nat → Value} {D : va_G} {A : Nat → ClassId} {X : State → Prop} : Cond.methodLink R_law 82 yX13_use ∈ eW (zV b e D A X) := z_e zx3694 rfl
theorem zx3695 : Cond.instanceMethod yX13_use ∈ lw_tbl := zT14 (List.mem_of_getElem? (i := 163) rfl)
theorem zw3695 {b : Nat} {e : Nat → Value} {D : va_G} {A : Nat → ClassId} {X : State → Prop} : Cond.instanceMethod yX13_use ∈ eW (zV b e D A X) := z_e zx3695 rfl
theorem zx3696 : Cond.selects RX13 yX13_use yX13_use ∈ lw_tbl := zT14 (List.mem_of_getElem? (i := 164) rfl)
theorem zw3696 {b : Nat} {e : Nat → Value} {D : va_G} {A : Nat → ClassId} {X : State → Prop} : Cond.selects RX13 yX13_use yX13_use ∈ eW (zV b e D A X) := z_e zx3696 rfl
theorem zx3702 : Cond.methodLink R_law 86 yX13_tell ∈ lw_tbl := zT14 (List.mem_of_getElem? (i := 170) rfl)
theorem zw3702 {b : Nat} {e : Nat → Value} {D : va_G} {A : Nat → ClassId} {X : State → Prop} : Cond.methodLink R_law 86 yX13_tell ∈ eW (zV b e D A X) := z_e zx3702 rfl
theorem zx3703 : Cond.instanceMethod yX13_tell ∈ lw_tbl := zT14 (List.mem_of_getElem? (i := 171) rfl)
theorem zw3703 {b : Nat} {e : Nat → Value} {D : va_G} {A : Nat → ClassId} {X : State → Prop} : Cond.instanceMethod yX13_tell ∈ eW (zV b e D A X) := z_e zx3703 rfl
theorem zx3704 : Cond.selects RX13 yX13_tell yX13_tell ∈ lw_tbl := zT14 (List.mem_of_getElem? (i := 172) rfl)
theorem zw3704 {b : Nat} {e : Nat → Value} {D : va_G} {A : Nat → ClassId} {X : State → Prop} : Cond.selects RX13 yX13_tell yX13_tell ∈ eW (zV b e D A X) := z_e zx3704 rfl
theorem zx3710 : Cond.methodLink R_law 90 yX13_meet ∈ lw_tbl := zT14 (List.mem_of_getElem? (i := 178) rfl)
theorem zw3710 {b : Nat} {e : Nat → Value} {D : va_G} {A : Nat → ClassId} {X : State → Prop} : Cond.methodLink R_law 90 yX13_meet ∈ eW (zV b e D A X) := z_e zx3710 rfl
theorem zx3711 : Cond.instanceMethod yX13_meet ∈ lw_tbl := zT14 (List.mem_of_getElem? (i := 179) rfl)
theorem zw3711 {b : Nat} {e : Nat → Value} {D : va_G} {A : Nat → ClassId} {X : State → Prop} : Cond.instanceMethod yX13_meet ∈ eW (zV b e D A X) := z_e zx3711 rfl
theorem zx3712 : Cond.selects RX13 yX13_meet yX13_meet ∈ lw_tbl := zT14 (List.mem_of_getElem? (i := 180) rfl)
theorem zw3712 {b : Nat} {e : Nat → Value} {D : va_G} {A : Nat → ClassId} {X : State → Prop} : Cond.selects RX13 yX13_meet yX13_meet ∈ eW (zV b e D A X) := z_e zx3712 rfl
theorem zx3770 : Cond.methodLink R_law 94 yX13_met ∈ lw_tbl := zT14 (List.mem_of_getElem? (i := 238) rfl)
theorem zw3770 {b : Nat} {e : Nat → Value} {D : va_G} {A : Nat → ClassId} {X : State → Prop} : Cond.methodLink R_law 94 yX13_met ∈ eW (zV b e D A X) := z_e zx3770 rfl
theorem zx3771 : Cond.instanceMethod yX13_met ∈ lw_tbl := zT14 (List.mem_of_getElem? (i := 239) rfl)
theorem zw3771 {b : Nat} {e : Nat → Value} {D : va_G} {A : Nat → ClassId} {X : State → Prop} : Cond.instanceMethod yX13_met ∈ eW (zV b e D A X) := z_e zx3771 rfl
theorem zx3772 : Cond.selects RX13 yX13_met yX13_met ∈ lw_tbl := zT15 (List.mem_of_getElem? (i := 0) rfl)
theorem zw3772 {b : Nat} {e : Nat → Value} {D : va_G} {A : Nat → ClassId} {X : State → Prop} : Cond.selects RX13 yX13_met yX13_met ∈ eW (zV b e D A X) := z_e zx3772 rfl
theorem zx3774 : Cond.methodLink R_law 98 yX13_looked ∈ lw_tbl := zT15 (List.mem_of_getElem? (i := 2) rfl)
theorem zw3774 {b : Nat} {e : Nat → Value} {D : va_G} {A : Nat → ClassId} {X : State → Prop} : Cond.methodLink R_law 98 yX13_looked ∈ eW (zV b e D A X) := z_e zx3774 rfl
theorem zx3775 : Cond.instanceMethod yX13_looked ∈ lw_tbl := zT15 (List.mem_of_getElem? (i := 3) rfl)
theorem zw3775 {b : Nat} {e : Nat → Value} {D : va_G} {A : Nat → ClassId} {X : State → Prop} : Cond.instanceMethod yX13_looked ∈ eW (zV b e D A X) := z_e zx3775 rfl
theorem zx3776 : Cond.selects RX13 yX13_looked yX13_looked ∈ lw_tbl := zT15 (List.mem_of_getElem? (i := 4) rfl)
theorem zw3776 {b : Nat} {e : Nat → Value} {D : va_G} {A : Nat → ClassId} {X : State → Prop} : Cond.selects RX13 yX13_looked yX13_looked ∈ eW (zV b e D A X) := z_e zx3776 rfl
theorem zx3778 : Cond.methodLink R_law 102 yX13_broken ∈ lw_tbl := zT15 (List.mem_of_getElem? (i := 6) rfl)
theorem zw3778 {b : Nat} {e : Nat → Value} {D : va_G} {A : Nat → ClassId} {X : State → Prop} : Cond.methodLink R_law 102 yX13_broken ∈ eW (zV b e D A X) := z_e zx3778 rfl
theorem zx3779 : Cond.instanceMethod yX13_broken ∈ lw_tbl := zT15 (List.mem_of_getElem? (i := 7) rfl)
theorem zw3779 {b : Nat} {e : Nat → Value} {D : va_G} {A : Nat → ClassId} {X : State → Prop} : Cond.instanceMethod yX13_broken ∈ eW (zV b e D A X) := z_e zx3779 rfl
theorem zx3780 : Cond.selects RX13 yX13_broken yX13_broken ∈ lw_tbl := zT15 (List.mem_of_getElem? (i := 8) rfl)
theorem zw3780 {b : Nat} {e : Nat → Value} {D : va_G} {A : Nat → ClassId} {X : State → Prop} : Cond.selects RX13 yX13_broken yX13_broken ∈ eW (zV b e D A X) := z_e zx3780 rfl
theorem zx3782 : Cond.methodLink R_law 106 yX13_brokenAt ∈ lw_tbl := zT15 (List.mem_of_getElem? (i := 10) rfl)
theorem zw3782 {b : Nat} {e : Nat → Value} {D : va_G} {A : Nat → ClassId} {X : State → Prop} : Cond.methodLink R_law 106 yX13_brokenAt ∈ eW (zV b e D A X) := z_e zx3782 rfl
theorem zx3783 : Cond.instanceMethod yX13_brokenAt ∈ lw_tbl := zT15 (List.mem_of_getElem? (i := 11) rfl)
theorem zw3783 {b : Nat} {e : Nat → Value} {D : va_G} {A : Nat → ClassId} {X : State → Prop} : Cond.instanceMethod yX13_brokenAt ∈ eW (zV b e D A X) := z_e zx3783 rfl
theorem zx3784 : Cond.selects RX13 yX13_brokenAt yX13_brokenAt ∈ lw_tbl := zT15 (List.mem_of_getElem? (i := 12) rfl)
theorem zw3784 {b : Nat} {e : Nat → Value} {D : va_G} {A : Nat → ClassId} {X : State → Prop} : Cond.selects RX13 yX13_brokenAt yX13_brokenAt ∈ eW (zV b e D A X) := z_e zx3784 rfl
theorem zx3786 : Cond.methodLink R_law 110 yX13_stale ∈ lw_tbl := zT15 (List.mem_of_getElem? (i := 14) rfl)
theorem zw3786 {b : Nat} {e : Nat → Value} {D : va_G} {A : Nat → ClassId} {X : State → Prop} : Cond.methodLink R_law 110 yX13_stale ∈ eW (zV b e D A X) := z_e zx3786 rfl
theorem zx3787 : Cond.instanceMethod yX13_stale ∈ lw_tbl := zT15 (List.mem_of_getElem? (i := 15) rfl)
theorem zw3787 {b : Nat} {e : Nat → Value} {D : va_G} {A : Nat → ClassId} {X : State → Prop} : Cond.instanceMethod yX13_stale ∈ eW (zV b e D A X) := z_e zx3787 rfl
theorem zx3788 : Cond.selects RX13 yX13_stale yX13_stale ∈ lw_tbl := zT15 (List.mem_of_getElem? (i := 16) rfl)
theorem zw3788 {b : Nat} {e : Nat → Value} {D : va_G} {A : Nat → ClassId} {X : State → Prop} : Cond.selects RX13 yX13_stale yX13_stale ∈ eW (zV b e D A X) := z_e zx3788 rfl
theorem zx3790 : Cond.methodLink R_law 114 yX13_choose ∈ lw_tbl := zT15 (List.mem_of_getElem? (i := 18) rfl)
theorem zw3790 {b : Nat} {e : Nat → Value} {D : va_G} {A : Nat → ClassId} {X : State → Prop} : Cond.methodLink R_law 114 yX13_choose ∈ eW (zV b e D A X) := z_e zx3790 rfl
theorem zx3791 : Cond.instanceMethod yX13_choose ∈ lw_tbl := zT15 (List.mem_of_getElem? (i := 19) rfl)
theorem zw3791 {b : Nat} {e : Nat → Value} {D : va_G} {A : Nat → ClassId} {X : State → Prop} : Cond.instanceMethod yX13_choose ∈ eW (zV b e D A X) := z_e zx3791 rfl
theorem zx3792 : Cond.selects RX13 yX13_choose yX13_choose ∈ lw_tbl := zT15 (List.mem_of_getElem? (i := 20) rfl)
theorem zw3792 {b : Nat} {e : Nat → Value} {D : va_G} {A : Nat → ClassId} {X : State → Prop} : Cond.selects RX13 yX13_choose yX13_choose ∈ eW (zV b e D A X) := z_e zx3792 rfl
theorem zx3798 : Cond.methodLink R_law 134 yX13_fresh ∈ lw_tbl := zT15 (List.mem_of_getElem? (i := 26) rfl)
theorem zw3798 {b : Nat} {e : Nat → Value} {D : va_G} {A : Nat → ClassId} {X : State → Prop} : Cond.methodLink R_law 134 yX13_fresh ∈ eW (zV b e D A X) := z_e zx3798 rfl
theorem zx3799 : Cond.instanceMethod yX13_fresh ∈ lw_tbl := zT15 (List.mem_of_getElem? (i := 27) rfl)
theorem zw3799 {b : Nat} {e : Nat → Value} {D : va_G} {A : Nat → ClassId} {X : State → Prop} : Cond.instanceMethod yX13_fresh ∈ eW (zV b e D A X) := z_e zx3799 rfl
theorem zx3800 : Cond.selects RX13 yX13_fresh yX13_fresh ∈ lw_tbl := zT15 (List.mem_of_getElem? (i := 28) rfl)
theorem zw3800 {b : Nat} {e : Nat → Value} {D : va_G} {A : Nat → ClassId} {X : State → Prop} : Cond.selects RX13 yX13_fresh yX13_fresh ∈ eW (zV b e D A X) := z_e zx3800 rfl
theorem zx3802 : Cond.methodLink R_law 138 yX13_touch ∈ lw_tbl := zT15 (List.mem_of_getElem? (i := 30) rfl)
theorem zw3802 {b : Nat} {e : Nat → Value} {D : va_G} {A : Nat → ClassId} {X : State → Prop} : Cond.methodLink R_law 138 yX13_touch ∈ eW (zV b e D A X) := z_e zx3802 rfl
theorem zx3803 : Cond.instanceMethod yX13_touch ∈ lw_tbl := zT15 (List.mem_of_getElem? (i := 31) rfl)
theorem zw3803 {b : Nat} {e : Nat → Value} {D : va_G} {A : Nat → ClassId} {X : State → Prop} : Cond.instanceMethod yX13_touch ∈ eW (zV b e D A X) := z_e zx3803 rfl
theorem zx3804 : Cond.selects RX13 yX13_touch yX13_touch ∈ lw_tbl := zT15 (List.mem_of_getElem? (i := 32) rfl)
theorem zw3804 {b : Nat} {e : Nat → Value} {D : va_G} {A : Nat → ClassId} {X : State → Prop} : Cond.selects RX13 yX13_touch yX13_touch ∈ eW (zV b e D A X) := z_e zx3804 rfl
theorem zx3806 : Cond.methodLink R_law 142 yX13_run ∈ lw_tbl := zT15 (List.mem_of_getElem? (i := 34) rfl)
theorem zw3806 {b : Nat} {e : Nat → Value} {D : va_G} {A : Nat → ClassId} {X : State → Prop} : Cond.methodLink R_law 142 yX13_run ∈ eW (zV b e D A X) := z_e zx3806 rfl
theorem zx3807 : Cond.instanceMethod yX13_run ∈ lw_tbl := zT15 (List.mem_of_getElem? (i := 35) rfl)
theorem zw3807 {b : Nat} {e : Nat → Value} {D : va_G} {A : Nat → ClassId} {X : State → Prop} : Cond.instanceMethod yX13_run ∈ eW (zV b e D A X) := z_e zx3807 rfl
theorem zx3808 : Cond.selects RX13 yX13_run yX13_run ∈ lw_tbl := zT15 (List.mem_of_getElem? (i := 36) rfl)
theorem zw3808 {b : Nat} {e : Nat → Value} {D : va_G} {A : Nat → ClassId} {X : State → Prop} : Cond.selects RX13 yX13_run yX13_run ∈ eW (zV b e D A X) := z_e zx3808 rfl
theorem zx3954 : Cond.methodLink R_law 146 yX13_value ∈ lw_tbl := zT15 (List.mem_of_getElem? (i := 182) rfl)
theorem zw3954 {b : Nat} {e : Nat → Value} {D : va_G} {A : Nat → ClassId} {X : State → Prop} : Cond.methodLink R_law 146 yX13_value ∈ eW (zV b e D A X) := z_e zx3954 rfl
theorem zx3955 : Cond.instanceMethod yX13_value ∈ lw_tbl := zT15 (List.mem_of_getElem? (i := 183) rfl)
theorem zw3955 {b : Nat} {e : Nat → Value} {D : va_G} {A : Nat → ClassId} {X : State → Prop} : Cond.instanceMethod yX13_value ∈ eW (zV b e D A X) := z_e zx3955 rfl
theorem zx3956 : Cond.selects RX13 yX13_value yX13_value ∈ lw_tbl := zT15 (List.mem_of_getElem? (i := 184) rfl)
theorem zw3956 {b : Nat} {e : Nat → Value} {D : va_G} {A : Nat → ClassId} {X : State → Prop} : Cond.selects RX13 yX13_value yX13_value ∈ eW (zV b e D A X) := z_e zx3956 rfl
theorem zx3958 : Cond.methodLink R_law 150 yX13_told ∈ lw_tbl := zT15 (List.mem_of_getElem? (i := 186) rfl)
theorem zw3958 {b : Nat} {e : Nat → Value} {D : va_G} {A : Nat → ClassId} {X : State → Prop} : Cond.methodLink R_law 150 yX13_told ∈ eW (zV b e D A X) := z_e zx3958 rfl
theorem zx3959 : Cond.instanceMethod yX13_told ∈ lw_tbl := zT15 (List.mem_of_getElem? (i := 187) rfl)
theorem zw3959 {b : Nat} {e : Nat → Value} {D : va_G} {A : Nat → ClassId} {X : State → Prop} : Cond.instanceMethod yX13_told ∈ eW (zV b e D A X) := z_e zx3959 rfl
theorem zx3960 : Cond.selects RX13 yX13_told yX13_told ∈ lw_tbl := zT15 (List.mem_of_getElem? (i := 188) rfl)
theorem zw3960 {b : Nat} {e : Nat → Value} {D : va_G} {A : Nat → ClassId} {X : State → Prop} : Cond.selects RX13 yX13_told yX13_told ∈ eW (zV b e D A X) := z_e zx3960 rfl
theorem zx3962 : Cond.methodLink R_law 154 yX13_number ∈ lw_tbl := zT15 (List.mem_of_getElem? (i := 190) rfl)
theorem zw3962 {b : Nat} {e : Nat → Value} {D : va_G} {A : Nat → ClassId} {X : State → Prop} : Cond.methodLink R_law 154 yX13_number ∈ eW (zV b e D A X) := z_e zx3962 rfl
theorem zx3963 : Cond.instanceMethod yX13_number ∈ lw_tbl := zT15 (List.mem_of_getElem? (i := 191) rfl)
theorem zw3963 {b : Nat} {e : Nat → Value} {D : va_G} {A : Nat → ClassId} {X : State → Prop} : Cond.instanceMethod yX13_number ∈ eW (zV b e D A X) := z_e zx3963 rfl
theorem zx3964 : Cond.selects RX13 yX13_number yX13_number ∈ lw_tbl := zT15 (List.mem_of_getElem? (i := 192) rfl)
theorem zw3964 {b : Nat} {e : Nat → Value} {D : va_G} {A : Nat → ClassId} {X : State → Prop} : Cond.selects RX13 yX13_number yX13_number ∈ eW (zV b e D A X) := z_e zx3964 rfl
theorem zx3966 : Cond.methodLink R_law 158 yX13_event_ ∈ lw_tbl := zT15 (List.mem_of_getElem? (i := 194) rfl)
theorem zw3966 {b : Nat} {e : Nat → Value} {D : va_G} {A : Nat → ClassId} {X : State → Prop} : Cond.methodLink R_law 158 yX13_event_ ∈ eW (zV b e D A X) := z_e zx3966 rfl
theorem zx3967 : Cond.instanceMethod yX13_event_ ∈ lw_tbl := zT15 (List.mem_of_getElem? (i := 195) rfl)
theorem zw3967 {b : Nat} {e : Nat → Value} {D : va_G} {A : Nat → ClassId} {X : State → Prop} : Cond.instanceMethod yX13_event_ ∈ eW (zV b e D A X) := z_e zx3967 rfl
theorem zx3968 : Cond.selects RX13 yX13_event_ yX13_event_ ∈ lw_tbl := zT15 (List.mem_of_getElem? (i := 196) rfl)
theorem zw3968 {b : Nat} {e : Nat → Value} {D : va_G} {A : Nat → ClassId} {X : State → Prop} : Cond.selects RX13 yX13_event_ yX13_event_ ∈ eW (zV b e D A X) := z_e zx3968 rfl
theorem zx3970 : Cond.methodLink R_law 162 yX13_name ∈ lw_tbl := zT15 (List.mem_of_getElem? (i := 198) rfl)
theorem zw3970 {b : Nat} {e : Nat → Value} {D : va_G} {A : Nat → ClassId} {X : State → Prop} : Cond.methodLink R_law 162 yX13_name ∈ eW (zV b e D A X) := z_e zx3970 rfl
theorem zx3971 : Cond.instanceMethod yX13_name ∈ lw_tbl := zT15 (List.mem_of_getElem? (i := 199) rfl)
theorem zw3971 {b : Nat} {e : Nat → Value} {D : va_G} {A : Nat → ClassId} {X : State → Prop} : Cond.instanceMethod yX13_name ∈ eW (zV b e D A X) := z_e zx3971 rfl
theorem zx3972 : Cond.selects RX13 yX13_name yX13_name ∈ lw_tbl := zT15 (List.mem_of_getElem? (i := 200) rfl)
theorem zw3972 {b : Nat} {e : Nat → Value} {D : va_G} {A : Nat → ClassId} {X : State → Prop} : Cond.selects RX13 yX13_name yX13_name ∈ eW (zV b e D A X) := z_e zx3972 rfl
theorem zx3974 : Cond.methodLink R_law 166 yX13_state ∈ lw_tbl := zT15 (List.mem_of_getElem? (i := 202) rfl)
theorem zw3974 {b : Nat} {e : Nat → Value} {D : va_G} {A : Nat → ClassId} {X : State → Prop} : Cond.methodLink R_law 166 yX13_state ∈ eW (zV b e D A X) := z_e zx3974 rfl
theorem zx3975 : Cond.instanceMethod yX13_state ∈ lw_tbl := zT15 (List.mem_of_getElem? (i := 203) rfl)
theorem zw3975 {b : Nat} {e : Nat → Value} {D : va_G} {A : Nat → ClassId} {X : State → Prop} : Cond.instanceMethod yX13_state ∈ eW (zV b e D A X) := z_e zx3975 rfl
theorem zx3976 : Cond.selects RX13 yX13_state yX13_state ∈ lw_tbl := zT15 (List.mem_of_getElem? (i := 204) rfl)
theorem zw3976 {b : Nat} {e : Nat → Value} {D : va_G} {A : Nat → ClassId} {X : State → Prop} : Cond.selects RX13 yX13_state yX13_state ∈ eW (zV b e D A X) := z_e zx3976 rfl
theorem zx3978 : Cond.methodLink R_law 170 yX13_classOf ∈ lw_tbl := zT15 (List.mem_of_getElem? (i := 206) rfl)
theorem zw3978 {b : Nat} {e : Nat → Value} {D : va_G} {A : Nat → ClassId} {X : State → Prop} : Cond.methodLink R_law 170 yX13_classOf ∈ eW (zV b e D A X) := z_e zx3978 rfl
theorem zx3979 : Cond.instanceMethod yX13_classOf ∈ lw_tbl := zT15 (List.mem_of_getElem? (i := 207) rfl)
theorem zw3979 {b : Nat} {e : Nat → Value} {D : va_G} {A : Nat → ClassId} {X : State → Prop} : Cond.instanceMethod yX13_classOf ∈ eW (zV b e D A X) := z_e zx3979 rfl
theorem zx3980 : Cond.selects RX13 yX13_classOf yX13_classOf ∈ lw_tbl := zT15 (List.mem_of_getElem? (i := 208) rfl)
theorem zw3980 {b : Nat} {e : Nat → Value} {D : va_G} {A : Nat → ClassId} {X : State → Prop} : Cond.selects RX13 yX13_classOf yX13_classOf ∈ eW (zV b e D A X) := z_e zx3980 rfl
theorem zx3982 : Cond.methodLink R_law 174 yX13_fieldOf ∈ lw_tbl := zT15 (List.mem_of_getElem? (i := 210) rfl)
theorem zw3982 {b : Nat} {e : Nat → Value} {D : va_G} {A : Nat → ClassId} {X : State → Prop} : Cond.methodLink R_law 174 yX13_fieldOf ∈ eW (zV b e D A X) := z_e zx3982 rfl
theorem zx3983 : Cond.instanceMethod yX13_fieldOf ∈ lw_tbl := zT15 (List.mem_of_getElem? (i := 211) rfl)
theorem zw3983 {b : Nat} {e : Nat → Value} {D : va_G} {A : Nat → ClassId} {X : State → Prop} : Cond.instanceMethod yX13_fieldOf ∈ eW (zV b e D A X) := z_e zx3983 rfl
theorem zx3984 : Cond.selects RX13 yX13_fieldOf yX13_fieldOf ∈ lw_tbl := zT15 (List.mem_of_getElem? (i := 212) rfl)
theorem zw3984 {b : Nat} {e : Nat → Value} {D : va_G} {A : Nat → ClassId} {X : State → Prop} : Cond.selects RX13 yX13_fieldOf yX13_fieldOf ∈ eW (zV b e D A X) := z_e zx3984 rfl
theorem zx3986 : Cond.methodLink R_law 118 yX13_differ ∈ lw_tbl := zT15 (List.mem_of_getElem? (i := 214) rfl)
theorem zw3986 {b : Nat} {e : Nat → Value} {D : va_G} {A : Nat → ClassId} {X : State → Prop} : Cond.methodLink R_law 118 yX13_differ ∈ eW (zV b e D A X) := z_e zx3986 rfl
theorem zx3987 : Cond.instanceMethod yX13_differ ∈ lw_tbl := zT15 (List.mem_of_getElem? (i := 215) rfl)
theorem zw3987 {b : Nat} {e : Nat → Value} {D : va_G} {A : Nat → ClassId} {X : State → Prop} : Cond.instanceMethod yX13_differ ∈ eW (zV b e D A X) := z_e zx3987 rfl
theorem zx3988 : Cond.selects RX13 yX13_differ yX13_differ ∈ lw_tbl := zT15 (List.mem_of_getElem? (i := 216) rfl)
theorem zw3988 {b : Nat} {e : Nat → Value} {D : va_G} {A : Nat → ClassId} {X : State → Prop} : Cond.selects RX13 yX13_differ yX13_differ ∈ eW (zV b e D A X) := z_e zx3988 rfl
theorem zx4054 : Cond.methodLink R_law 122 yX13_change ∈ lw_tbl := zT16 (List.mem_of_getElem? (i := 42) rfl)
theorem zw4054 {b : Nat} {e : Nat → Value} {D : va_G} {A : Nat → ClassId} {X : State → Prop} : Cond.methodLink R_law 122 yX13_change ∈ eW (zV b e D A X) := z_e zx4054 rfl
theorem zx4055 : Cond.instanceMethod yX13_change ∈ lw_tbl := zT16 (List.mem_of_getElem? (i := 43) rfl)
theorem zw4055 {b : Nat} {e : Nat → Value} {D : va_G} {A : Nat → ClassId} {X : State → Prop} : Cond.instanceMethod yX13_change ∈ eW (zV b e D A X) := z_e zx4055 rfl
theorem zx4056 : Cond.selects RX13 yX13_change yX13_change ∈ lw_tbl := zT16 (List.mem_of_getElem? (i := 44) rfl)
theorem zw4056 {b : Nat} {e : Nat → Value} {D : va_G} {A : Nat → ClassId} {X : State → Prop} : Cond.selects RX13 yX13_change yX13_change ∈ eW (zV b e D A X) := z_e zx4056 rfl
theorem zx4058 : Cond.methodLink R_law 126 yX13_word ∈ lw_tbl := zT16 (List.mem_of_getElem? (i := 46) rfl)
theorem zw4058 {b : Nat} {e : Nat → Value} {D : va_G} {A : Nat → ClassId} {X : State → Prop} : Cond.methodLink R_law 126 yX13_word ∈ eW (zV b e D A X) := z_e zx4058 rfl
theorem zx4059 : Cond.instanceMethod yX13_word ∈ lw_tbl := zT16 (List.mem_of_getElem? (i := 47) rfl)
theorem zw4059 {b : Nat} {e : Nat → Value} {D : va_G} {A : Nat → ClassId} {X : State → Prop} : Cond.instanceMethod yX13_word ∈ eW (zV b e D A X) := z_e zx4059 rfl
theorem zx4060 : Cond.selects RX13 yX13_word yX13_word ∈ lw_tbl := zT16 (List.mem_of_getElem? (i := 48) rfl)
theorem zw4060 {b : Nat} {e : Nat → Value} {D : va_G} {A : Nat → ClassId} {X : State → Prop} : Cond.selects RX13 yX13_word yX13_word ∈ eW (zV b e D A X) := z_e zx4060 rfl
theorem zx4068 : Cond.methodLink R_law 130 yX13_weave ∈ lw_tbl := zT16 (List.mem_of_getElem? (i := 56) rfl)
theorem zw4068 {b : Nat} {e : Nat → Value} {D : va_G} {A : Nat → ClassId} {X : State → Prop} : Cond.methodLink R_law 130 yX13_weave ∈ eW (zV b e D A X) := z_e zx4068 rfl
theorem zx4069 : Cond.instanceMethod yX13_weave ∈ lw_tbl := zT16 (List.mem_of_getElem? (i := 57) rfl)
theorem zw4069 {b : Nat} {e : Nat → Value} {D : va_G} {A : Nat → ClassId} {X : State → Prop} : Cond.instanceMethod yX13_weave ∈ eW (zV b e D A X) := z_e zx4069 rfl
theorem zx4070 : Cond.selects RX13 yX13_weave yX13_weave ∈ lw_tbl := zT16 (List.mem_of_getElem? (i := 58) rfl)
theorem zw4070 {b : Nat} {e : Nat → Value} {D : va_G} {A : Nat → ClassId} {X : State → Prop} : Cond.selects RX13 yX13_weave yX13_weave ∈ eW (zV b e D A X) := z_e zx4070 rfl

theorem dX13_klass_296 : decode cX13_klass 296 = .ok (.getfield 272, 3) := by decide +kernel
theorem dX13_klass_299 : decode cX13_klass 299 = .ok (.iload 4, 2) := by decide +kernel
theorem dX13_klass_301 : decode cX13_klass 301 = .ok (.aload_n 0, 1) := by decide +kernel
theorem dX13_klass_302 : decode cX13_klass 302 = .ok (.iload_n 3, 1) := by decide +kernel
theorem dX13_klass_303 : decode cX13_klass 303 = .ok (.invokevirtual 141, 3) := by decide +kernel
theorem dX13_klass_306 : decode cX13_klass 306 = .ok (.lastore, 1) := by decide +kernel
theorem dX13_klass_307 : decode cX13_klass 307 = .ok (.aload_n 0, 1) := by decide +kernel
theorem dX13_klass_308 : decode cX13_klass 308 = .ok (.getfield 300, 3) := by decide +kernel
theorem dX13_klass_311 : decode cX13_klass 311 = .ok (.iload 4, 2) := by decide +kernel
theorem dX13_klass_313 : decode cX13_klass 313 = .ok (.aload_n 0, 1) := by decide +kernel
theorem dX13_klass_314 : decode cX13_klass 314 = .ok (.iload_n 3, 1) := by decide +kernel
theorem dX13_klass_315 : decode cX13_klass 315 = .ok (.invokevirtual 149, 3) := by decide +kernel
theorem dX13_klass_318 : decode cX13_klass 318 = .ok (.iastore, 1) := by decide +kernel
theorem dX13_klass_319 : decode cX13_klass 319 = .ok (.aload_n 0, 1) := by decide +kernel
theorem dX13_klass_320 : decode cX13_klass 320 = .ok (.getfield 303, 3) := by decide +kernel
theorem dX13_klass_323 : decode cX13_klass 323 = .ok (.iload 4, 2) := by decide +kernel
theorem dX13_klass_325 : decode cX13_klass 325 = .ok (.aload_n 0, 1) := by decide +kernel
theorem dX13_klass_326 : decode cX13_klass 326 = .ok (.ldc_w 306, 3) := by decide +kernel
theorem dX13_klass_329 : decode cX13_klass 329 = .ok (.invokevirtual 238, 3) := by decide +kernel
theorem dX13_klass_332 : decode cX13_klass 332 = .ok (.ifCond .eq 25, 3) := by decide +kernel
theorem dX13_klass_335 : decode cX13_klass 335 = .ok (.aload_n 0, 1) := by decide +kernel
theorem dX13_klass_336 : decode cX13_klass 336 = .ok (.aload_n 0, 1) := by decide +kernel
theorem dX13_klass_337 : decode cX13_klass 337 = .ok (.getfield 308, 3) := by decide +kernel
theorem dX13_klass_340 : decode cX13_klass 340 = .ok (.aload_n 0, 1) := by decide +kernel
theorem dX13_klass_341 : decode cX13_klass 341 = .ok (.getfield 311, 3) := by decide +kernel
theorem dX13_klass_344 : decode cX13_klass 344 = .ok (.bipush 8, 2) := by decide +kernel
theorem dX13_klass_346 : decode cX13_klass 346 = .ok (.iload 4, 2) := by decide +kernel
theorem dX13_klass_348 : decode cX13_klass 348 = .ok (.imul, 1) := by decide +kernel
theorem dX13_klass_349 : decode cX13_klass 349 = .ok (.bipush 8, 2) := by decide +kernel
theorem dX13_klass_351 : decode cX13_klass 351 = .ok (.invokevirtual 294, 3) := by decide +kernel
theorem dX13_klass_354 : decode cX13_klass 354 = .ok (.goto 4, 3) := by decide +kernel
theorem dX13_klass_357 : decode cX13_klass 357 = .ok (.iconst 0, 1) := by decide +kernel
theorem dX13_klass_358 : decode cX13_klass 358 = .ok (.iastore, 1) := by decide +kernel
theorem dX13_klass_359 : decode cX13_klass 359 = .ok (.aload_n 0, 1) := by decide +kernel
theorem dX13_klass_360 : decode cX13_klass 360 = .ok (.getfield 314, 3) := by decide +kernel
theorem dX13_klass_363 : decode cX13_klass 363 = .ok (.iload 4, 2) := by decide +kernel
theorem dX13_klass_365 : decode cX13_klass 365 = .ok (.aload_n 0, 1) := by decide +kernel
theorem dX13_klass_366 : decode cX13_klass 366 = .ok (.ldc_w 317, 3) := by decide +kernel
theorem dX13_klass_369 : decode cX13_klass 369 = .ok (.invokevirtual 238, 3) := by decide +kernel
theorem dX13_klass_372 : decode cX13_klass 372 = .ok (.ifCond .eq 25, 3) := by decide +kernel
theorem dX13_klass_375 : decode cX13_klass 375 = .ok (.aload_n 0, 1) := by decide +kernel
theorem dX13_klass_376 : decode cX13_klass 376 = .ok (.aload_n 0, 1) := by decide +kernel
theorem dX13_klass_377 : decode cX13_klass 377 = .ok (.getfield 319, 3) := by decide +kernel
theorem dX13_klass_380 : decode cX13_klass 380 = .ok (.aload_n 0, 1) := by decide +kernel
theorem dX13_klass_381 : decode cX13_klass 381 = .ok (.getfield 322, 3) := by decide +kernel
theorem dX13_klass_384 : decode cX13_klass 384 = .ok (.bipush 8, 2) := by decide +kernel
theorem dX13_klass_386 : decode cX13_klass 386 = .ok (.iload 4, 2) := by decide +kernel
theorem dX13_klass_388 : decode cX13_klass 388 = .ok (.imul, 1) := by decide +kernel
theorem dX13_klass_389 : decode cX13_klass 389 = .ok (.bipush 8, 2) := by decide +kernel
theorem dX13_klass_391 : decode cX13_klass 391 = .ok (.invokevirtual 294, 3) := by decide +kernel
theorem dX13_klass_394 : decode cX13_klass 394 = .ok (.goto 4, 3) := by decide +kernel
theorem dX13_klass_397 : decode cX13_klass 397 = .ok (.iconst 0, 1) := by decide +kernel
theorem dX13_klass_398 : decode cX13_klass 398 = .ok (.iastore, 1) := by decide +kernel
theorem dX13_klass_399 : decode cX13_klass 399 = .ok (.aload_n 0, 1) := by decide +kernel
theorem dX13_klass_400 : decode cX13_klass 400 = .ok (.bipush 123, 2) := by decide +kernel
theorem dX13_klass_402 : decode cX13_klass 402 = .ok (.invokevirtual 325, 3) := by decide +kernel
theorem dX13_klass_405 : decode cX13_klass 405 = .ok (.aload_n 0, 1) := by decide +kernel
theorem dX13_klass_406 : decode cX13_klass 406 = .ok (.getfield 129, 3) := by decide +kernel
theorem dX13_klass_409 : decode cX13_klass 409 = .ok (.ifCond .ne 21, 3) := by decide +kernel
theorem dX13_klass_412 : decode cX13_klass 412 = .ok (.aload_n 0, 1) := by decide +kernel
theorem dX13_klass_413 : decode cX13_klass 413 = .ok (.bipush 125, 2) := by decide +kernel
theorem dX13_klass_415 : decode cX13_klass 415 = .ok (.invokevirtual 156, 3) := by decide +kernel
theorem dX13_klass_418 : decode cX13_klass 418 = .ok (.ifCond .ne 12, 3) := by decide +kernel
theorem dX13_klass_421 : decode cX13_klass 421 = .ok (.aload_n 0, 1) := by decide +kernel
theorem dX13_klass_422 : decode cX13_klass 422 = .ok (.iload 4, 2) := by decide +kernel
theorem dX13_klass_424 : decode cX13_klass 424 = .ok (.invokevirtual 328, 3) := by decide +kernel
theorem dX13_klass_427 : decode cX13_klass 427 = .ok (.goto (-22), 3) := by decide +kernel
theorem dX13_klass_430 : decode cX13_klass 430 = .ok (.aload_n 0, 1) := by decide +kernel
theorem dX13_klass_431 : decode cX13_klass 431 = .ok (.bipush 125, 2) := by decide +kernel
theorem dX13_klass_433 : decode cX13_klass 433 = .ok (.invokevirtual 325, 3) := by decide +kernel
theorem dX13_klass_436 : decode cX13_klass 436 = .ok (.return_, 1) := by decide +kernel
theorem dX13_list_0 : decode cX13_list 0 = .ok (.iconst 0, 1) := by decide +kernel
theorem dX13_list_1 : decode cX13_list 1 = .ok (.istore 5, 2) := by decide +kernel
theorem dX13_list_3 : decode cX13_list 3 = .ok (.iconst 1, 1) := by decide +kernel
theorem dX13_list_4 : decode cX13_list 4 = .ok (.istore 6, 2) := by decide +kernel
theorem dX13_list_6 : decode cX13_list 6 = .ok (.iload 6, 2) := by decide +kernel
theorem dX13_list_8 : decode cX13_list 8 = .ok (.ifCond .eq 91, 3) := by decide +kernel
theorem dX13_list_11 : decode cX13_list 11 = .ok (.aload_n 0, 1) := by decide +kernel
theorem dX13_list_12 : decode cX13_list 12 = .ok (.iconst 1, 1) := by decide +kernel
theorem dX13_list_13 : decode cX13_list 13 = .ok (.iload 5, 2) := by decide +kernel
theorem dX13_list_15 : decode cX13_list 15 = .ok (.iload 4, 2) := by decide +kernel
theorem dX13_list_17 : decode cX13_list 17 = .ok (.if_icmp .ne 7, 3) := by decide +kernel
theorem dX13_list_20 : decode cX13_list 20 = .ok (.iconst 1, 1) := by decide +kernel
theorem dX13_list_21 : decode cX13_list 21 = .ok (.goto 4, 3) := by decide +kernel
theorem dX13_list_24 : decode cX13_list 24 = .ok (.iconst 0, 1) := by decide +kernel
theorem dX13_list_25 : decode cX13_list 25 = .ok (.invokevirtual 252, 3) := by decide +kernel
theorem dX13_list_28 : decode cX13_list 28 = .ok (.istore 7, 2) := by decide +kernel
theorem dX13_list_30 : decode cX13_list 30 = .ok (.aload_n 0, 1) := by decide +kernel
theorem dX13_list_31 : decode cX13_list 31 = .ok (.getfield 129, 3) := by decide +kernel
theorem dX13_list_34 : decode cX13_list 34 = .ok (.ifCond .ne 30, 3) := by decide +kernel
theorem dX13_list_37 : decode cX13_list 37 = .ok (.aload_n 1, 1) := by decide +kernel
theorem dX13_list_38 : decode cX13_list 38 = .ok (.iload_n 3, 1) := by decide +kernel
theorem dX13_list_39 : decode cX13_list 39 = .ok (.iload 5, 2) := by decide +kernel
theorem dX13_list_41 : decode cX13_list 41 = .ok (.iadd, 1) := by decide +kernel
theorem dX13_list_42 : decode cX13_list 42 = .ok (.aload_n 0, 1) := by decide +kernel
theorem dX13_list_43 : decode cX13_list 43 = .ok (.iload 7, 2) := by decide +kernel
theorem dX13_list_45 : decode cX13_list 45 = .ok (.invokevirtual 141, 3) := by decide +kernel
theorem dX13_list_48 : decode cX13_list 48 = .ok (.lastore, 1) := by decide +kernel
theorem dX13_list_49 : decode cX13_list 49 = .ok (.aload_n 2, 1) := by decide +kernel
theorem dX13_list_50 : decode cX13_list 50 = .ok (.iload_n 3, 1) := by decide +kernel
theorem dX13_list_51 : decode cX13_list 51 = .ok (.iload 5, 2) := by decide +kernel
theorem dX13_list_53 : decode cX13_list 53 = .ok (.iadd, 1) := by decide +kernel
theorem dX13_list_54 : decode cX13_list 54 = .ok (.aload_n 0, 1) := by decide +kernel
theorem dX13_list_55 : decode cX13_list 55 = .ok (.iload 7, 2) := by decide +kernel
theorem dX13_list_57 : decode cX13_list 57 = .ok (.invokevirtual 149, 3) := by decide +kernel
theorem dX13_list_60 : decode cX13_list 60 = .ok (.iastore, 1) := by decide +kernel
theorem dX13_list_61 : decode cX13_list 61 = .ok (.iinc 5 1, 3) := by decide +kernel
theorem dX13_list_64 : decode cX13_list 64 = .ok (.aload_n 0, 1) := by decide +kernel
theorem dX13_list_65 : decode cX13_list 65 = .ok (.getfield 129, 3) := by decide +kernel
theorem dX13_list_68 : decode cX13_list 68 = .ok (.ifCond .ne 16, 3) := by decide +kernel
theorem dX13_list_71 : decode cX13_list 71 = .ok (.aload_n 0, 1) := by decide +kernel
theorem dX13_list_72 : decode cX13_list 72 = .ok (.bipush 44, 2) := by decide +kernel
theorem dX13_list_74 : decode cX13_list 74 = .ok (.invokevirtual 156, 3) := by decide +kernel
theorem dX13_list_77 : decode cX13_list 77 = .ok (.ifCond .eq 7, 3) := by decide +kernel
theorem dX13_list_80 : decode cX13_list 80 = .ok (.iconst 1, 1) := by decide +kernel
theorem dX13_list_81 : decode cX13_list 81 = .ok (.goto 4, 3) := by decide +kernel
theorem dX13_list_84 : decode cX13_list 84 = .ok (.iconst 0, 1) := by decide +kernel
theorem dX13_list_85 : decode cX13_list 85 = .ok (.istore 6, 2) := by decide +kernel
theorem dX13_list_87 : decode cX13_list 87 = .ok (.iload 6, 2) := by decide +kernel
theorem dX13_list_89 : decode cX13_list 89 = .ok (.ifCond .eq 7, 3) := by decide +kernel
theorem dX13_list_92 : decode cX13_list 92 = .ok (.aload_n 0, 1) := by decide +kernel
theorem dX13_list_93 : decode cX13_list 93 = .ok (.invokevirtual 159, 3) := by decide +kernel
theorem dX13_list_96 : decode cX13_list 96 = .ok (.goto (-90), 3) := by decide +kernel
theorem dX13_list_99 : decode cX13_list 99 = .ok (.iload 5, 2) := by decide +kernel
theorem dX13_list_101 : decode cX13_list 101 = .ok (.ireturn, 1) := by decide +kernel
theorem dX13_beginsMember_0 : decode cX13_beginsMember 0 = .ok (.aload_n 0, 1) := by decide +kernel
theorem dX13_beginsMember_1 : decode cX13_beginsMember 1 = .ok (.aload_n 0, 1) := by decide +kernel
theorem dX13_beginsMember_2 : decode cX13_beginsMember 2 = .ok (.getfield 135, 3) := by decide +kernel
theorem dX13_beginsMember_5 : decode cX13_beginsMember 5 = .ok (.invokevirtual 138, 3) := by decide +kernel
theorem dX13_beginsMember_8 : decode cX13_beginsMember 8 = .ok (.iconst 1, 1) := by decide +kernel
theorem dX13_beginsMember_9 : decode cX13_beginsMember 9 = .ok (.if_icmp .eq 98, 3) := by decide +kernel
theorem dX13_beginsMember_12 : decode cX13_beginsMember 12 = .ok (.aload_n 0, 1) := by decide +kernel
theorem dX13_beginsMember_13 : decode cX13_beginsMember 13 = .ok (.ldc 236, 2) := by decide +kernel
theorem dX13_beginsMember_15 : decode cX13_beginsMember 15 = .ok (.invokevirtual 166, 3) := by decide +kernel
theorem dX13_beginsMember_18 : decode cX13_beginsMember 18 = .ok (.ifCond .ne 89, 3) := by decide +kernel
theorem dX13_beginsMember_21 : decode cX13_beginsMember 21 = .ok (.aload_n 0, 1) := by decide +kernel
theorem dX13_beginsMember_22 : decode cX13_beginsMember 22 = .ok (.ldc_w 331, 3) := by decide +kernel
theorem dX13_beginsMember_25 : decode cX13_beginsMember 25 = .ok (.invokevirtual 166, 3) := by decide +kernel
theorem dX13_beginsMember_28 : decode cX13_beginsMember 28 = .ok (.ifCond .ne 79, 3) := by decide +kernel
theorem dX13_beginsMember_31 : decode cX13_beginsMember 31 = .ok (.aload_n 0, 1) := by decide +kernel
theorem dX13_beginsMember_32 : decode cX13_beginsMember 32 = .ok (.ldc_w 333, 3) := by decide +kernel
theorem dX13_beginsMember_35 : decode cX13_beginsMember 35 = .ok (.invokevirtual 166, 3) := by decide +kernel
theorem dX13_beginsMember_38 : decode cX13_beginsMember 38 = .ok (.ifCond .ne 69, 3) := by decide +kernel
theorem dX13_beginsMember_41 : decode cX13_beginsMember 41 = .ok (.aload_n 0, 1) := by decide +kernel
theorem dX13_beginsMember_42 : decode cX13_beginsMember 42 = .ok (.ldc_w 335, 3) := by decide +kernel
theorem dX13_beginsMember_45 : decode cX13_beginsMember 45 = .ok (.invokevirtual 166, 3) := by decide +kernel
theorem dX13_beginsMember_48 : decode cX13_beginsMember 48 = .ok (.ifCond .ne 59, 3) := by decide +kernel
theorem dX13_beginsMember_51 : decode cX13_beginsMember 51 = .ok (.aload_n 0, 1) := by decide +kernel
theorem dX13_beginsMember_52 : decode cX13_beginsMember 52 = .ok (.ldc 241, 2) := by decide +kernel
theorem dX13_beginsMember_54 : decode cX13_beginsMember 54 = .ok (.invokevirtual 166, 3) := by decide +kernel
theorem dX13_beginsMember_57 : decode cX13_beginsMember 57 = .ok (.ifCond .ne 50, 3) := by decide +kernel
theorem dX13_beginsMember_60 : decode cX13_beginsMember 60 = .ok (.aload_n 0, 1) := by decide +kernel
theorem dX13_beginsMember_61 : decode cX13_beginsMember 61 = .ok (.ldc 243, 2) := by decide +kernel
theorem dX13_beginsMember_63 : decode cX13_beginsMember 63 = .ok (.invokevirtual 166, 3) := by decide +kernel
theorem dX13_beginsMember_66 : decode cX13_beginsMember 66 = .ok (.ifCond .ne 41, 3) := by decide +kernel
theorem dX13_beginsMember_69 : decode cX13_beginsMember 69 = .ok (.aload_n 0, 1) := by decide +kernel
theorem dX13_beginsMember_70 : decode cX13_beginsMember 70 = .ok (.ldc 45, 2) := by decide +kernel
theorem dX13_beginsMember_72 : decode cX13_beginsMember 72 = .ok (.invokevirtual 166, 3) := by decide +kernel
theorem dX13_beginsMember_75 : decode cX13_beginsMember 75 = .ok (.ifCond .ne 32, 3) := by decide +kernel
theorem dX13_beginsMember_78 : decode cX13_beginsMember 78 = .ok (.aload_n 0, 1) := by decide +kernel
theorem dX13_beginsMember_79 : decode cX13_beginsMember 79 = .ok (.ldc 51, 2) := by decide +kernel
theorem dX13_beginsMember_81 : decode cX13_beginsMember 81 = .ok (.invokevirtual 166, 3) := by decide +kernel
theorem dX13_beginsMember_84 : decode cX13_beginsMember 84 = .ok (.ifCond .ne 23, 3) := by decide +kernel
theorem dX13_beginsMember_87 : decode cX13_beginsMember 87 = .ok (.aload_n 0, 1) := by decide +kernel
theorem dX13_beginsMember_88 : decode cX13_beginsMember 88 = .ok (.ldc_w 337, 3) := by decide +kernel
theorem dX13_beginsMember_91 : decode cX13_beginsMember 91 = .ok (.invokevirtual 166, 3) := by decide +kernel
theorem dX13_beginsMember_94 : decode cX13_beginsMember 94 = .ok (.ifCond .ne 13, 3) := by decide +kernel
theorem dX13_beginsMember_97 : decode cX13_beginsMember 97 = .ok (.aload_n 0, 1) := by decide +kernel
theorem dX13_beginsMember_98 : decode cX13_beginsMember 98 = .ok (.ldc_w 339, 3) := by decide +kernel
theorem dX13_beginsMember_101 : decode cX13_beginsMember 101 = .ok (.invokevirtual 166, 3) := by decide +kernel
theorem dX13_beginsMember_104 : decode cX13_beginsMember 104 = .ok (.ifCond .eq 7, 3) := by decide +kernel
theorem dX13_beginsMember_107 : decode cX13_beginsMember 107 = .ok (.iconst 1, 1) := by decide +kernel
theorem dX13_beginsMember_108 : decode cX13_beginsMember 108 = .ok (.goto 4, 3) := by decide +kernel
theorem dX13_beginsMember_111 : decode cX13_beginsMember 111 = .ok (.iconst 0, 1) := by decide +kernel
theorem dX13_beginsMember_112 : decode cX13_beginsMember 112 = .ok (.ireturn, 1) := by decide +kernel
theorem dX13_newMember_0 : decode cX13_newMember 0 = .ok (.aload_n 0, 1) := by decide +kernel
theorem dX13_newMember_1 : decode cX13_newMember 1 = .ok (.getfield 341, 3) := by decide +kernel
theorem dX13_newMember_4 : decode cX13_newMember 4 = .ok (.iload_n 1, 1) := by decide +kernel
theorem dX13_newMember_5 : decode cX13_newMember 5 = .ok (.iconst 0, 1) := by decide +kernel
theorem dX13_newMember_6 : decode cX13_newMember 6 = .ok (.bastore, 1) := by decide +kernel
theorem dX13_newMember_7 : decode cX13_newMember 7 = .ok (.aload_n 0, 1) := by decide +kernel
theorem dX13_newMember_8 : decode cX13_newMember 8 = .ok (.getfield 344, 3) := by decide +kernel
theorem dX13_newMember_11 : decode cX13_newMember 11 = .ok (.iload_n 1, 1) := by decide +kernel
theorem dX13_newMember_12 : decode cX13_newMember 12 = .ok (.iconst 0, 1) := by decide +kernel
theorem dX13_newMember_13 : decode cX13_newMember 13 = .ok (.bastore, 1) := by decide +kernel
theorem dX13_newMember_14 : decode cX13_newMember 14 = .ok (.aload_n 0, 1) := by decide +kernel
theorem dX13_newMember_15 : decode cX13_newMember 15 = .ok (.getfield 347, 3) := by decide +kernel
theorem dX13_newMember_18 : decode cX13_newMember 18 = .ok (.iload_n 1, 1) := by decide +kernel
theorem dX13_newMember_19 : decode cX13_newMember 19 = .ok (.iconst 0, 1) := by decide +kernel
theorem dX13_newMember_20 : decode cX13_newMember 20 = .ok (.bastore, 1) := by decide +kernel
theorem dX13_newMember_21 : decode cX13_newMember 21 = .ok (.aload_n 0, 1) := by decide +kernel
theorem dX13_newMember_22 : decode cX13_newMember 22 = .ok (.getfield 350, 3) := by decide +kernel
theorem dX13_newMember_25 : decode cX13_newMember 25 = .ok (.iload_n 1, 1) := by decide +kernel
theorem dX13_newMember_26 : decode cX13_newMember 26 = .ok (.iconst 0, 1) := by decide +kernel
theorem dX13_newMember_27 : decode cX13_newMember 27 = .ok (.bastore, 1) := by decide +kernel
theorem dX13_newMember_28 : decode cX13_newMember 28 = .ok (.aload_n 0, 1) := by decide +kernel
theorem dX13_newMember_29 : decode cX13_newMember 29 = .ok (.getfield 353, 3) := by decide +kernel
theorem dX13_newMember_32 : decode cX13_newMember 32 = .ok (.iload_n 1, 1) := by decide +kernel
theorem dX13_newMember_33 : decode cX13_newMember 33 = .ok (.iconst 0, 1) := by decide +kernel
theorem dX13_newMember_34 : decode cX13_newMember 34 = .ok (.bastore, 1) := by decide +kernel
theorem dX13_newMember_35 : decode cX13_newMember 35 = .ok (.aload_n 0, 1) := by decide +kernel
theorem dX13_newMember_36 : decode cX13_newMember 36 = .ok (.getfield 356, 3) := by decide +kernel
theorem dX13_newMember_39 : decode cX13_newMember 39 = .ok (.iload_n 1, 1) := by decide +kernel
theorem dX13_newMember_40 : decode cX13_newMember 40 = .ok (.lconst 0, 1) := by decide +kernel
theorem dX13_newMember_41 : decode cX13_newMember 41 = .ok (.lastore, 1) := by decide +kernel
theorem dX13_newMember_42 : decode cX13_newMember 42 = .ok (.aload_n 0, 1) := by decide +kernel
theorem dX13_newMember_43 : decode cX13_newMember 43 = .ok (.getfield 359, 3) := by decide +kernel
theorem dX13_newMember_46 : decode cX13_newMember 46 = .ok (.iload_n 1, 1) := by decide +kernel
theorem dX13_newMember_47 : decode cX13_newMember 47 = .ok (.lconst 1, 1) := by decide +kernel
theorem dX13_newMember_48 : decode cX13_newMember 48 = .ok (.lastore, 1) := by decide +kernel
theorem dX13_newMember_49 : decode cX13_newMember 49 = .ok (.aload_n 0, 1) := by decide +kernel
theorem dX13_newMember_50 : decode cX13_newMember 50 = .ok (.getfield 362, 3) := by decide +kernel
theorem dX13_newMember_53 : decode cX13_newMember 53 = .ok (.iload_n 1, 1) := by decide +kernel
theorem dX13_newMember_54 : decode cX13_newMember 54 = .ok (.iconst 0, 1) := by decide +kernel
theorem dX13_newMember_55 : decode cX13_newMember 55 = .ok (.iastore, 1) := by decide +kernel
theorem dX13_newMember_56 : decode cX13_newMember 56 = .ok (.aload_n 0, 1) := by decide +kernel
theorem dX13_newMember_57 : decode cX13_newMember 57 = .ok (.getfield 365, 3) := by decide +kernel
theorem dX13_newMember_60 : decode cX13_newMember 60 = .ok (.iload_n 1, 1) := by decide +kernel
theorem dX13_newMember_61 : decode cX13_newMember 61 = .ok (.bipush (-2), 2) := by decide +kernel
theorem dX13_newMember_63 : decode cX13_newMember 63 = .ok (.iastore, 1) := by decide +kernel
theorem dX13_newMember_64 : decode cX13_newMember 64 = .ok (.aload_n 0, 1) := by decide +kernel
theorem dX13_newMember_65 : decode cX13_newMember 65 = .ok (.getfield 368, 3) := by decide +kernel
theorem dX13_newMember_68 : decode cX13_newMember 68 = .ok (.iload_n 1, 1) := by decide +kernel
theorem dX13_newMember_69 : decode cX13_newMember 69 = .ok (.bipush (-2), 2) := by decide +kernel
theorem dX13_newMember_71 : decode cX13_newMember 71 = .ok (.iastore, 1) := by decide +kernel
theorem dX13_newMember_72 : decode cX13_newMember 72 = .ok (.aload_n 0, 1) := by decide +kernel
theorem dX13_newMember_73 : decode cX13_newMember 73 = .ok (.getfield 371, 3) := by decide +kernel
theorem dX13_newMember_76 : decode cX13_newMember 76 = .ok (.iload_n 1, 1) := by decide +kernel
theorem dX13_newMember_77 : decode cX13_newMember 77 = .ok (.iconst 0, 1) := by decide +kernel
theorem dX13_newMember_78 : decode cX13_newMember 78 = .ok (.iastore, 1) := by decide +kernel
theorem dX13_newMember_79 : decode cX13_newMember 79 = .ok (.aload_n 0, 1) := by decide +kernel
theorem dX13_newMember_80 : decode cX13_newMember 80 = .ok (.getfield 374, 3) := by decide +kernel
theorem dX13_newMember_83 : decode cX13_newMember 83 = .ok (.iload_n 1, 1) := by decide +kernel
theorem dX13_newMember_84 : decode cX13_newMember 84 = .ok (.iconst 0, 1) := by decide +kernel
theorem dX13_newMember_85 : decode cX13_newMember 85 = .ok (.iastore, 1) := by decide +kernel
theorem dX13_newMember_86 : decode cX13_newMember 86 = .ok (.aload_n 0, 1) := by decide +kernel
theorem dX13_newMember_87 : decode cX13_newMember 87 = .ok (.getfield 377, 3) := by decide +kernel
theorem dX13_newMember_90 : decode cX13_newMember 90 = .ok (.iload_n 1, 1) := by decide +kernel
theorem dX13_newMember_91 : decode cX13_newMember 91 = .ok (.iconst 0, 1) := by decide +kernel
theorem dX13_newMember_92 : decode cX13_newMember 92 = .ok (.bastore, 1) := by decide +kernel
theorem dX13_newMember_93 : decode cX13_newMember 93 = .ok (.aload_n 0, 1) := by decide +kernel
theorem dX13_newMember_94 : decode cX13_newMember 94 = .ok (.getfield 380, 3) := by decide +kernel
theorem dX13_newMember_97 : decode cX13_newMember 97 = .ok (.iload_n 1, 1) := by decide +kernel
theorem dX13_newMember_98 : decode cX13_newMember 98 = .ok (.iconst 0, 1) := by decide +kernel
theorem dX13_newMember_99 : decode cX13_newMember 99 = .ok (.iastore, 1) := by decide +kernel
theorem dX13_newMember_100 : decode cX13_newMember 100 = .ok (.aload_n 0, 1) := by decide +kernel
theorem dX13_newMember_101 : decode cX13_newMember 101 = .ok (.getfield 383, 3) := by decide +kernel
theorem dX13_newMember_104 : decode cX13_newMember 104 = .ok (.iload_n 1, 1) := by decide +kernel
theorem dX13_newMember_105 : decode cX13_newMember 105 = .ok (.lconst 0, 1) := by decide +kernel
theorem dX13_newMember_106 : decode cX13_newMember 106 = .ok (.lastore, 1) := by decide +kernel
theorem dX13_newMember_107 : decode cX13_newMember 107 = .ok (.aload_n 0, 1) := by decide +kernel
theorem dX13_newMember_108 : decode cX13_newMember 108 = .ok (.getfield 386, 3) := by decide +kernel
theorem dX13_newMember_111 : decode cX13_newMember 111 = .ok (.iload_n 1, 1) := by decide +kernel
theorem dX13_newMember_112 : decode cX13_newMember 112 = .ok (.bipush (-2), 2) := by decide +kernel
theorem dX13_newMember_114 : decode cX13_newMember 114 = .ok (.iastore, 1) := by decide +kernel
theorem dX13_newMember_115 : decode cX13_newMember 115 = .ok (.aload_n 0, 1) := by decide +kernel
theorem dX13_newMember_116 : decode cX13_newMember 116 = .ok (.getfield 389, 3) := by decide +kernel
theorem dX13_newMember_119 : decode cX13_newMember 119 = .ok (.iload_n 1, 1) := by decide +kernel
theorem dX13_newMember_120 : decode cX13_newMember 120 = .ok (.iconst 0, 1) := by decide +kernel
theorem dX13_newMember_121 : decode cX13_newMember 121 = .ok (.iastore, 1) := by decide +kernel
theorem dX13_newMember_122 : decode cX13_newMember 122 = .ok (.return_, 1) := by decide +kernel
theorem dX13_member_0 : decode cX13_member 0 = .ok (.aload_n 0, 1) := by decide +kernel
theorem dX13_member_1 : decode cX13_member 1 = .ok (.invokevirtual 392, 3) := by decide +kernel
theorem dX13_member_4 : decode cX13_member 4 = .ok (.ifCond .ne 8, 3) := by decide +kernel
theorem dX13_member_7 : decode cX13_member 7 = .ok (.aload_n 0, 1) := by decide +kernel
theorem dX13_member_8 : decode cX13_member 8 = .ok (.invokevirtual 163, 3) := by decide +kernel
theorem dX13_member_11 : decode cX13_member 11 = .ok (.return_, 1) := by decide +kernel
theorem dX13_member_12 : decode cX13_member 12 = .ok (.aload_n 0, 1) := by decide +kernel
theorem dX13_member_13 : decode cX13_member 13 = .ok (.getfield 275, 3) := by decide +kernel
theorem dX13_member_16 : decode cX13_member 16 = .ok (.iload_n 1, 1) := by decide +kernel
theorem dX13_member_17 : decode cX13_member 17 = .ok (.iaload, 1) := by decide +kernel
theorem dX13_member_18 : decode cX13_member 18 = .ok (.bipush 20, 2) := by decide +kernel
theorem dX13_member_20 : decode cX13_member 20 = .ok (.if_icmp .ne 17, 3) := by decide +kernel
theorem dX13_member_23 : decode cX13_member 23 = .ok (.aload_n 0, 1) := by decide +kernel
theorem dX13_member_24 : decode cX13_member 24 = .ok (.iconst 3, 1) := by decide +kernel
theorem dX13_member_25 : decode cX13_member 25 = .ok (.aload_n 0, 1) := by decide +kernel
theorem dX13_member_26 : decode cX13_member 26 = .ok (.aload_n 0, 1) := by decide +kernel
theorem dX13_member_27 : decode cX13_member 27 = .ok (.getfield 135, 3) := by decide +kernel
theorem dX13_member_30 : decode cX13_member 30 = .ok (.invokevirtual 149, 3) := by decide +kernel
theorem dX13_member_33 : decode cX13_member 33 = .ok (.invokevirtual 152, 3) := by decide +kernel
theorem dX13_member_36 : decode cX13_member 36 = .ok (.return_, 1) := by decide +kernel
theorem dX13_member_37 : decode cX13_member 37 = .ok (.iload_n 1, 1) := by decide +kernel
theorem dX13_member_38 : decode cX13_member 38 = .ok (.bipush 34, 2) := by decide +kernel
theorem dX13_member_40 : decode cX13_member 40 = .ok (.imul, 1) := by decide +kernel
theorem dX13_member_41 : decode cX13_member 41 = .ok (.aload_n 0, 1) := by decide +kernel
theorem dX13_member_42 : decode cX13_member 42 = .ok (.getfield 275, 3) := by decide +kernel
theorem dX13_member_45 : decode cX13_member 45 = .ok (.iload_n 1, 1) := by decide +kernel
theorem dX13_member_46 : decode cX13_member 46 = .ok (.iaload, 1) := by decide +kernel
theorem dX13_member_47 : decode cX13_member 47 = .ok (.iadd, 1) := by decide +kernel
theorem dX13_member_48 : decode cX13_member 48 = .ok (.istore_n 2, 1) := by decide +kernel
theorem dX13_member_49 : decode cX13_member 49 = .ok (.aload_n 0, 1) := by decide +kernel
theorem dX13_member_50 : decode cX13_member 50 = .ok (.iload_n 2, 1) := by decide +kernel
theorem dX13_member_51 : decode cX13_member 51 = .ok (.invokevirtual 396, 3) := by decide +kernel
theorem dX13_member_54 : decode cX13_member 54 = .ok (.aload_n 0, 1) := by decide +kernel
theorem dX13_member_55 : decode cX13_member 55 = .ok (.getfield 399, 3) := by decide +kernel
theorem dX13_member_58 : decode cX13_member 58 = .ok (.iload_n 2, 1) := by decide +kernel
theorem dX13_member_59 : decode cX13_member 59 = .ok (.aload_n 0, 1) := by decide +kernel
theorem dX13_member_60 : decode cX13_member 60 = .ok (.ldc 236, 2) := by decide +kernel
theorem dX13_member_62 : decode cX13_member 62 = .ok (.invokevirtual 238, 3) := by decide +kernel
theorem dX13_member_65 : decode cX13_member 65 = .ok (.ifCond .eq 7, 3) := by decide +kernel
theorem dX13_member_68 : decode cX13_member 68 = .ok (.iconst 1, 1) := by decide +kernel
theorem dX13_member_69 : decode cX13_member 69 = .ok (.goto 32, 3) := by decide +kernel
theorem dX13_member_72 : decode cX13_member 72 = .ok (.aload_n 0, 1) := by decide +kernel
theorem dX13_member_73 : decode cX13_member 73 = .ok (.ldc_w 331, 3) := by decide +kernel
theorem dX13_member_76 : decode cX13_member 76 = .ok (.invokevirtual 238, 3) := by decide +kernel
theorem dX13_member_79 : decode cX13_member 79 = .ok (.ifCond .eq 7, 3) := by decide +kernel
theorem dX13_member_82 : decode cX13_member 82 = .ok (.iconst 2, 1) := by decide +kernel
theorem dX13_member_83 : decode cX13_member 83 = .ok (.goto 18, 3) := by decide +kernel
theorem dX13_member_86 : decode cX13_member 86 = .ok (.aload_n 0, 1) := by decide +kernel
theorem dX13_member_87 : decode cX13_member 87 = .ok (.ldc_w 333, 3) := by decide +kernel
theorem dX13_member_90 : decode cX13_member 90 = .ok (.invokevirtual 238, 3) := by decide +kernel
theorem dX13_member_93 : decode cX13_member 93 = .ok (.ifCond .eq 7, 3) := by decide +kernel
theorem dX13_member_96 : decode cX13_member 96 = .ok (.iconst 3, 1) := by decide +kernel
theorem dX13_member_97 : decode cX13_member 97 = .ok (.goto 4, 3) := by decide +kernel
theorem dX13_member_100 : decode cX13_member 100 = .ok (.iconst 0, 1) := by decide +kernel
theorem dX13_member_101 : decode cX13_member 101 = .ok (.iastore, 1) := by decide +kernel
theorem dX13_member_102 : decode cX13_member 102 = .ok (.aload_n 0, 1) := by decide +kernel
theorem dX13_member_103 : decode cX13_member 103 = .ok (.getfield 129, 3) := by decide +kernel
theorem dX13_member_106 : decode cX13_member 106 = .ok (.ifCond .ne 94, 3) := by decide +kernel
theorem dX13_member_109 : decode cX13_member 109 = .ok (.aload_n 0, 1) := by decide +kernel
theorem dX13_member_110 : decode cX13_member 110 = .ok (.ldc_w 337, 3) := by decide +kernel
theorem dX13_member_113 : decode cX13_member 113 = .ok (.invokevirtual 166, 3) := by decide +kernel
theorem dX13_member_116 : decode cX13_member 116 = .ok (.ifCond .ne 22, 3) := by decide +kernel
theorem dX13_member_119 : decode cX13_member 119 = .ok (.aload_n 0, 1) := by decide +kernel
theorem dX13_member_120 : decode cX13_member 120 = .ok (.getfield 399, 3) := by decide +kernel
theorem dX13_member_123 : decode cX13_member 123 = .ok (.iload_n 2, 1) := by decide +kernel
theorem dX13_member_124 : decode cX13_member 124 = .ok (.iaload, 1) := by decide +kernel
theorem dX13_member_125 : decode cX13_member 125 = .ok (.ifCond .ne 75, 3) := by decide +kernel
theorem dX13_member_128 : decode cX13_member 128 = .ok (.aload_n 0, 1) := by decide +kernel
theorem dX13_member_129 : decode cX13_member 129 = .ok (.ldc_w 339, 3) := by decide +kernel
theorem dX13_member_132 : decode cX13_member 132 = .ok (.invokevirtual 166, 3) := by decide +kernel
theorem dX13_member_135 : decode cX13_member 135 = .ok (.ifCond .eq 65, 3) := by decide +kernel
theorem dX13_member_138 : decode cX13_member 138 = .ok (.aload_n 0, 1) := by decide +kernel
theorem dX13_member_139 : decode cX13_member 139 = .ok (.getfield 402, 3) := by decide +kernel
theorem dX13_member_142 : decode cX13_member 142 = .ok (.iload_n 2, 1) := by decide +kernel
theorem dX13_member_143 : decode cX13_member 143 = .ok (.aload_n 0, 1) := by decide +kernel
theorem dX13_member_144 : decode cX13_member 144 = .ok (.ldc_w 337, 3) := by decide +kernel
theorem dX13_member_147 : decode cX13_member 147 = .ok (.invokevirtual 166, 3) := by decide +kernel
theorem dX13_member_150 : decode cX13_member 150 = .ok (.ifCond .eq 7, 3) := by decide +kernel
theorem dX13_member_153 : decode cX13_member 153 = .ok (.iconst 2, 1) := by decide +kernel
theorem dX13_member_154 : decode cX13_member 154 = .ok (.goto 4, 3) := by decide +kernel
theorem dX13_member_157 : decode cX13_member 157 = .ok (.iconst 3, 1) := by decide +kernel
theorem dX13_member_158 : decode cX13_member 158 = .ok (.iastore, 1) := by decide +kernel
theorem dX13_member_159 : decode cX13_member 159 = .ok (.aload_n 0, 1) := by decide +kernel
theorem dX13_member_160 : decode cX13_member 160 = .ok (.getfield 405, 3) := by decide +kernel
theorem dX13_member_163 : decode cX13_member 163 = .ok (.iload_n 2, 1) := by decide +kernel
theorem dX13_member_164 : decode cX13_member 164 = .ok (.aload_n 0, 1) := by decide +kernel
theorem dX13_member_165 : decode cX13_member 165 = .ok (.aload_n 0, 1) := by decide +kernel
theorem dX13_member_166 : decode cX13_member 166 = .ok (.getfield 135, 3) := by decide +kernel
theorem dX13_member_169 : decode cX13_member 169 = .ok (.invokevirtual 149, 3) := by decide +kernel
theorem dX13_member_172 : decode cX13_member 172 = .ok (.iastore, 1) := by decide +kernel
theorem dX13_member_173 : decode cX13_member 173 = .ok (.aload_n 0, 1) := by decide +kernel
theorem dX13_member_174 : decode cX13_member 174 = .ok (.invokevirtual 159, 3) := by decide +kernel
theorem dX13_member_177 : decode cX13_member 177 = .ok (.aload_n 0, 1) := by decide +kernel
theorem dX13_member_178 : decode cX13_member 178 = .ok (.getfield 402, 3) := by decide +kernel
theorem dX13_member_181 : decode cX13_member 181 = .ok (.iload_n 2, 1) := by decide +kernel
theorem dX13_member_182 : decode cX13_member 182 = .ok (.iaload, 1) := by decide +kernel
theorem dX13_member_183 : decode cX13_member 183 = .ok (.iconst 2, 1) := by decide +kernel
theorem dX13_member_184 : decode cX13_member 184 = .ok (.if_icmp .ne 8, 3) := by decide +kernel
theorem dX13_member_187 : decode cX13_member 187 = .ok (.aload_n 0, 1) := by decide +kernel
theorem dX13_member_188 : decode cX13_member 188 = .ok (.iload_n 2, 1) := by decide +kernel
theorem dX13_member_189 : decode cX13_member 189 = .ok (.invokevirtual 408, 3) := by decide +kernel
theorem dX13_member_192 : decode cX13_member 192 = .ok (.aload_n 0, 1) := by decide +kernel
theorem dX13_member_193 : decode cX13_member 193 = .ok (.iload_n 2, 1) := by decide +kernel
theorem dX13_member_194 : decode cX13_member 194 = .ok (.invokevirtual 411, 3) := by decide +kernel
theorem dX13_member_197 : decode cX13_member 197 = .ok (.goto 8, 3) := by decide +kernel
theorem dX13_member_200 : decode cX13_member 200 = .ok (.aload_n 0, 1) := by decide +kernel
theorem dX13_member_201 : decode cX13_member 201 = .ok (.iload_n 2, 1) := by decide +kernel
theorem dX13_member_202 : decode cX13_member 202 = .ok (.invokevirtual 414, 3) := by decide +kernel
theorem dX13_member_205 : decode cX13_member 205 = .ok (.aload_n 0, 1) := by decide +kernel
theorem dX13_member_206 : decode cX13_member 206 = .ok (.getfield 129, 3) := by decide +kernel
theorem dX13_member_209 : decode cX13_member 209 = .ok (.ifCond .ne 19, 3) := by decide +kernel
theorem dX13_member_212 : decode cX13_member 212 = .ok (.aload_n 0, 1) := by decide +kernel
theorem dX13_member_213 : decode cX13_member 213 = .ok (.iload_n 1, 1) := by decide +kernel
theorem dX13_member_214 : decode cX13_member 214 = .ok (.iload_n 2, 1) := by decide +kernel
theorem dX13_member_215 : decode cX13_member 215 = .ok (.invokevirtual 417, 3) := by decide +kernel
theorem dX13_member_218 : decode cX13_member 218 = .ok (.aload_n 0, 1) := by decide +kernel
theorem dX13_member_219 : decode cX13_member 219 = .ok (.getfield 275, 3) := by decide +kernel
theorem dX13_member_222 : decode cX13_member 222 = .ok (.iload_n 1, 1) := by decide +kernel
theorem dX13_member_223 : decode cX13_member 223 = .ok (.dup2, 1) := by decide +kernel
theorem dX13_member_224 : decode cX13_member 224 = .ok (.iaload, 1) := by decide +kernel
theorem dX13_member_225 : decode cX13_member 225 = .ok (.iconst 1, 1) := by decide +kernel
theorem dX13_member_226 : decode cX13_member 226 = .ok (.iadd, 1) := by decide +kernel
theorem dX13_member_227 : decode cX13_member 227 = .ok (.iastore, 1) := by decide +kernel
theorem dX13_member_228 : decode cX13_member 228 = .ok (.return_, 1) := by decide +kernel
theorem dX13_fieldOrMethod_0 : decode cX13_fieldOrMethod 0 = .ok (.aload_n 0, 1) := by decide +kernel
theorem dX13_fieldOrMethod_1 : decode cX13_fieldOrMethod 1 = .ok (.getfield 341, 3) := by decide +kernel
theorem dX13_fieldOrMethod_4 : decode cX13_fieldOrMethod 4 = .ok (.iload_n 1, 1) := by decide +kernel
theorem dX13_fieldOrMethod_5 : decode cX13_fieldOrMethod 5 = .ok (.aload_n 0, 1) := by decide +kernel
theorem dX13_fieldOrMethod_6 : decode cX13_fieldOrMethod 6 = .ok (.ldc_w 335, 3) := by decide +kernel
theorem dX13_fieldOrMethod_9 : decode cX13_fieldOrMethod 9 = .ok (.invokevirtual 238, 3) := by decide +kernel
theorem dX13_fieldOrMethod_12 : decode cX13_fieldOrMethod 12 = .ok (.bastore, 1) := by decide +kernel
theorem dX13_fieldOrMethod_13 : decode cX13_fieldOrMethod 13 = .ok (.aload_n 0, 1) := by decide +kernel
theorem dX13_fieldOrMethod_14 : decode cX13_fieldOrMethod 14 = .ok (.getfield 344, 3) := by decide +kernel
theorem dX13_fieldOrMethod_17 : decode cX13_fieldOrMethod 17 = .ok (.iload_n 1, 1) := by decide +kernel
theorem dX13_fieldOrMethod_18 : decode cX13_fieldOrMethod 18 = .ok (.aload_n 0, 1) := by decide +kernel
theorem dX13_fieldOrMethod_19 : decode cX13_fieldOrMethod 19 = .ok (.ldc 241, 2) := by decide +kernel
theorem dX13_fieldOrMethod_21 : decode cX13_fieldOrMethod 21 = .ok (.invokevirtual 238, 3) := by decide +kernel
theorem dX13_fieldOrMethod_24 : decode cX13_fieldOrMethod 24 = .ok (.bastore, 1) := by decide +kernel
theorem dX13_fieldOrMethod_25 : decode cX13_fieldOrMethod 25 = .ok (.aload_n 0, 1) := by decide +kernel
theorem dX13_fieldOrMethod_26 : decode cX13_fieldOrMethod 26 = .ok (.getfield 347, 3) := by decide +kernel
theorem dX13_fieldOrMethod_29 : decode cX13_fieldOrMethod 29 = .ok (.iload_n 1, 1) := by decide +kernel
theorem dX13_fieldOrMethod_30 : decode cX13_fieldOrMethod 30 = .ok (.aload_n 0, 1) := by decide +kernel
theorem dX13_fieldOrMethod_31 : decode cX13_fieldOrMethod 31 = .ok (.getfield 344, 3) := by decide +kernel
theorem dX13_fieldOrMethod_34 : decode cX13_fieldOrMethod 34 = .ok (.iload_n 1, 1) := by decide +kernel
theorem dX13_fieldOrMethod_35 : decode cX13_fieldOrMethod 35 = .ok (.baload, 1) := by decide +kernel
theorem dX13_fieldOrMethod_36 : decode cX13_fieldOrMethod 36 = .ok (.ifCond .ne 16, 3) := by decide +kernel
theorem dX13_fieldOrMethod_39 : decode cX13_fieldOrMethod 39 = .ok (.aload_n 0, 1) := by decide +kernel
theorem dX13_fieldOrMethod_40 : decode cX13_fieldOrMethod 40 = .ok (.ldc 243, 2) := by decide +kernel
theorem dX13_fieldOrMethod_42 : decode cX13_fieldOrMethod 42 = .ok (.invokevirtual 238, 3) := by decide +kernel
theorem dX13_fieldOrMethod_45 : decode cX13_fieldOrMethod 45 = .ok (.ifCond .eq 7, 3) := by decide +kernel
theorem dX13_fieldOrMethod_48 : decode cX13_fieldOrMethod 48 = .ok (.iconst 1, 1) := by decide +kernel
theorem dX13_fieldOrMethod_49 : decode cX13_fieldOrMethod 49 = .ok (.goto 4, 3) := by decide +kernel
theorem dX13_fieldOrMethod_52 : decode cX13_fieldOrMethod 52 = .ok (.iconst 0, 1) := by decide +kernel
theorem dX13_fieldOrMethod_53 : decode cX13_fieldOrMethod 53 = .ok (.bastore, 1) := by decide +kernel
theorem dX13_fieldOrMethod_54 : decode cX13_fieldOrMethod 54 = .ok (.aload_n 0, 1) := by decide +kernel
theorem dX13_fieldOrMethod_55 : decode cX13_fieldOrMethod 55 = .ok (.getfield 129, 3) := by decide +kernel
theorem dX13_fieldOrMethod_58 : decode cX13_fieldOrMethod 58 = .ok (.ifCond .ne 16, 3) := by decide +kernel
theorem dX13_fieldOrMethod_61 : decode cX13_fieldOrMethod 61 = .ok (.aload_n 0, 1) := by decide +kernel
theorem dX13_fieldOrMethod_62 : decode cX13_fieldOrMethod 62 = .ok (.ldc 51, 2) := by decide +kernel
theorem dX13_fieldOrMethod_64 : decode cX13_fieldOrMethod 64 = .ok (.invokevirtual 166, 3) := by decide +kernel
theorem dX13_fieldOrMethod_67 : decode cX13_fieldOrMethod 67 = .ok (.ifCond .eq 7, 3) := by decide +kernel
theorem dX13_fieldOrMethod_70 : decode cX13_fieldOrMethod 70 = .ok (.iconst 1, 1) := by decide +kernel
theorem dX13_fieldOrMethod_71 : decode cX13_fieldOrMethod 71 = .ok (.goto 4, 3) := by decide +kernel
theorem dX13_fieldOrMethod_74 : decode cX13_fieldOrMethod 74 = .ok (.iconst 0, 1) := by decide +kernel
theorem dX13_fieldOrMethod_75 : decode cX13_fieldOrMethod 75 = .ok (.istore_n 2, 1) := by decide +kernel
theorem dX13_fieldOrMethod_76 : decode cX13_fieldOrMethod 76 = .ok (.aload_n 0, 1) := by decide +kernel
theorem dX13_fieldOrMethod_77 : decode cX13_fieldOrMethod 77 = .ok (.getfield 420, 3) := by decide +kernel
theorem dX13_fieldOrMethod_80 : decode cX13_fieldOrMethod 80 = .ok (.iload_n 1, 1) := by decide +kernel
theorem dX13_fieldOrMethod_81 : decode cX13_fieldOrMethod 81 = .ok (.aload_n 0, 1) := by decide +kernel
theorem dX13_fieldOrMethod_82 : decode cX13_fieldOrMethod 82 = .ok (.aload_n 0, 1) := by decide +kernel
theorem dX13_fieldOrMethod_83 : decode cX13_fieldOrMethod 83 = .ok (.getfield 135, 3) := by decide +kernel
theorem dX13_fieldOrMethod_86 : decode cX13_fieldOrMethod 86 = .ok (.invokevirtual 149, 3) := by decide +kernel
theorem dX13_fieldOrMethod_89 : decode cX13_fieldOrMethod 89 = .ok (.iastore, 1) := by decide +kernel
theorem dX13_fieldOrMethod_90 : decode cX13_fieldOrMethod 90 = .ok (.iload_n 2, 1) := by decide +kernel
theorem dX13_fieldOrMethod_91 : decode cX13_fieldOrMethod 91 = .ok (.ifCond .eq 10, 3) := by decide +kernel
theorem dX13_fieldOrMethod_94 : decode cX13_fieldOrMethod 94 = .ok (.aload_n 0, 1) := by decide +kernel
theorem dX13_fieldOrMethod_95 : decode cX13_fieldOrMethod 95 = .ok (.invokevirtual 159, 3) := by decide +kernel
theorem dX13_fieldOrMethod_98 : decode cX13_fieldOrMethod 98 = .ok (.goto 13, 3) := by decide +kernel
theorem dX13_fieldOrMethod_101 : decode cX13_fieldOrMethod 101 = .ok (.aload_n 0, 1) := by decide +kernel
theorem dX13_fieldOrMethod_102 : decode cX13_fieldOrMethod 102 = .ok (.getfield 359, 3) := by decide +kernel
theorem dX13_fieldOrMethod_105 : decode cX13_fieldOrMethod 105 = .ok (.iload_n 1, 1) := by decide +kernel
theorem dX13_fieldOrMethod_106 : decode cX13_fieldOrMethod 106 = .ok (.aload_n 0, 1) := by decide +kernel
theorem dX13_fieldOrMethod_107 : decode cX13_fieldOrMethod 107 = .ok (.invokevirtual 423, 3) := by decide +kernel
theorem dX13_fieldOrMethod_110 : decode cX13_fieldOrMethod 110 = .ok (.lastore, 1) := by decide +kernel
theorem dX13_fieldOrMethod_111 : decode cX13_fieldOrMethod 111 = .ok (.aload_n 0, 1) := by decide +kernel
theorem dX13_fieldOrMethod_112 : decode cX13_fieldOrMethod 112 = .ok (.iconst 2, 1) := by decide +kernel
theorem dX13_fieldOrMethod_113 : decode cX13_fieldOrMethod 113 = .ok (.iconst 0, 1) := by decide +kernel
theorem dX13_fieldOrMethod_114 : decode cX13_fieldOrMethod 114 = .ok (.invokevirtual 252, 3) := by decide +kernel
theorem dX13_fieldOrMethod_117 : decode cX13_fieldOrMethod 117 = .ok (.istore_n 3, 1) := by decide +kernel
theorem dX13_fieldOrMethod_118 : decode cX13_fieldOrMethod 118 = .ok (.aload_n 0, 1) := by decide +kernel
theorem dX13_fieldOrMethod_119 : decode cX13_fieldOrMethod 119 = .ok (.getfield 356, 3) := by decide +kernel
theorem dX13_fieldOrMethod_122 : decode cX13_fieldOrMethod 122 = .ok (.iload_n 1, 1) := by decide +kernel
theorem dX13_fieldOrMethod_123 : decode cX13_fieldOrMethod 123 = .ok (.aload_n 0, 1) := by decide +kernel
theorem dX13_fieldOrMethod_124 : decode cX13_fieldOrMethod 124 = .ok (.iload_n 3, 1) := by decide +kernel
theorem dX13_fieldOrMethod_125 : decode cX13_fieldOrMethod 125 = .ok (.invokevirtual 141, 3) := by decide +kernel
theorem dX13_fieldOrMethod_128 : decode cX13_fieldOrMethod 128 = .ok (.lastore, 1) := by decide +kernel
theorem dX13_fieldOrMethod_129 : decode cX13_fieldOrMethod 129 = .ok (.aload_n 0, 1) := by decide +kernel
theorem dX13_fieldOrMethod_130 : decode cX13_fieldOrMethod 130 = .ok (.getfield 405, 3) := by decide +kernel
theorem dX13_fieldOrMethod_133 : decode cX13_fieldOrMethod 133 = .ok (.iload_n 1, 1) := by decide +kernel
theorem dX13_fieldOrMethod_134 : decode cX13_fieldOrMethod 134 = .ok (.aload_n 0, 1) := by decide +kernel
theorem dX13_fieldOrMethod_135 : decode cX13_fieldOrMethod 135 = .ok (.iload_n 3, 1) := by decide +kernel
theorem dX13_fieldOrMethod_136 : decode cX13_fieldOrMethod 136 = .ok (.invokevirtual 149, 3) := by decide +kernel
theorem dX13_fieldOrMethod_139 : decode cX13_fieldOrMethod 139 = .ok (.iastore, 1) := by decide +kernel
theorem dX13_fieldOrMethod_140 : decode cX13_fieldOrMethod 140 = .ok (.aload_n 0, 1) := by decide +kernel
theorem dX13_fieldOrMethod_141 : decode cX13_fieldOrMethod 141 = .ok (.getfield 129, 3) := by decide +kernel
theorem dX13_fieldOrMethod_144 : decode cX13_fieldOrMethod 144 = .ok (.ifCond .ne 59, 3) := by decide +kernel
theorem dX13_fieldOrMethod_147 : decode cX13_fieldOrMethod 147 = .ok (.iload_n 2, 1) := by decide +kernel
theorem dX13_fieldOrMethod_148 : decode cX13_fieldOrMethod 148 = .ok (.ifCond .ne 12, 3) := by decide +kernel
theorem dX13_fieldOrMethod_151 : decode cX13_fieldOrMethod 151 = .ok (.aload_n 0, 1) := by decide +kernel
theorem dX13_fieldOrMethod_152 : decode cX13_fieldOrMethod 152 = .ok (.bipush 40, 2) := by decide +kernel
theorem dX13_fieldOrMethod_154 : decode cX13_fieldOrMethod 154 = .ok (.invokevirtual 156, 3) := by decide +kernel
theorem dX13_fieldOrMethod_157 : decode cX13_fieldOrMethod 157 = .ok (.ifCond .eq 46, 3) := by decide +kernel
theorem dX13_fieldOrMethod_160 : decode cX13_fieldOrMethod 160 = .ok (.aload_n 0, 1) := by decide +kernel
theorem dX13_fieldOrMethod_161 : decode cX13_fieldOrMethod 161 = .ok (.getfield 402, 3) := by decide +kernel
theorem dX13_fieldOrMethod_164 : decode cX13_fieldOrMethod 164 = .ok (.iload_n 1, 1) := by decide +kernel
theorem dX13_fieldOrMethod_165 : decode cX13_fieldOrMethod 165 = .ok (.iconst 1, 1) := by decide +kernel
theorem dX13_fieldOrMethod_166 : decode cX13_fieldOrMethod 166 = .ok (.iastore, 1) := by decide +kernel
theorem dX13_fieldOrMethod_167 : decode cX13_fieldOrMethod 167 = .ok (.aload_n 0, 1) := by decide +kernel
theorem dX13_fieldOrMethod_168 : decode cX13_fieldOrMethod 168 = .ok (.iload_n 1, 1) := by decide +kernel
theorem dX13_fieldOrMethod_169 : decode cX13_fieldOrMethod 169 = .ok (.invokevirtual 408, 3) := by decide +kernel
theorem dX13_fieldOrMethod_172 : decode cX13_fieldOrMethod 172 = .ok (.aload_n 0, 1) := by decide +kernel
theorem dX13_fieldOrMethod_173 : decode cX13_fieldOrMethod 173 = .ok (.getfield 129, 3) := by decide +kernel
theorem dX13_fieldOrMethod_176 : decode cX13_fieldOrMethod 176 = .ok (.ifCond .ne 19, 3) := by decide +kernel
theorem dX13_fieldOrMethod_179 : decode cX13_fieldOrMethod 179 = .ok (.aload_n 0, 1) := by decide +kernel
theorem dX13_fieldOrMethod_180 : decode cX13_fieldOrMethod 180 = .ok (.bipush 59, 2) := by decide +kernel
theorem dX13_fieldOrMethod_182 : decode cX13_fieldOrMethod 182 = .ok (.invokevirtual 156, 3) := by decide +kernel
theorem dX13_fieldOrMethod_185 : decode cX13_fieldOrMethod 185 = .ok (.ifCond .eq 10, 3) := by decide +kernel
theorem dX13_fieldOrMethod_188 : decode cX13_fieldOrMethod 188 = .ok (.aload_n 0, 1) := by decide +kernel
theorem dX13_fieldOrMethod_189 : decode cX13_fieldOrMethod 189 = .ok (.invokevirtual 159, 3) := by decide +kernel
theorem dX13_fieldOrMethod_192 : decode cX13_fieldOrMethod 192 = .ok (.goto 74, 3) := by decide +kernel
theorem dX13_fieldOrMethod_195 : decode cX13_fieldOrMethod 195 = .ok (.aload_n 0, 1) := by decide +kernel
theorem dX13_fieldOrMethod_196 : decode cX13_fieldOrMethod 196 = .ok (.iload_n 1, 1) := by decide +kernel
theorem dX13_fieldOrMethod_197 : decode cX13_fieldOrMethod 197 = .ok (.invokevirtual 411, 3) := by decide +kernel
theorem dX13_fieldOrMethod_200 : decode cX13_fieldOrMethod 200 = .ok (.goto 66, 3) := by decide +kernel
theorem dX13_fieldOrMethod_203 : decode cX13_fieldOrMethod 203 = .ok (.aload_n 0, 1) := by decide +kernel
theorem dX13_fieldOrMethod_204 : decode cX13_fieldOrMethod 204 = .ok (.getfield 402, 3) := by decide +kernel
theorem dX13_fieldOrMethod_207 : decode cX13_fieldOrMethod 207 = .ok (.iload_n 1, 1) := by decide +kernel
theorem dX13_fieldOrMethod_208 : decode cX13_fieldOrMethod 208 = .ok (.iconst 0, 1) := by decide +kernel
theorem dX13_fieldOrMethod_209 : decode cX13_fieldOrMethod 209 = .ok (.iastore, 1) := by decide +kernel
theorem dX13_fieldOrMethod_210 : decode cX13_fieldOrMethod 210 = .ok (.aload_n 0, 1) := by decide +kernel
theorem dX13_fieldOrMethod_211 : decode cX13_fieldOrMethod 211 = .ok (.getfield 129, 3) := by decide +kernel
theorem dX13_fieldOrMethod_214 : decode cX13_fieldOrMethod 214 = .ok (.ifCond .ne 46, 3) := by decide +kernel
theorem dX13_fieldOrMethod_217 : decode cX13_fieldOrMethod 217 = .ok (.aload_n 0, 1) := by decide +kernel
theorem dX13_fieldOrMethod_218 : decode cX13_fieldOrMethod 218 = .ok (.bipush 61, 2) := by decide +kernel
theorem dX13_fieldOrMethod_220 : decode cX13_fieldOrMethod 220 = .ok (.invokevirtual 156, 3) := by decide +kernel
theorem dX13_fieldOrMethod_223 : decode cX13_fieldOrMethod 223 = .ok (.ifCond .eq 37, 3) := by decide +kernel
theorem dX13_fieldOrMethod_226 : decode cX13_fieldOrMethod 226 = .ok (.aload_n 0, 1) := by decide +kernel
theorem dX13_fieldOrMethod_227 : decode cX13_fieldOrMethod 227 = .ok (.invokevirtual 159, 3) := by decide +kernel
theorem dX13_fieldOrMethod_230 : decode cX13_fieldOrMethod 230 = .ok (.aload_n 0, 1) := by decide +kernel
theorem dX13_fieldOrMethod_231 : decode cX13_fieldOrMethod 231 = .ok (.getfield 371, 3) := by decide +kernel
theorem dX13_fieldOrMethod_234 : decode cX13_fieldOrMethod 234 = .ok (.iload_n 1, 1) := by decide +kernel
theorem dX13_fieldOrMethod_235 : decode cX13_fieldOrMethod 235 = .ok (.aload_n 0, 1) := by decide +kernel
theorem dX13_fieldOrMethod_236 : decode cX13_fieldOrMethod 236 = .ok (.getfield 135, 3) := by decide +kernel
theorem dX13_fieldOrMethod_239 : decode cX13_fieldOrMethod 239 = .ok (.iastore, 1) := by decide +kernel
theorem dX13_fieldOrMethod_240 : decode cX13_fieldOrMethod 240 = .ok (.aload_n 0, 1) := by decide +kernel
theorem dX13_fieldOrMethod_241 : decode cX13_fieldOrMethod 241 = .ok (.getfield 365, 3) := by decide +kernel
theorem dX13_fieldOrMethod_244 : decode cX13_fieldOrMethod 244 = .ok (.iload_n 1, 1) := by decide +kernel
theorem dX13_fieldOrMethod_245 : decode cX13_fieldOrMethod 245 = .ok (.aload_n 0, 1) := by decide +kernel
theorem dX13_fieldOrMethod_246 : decode cX13_fieldOrMethod 246 = .ok (.invokevirtual 427, 3) := by decide +kernel
theorem dX13_fieldOrMethod_249 : decode cX13_fieldOrMethod 249 = .ok (.iastore, 1) := by decide +kernel
theorem dX13_fieldOrMethod_250 : decode cX13_fieldOrMethod 250 = .ok (.aload_n 0, 1) := by decide +kernel
theorem dX13_fieldOrMethod_251 : decode cX13_fieldOrMethod 251 = .ok (.getfield 374, 3) := by decide +kernel
theorem dX13_fieldOrMethod_254 : decode cX13_fieldOrMethod 254 = .ok (.iload_n 1, 1) := by decide +kernel
theorem dX13_fieldOrMethod_255 : decode cX13_fieldOrMethod 255 = .ok (.aload_n 0, 1) := by decide +kernel
theorem dX13_fieldOrMethod_256 : decode cX13_fieldOrMethod 256 = .ok (.getfield 135, 3) := by decide +kernel
theorem dX13_fieldOrMethod_259 : decode cX13_fieldOrMethod 259 = .ok (.iastore, 1) := by decide +kernel
theorem dX13_fieldOrMethod_260 : decode cX13_fieldOrMethod 260 = .ok (.aload_n 0, 1) := by decide +kernel
theorem dX13_fieldOrMethod_261 : decode cX13_fieldOrMethod 261 = .ok (.bipush 59, 2) := by decide +kernel
theorem dX13_fieldOrMethod_263 : decode cX13_fieldOrMethod 263 = .ok (.invokevirtual 325, 3) := by decide +kernel
theorem dX13_fieldOrMethod_266 : decode cX13_fieldOrMethod 266 = .ok (.return_, 1) := by decide +kernel
theorem dX13_body_0 : decode cX13_body 0 = .ok (.aload_n 0, 1) := by decide +kernel
theorem dX13_body_1 : decode cX13_body 1 = .ok (.getfield 371, 3) := by decide +kernel
theorem dX13_body_4 : decode cX13_body 4 = .ok (.iload_n 1, 1) := by decide +kernel
theorem dX13_body_5 : decode cX13_body 5 = .ok (.aload_n 0, 1) := by decide +kernel
theorem dX13_body_6 : decode cX13_body 6 = .ok (.getfield 135, 3) := by decide +kernel
theorem dX13_body_9 : decode cX13_body 9 = .ok (.iastore, 1) := by decide +kernel
theorem dX13_body_10 : decode cX13_body 10 = .ok (.aload_n 0, 1) := by decide +kernel
theorem dX13_body_11 : decode cX13_body 11 = .ok (.getfield 129, 3) := by decide +kernel
theorem dX13_body_14 : decode cX13_body 14 = .ok (.ifCond .ne 16, 3) := by decide +kernel
theorem dX13_body_17 : decode cX13_body 17 = .ok (.aload_n 0, 1) := by decide +kernel
theorem dX13_body_18 : decode cX13_body 18 = .ok (.bipush 123, 2) := by decide +kernel
theorem dX13_body_20 : decode cX13_body 20 = .ok (.invokevirtual 156, 3) := by decide +kernel
theorem dX13_body_23 : decode cX13_body 23 = .ok (.ifCond .ne 7, 3) := by decide +kernel
theorem dX13_body_26 : decode cX13_body 26 = .ok (.aload_n 0, 1) := by decide +kernel
theorem dX13_body_27 : decode cX13_body 27 = .ok (.invokevirtual 163, 3) := by decide +kernel
theorem dX13_body_30 : decode cX13_body 30 = .ok (.aload_n 0, 1) := by decide +kernel
theorem dX13_body_31 : decode cX13_body 31 = .ok (.getfield 368, 3) := by decide +kernel
theorem dX13_body_34 : decode cX13_body 34 = .ok (.iload_n 1, 1) := by decide +kernel
theorem dX13_body_35 : decode cX13_body 35 = .ok (.aload_n 0, 1) := by decide +kernel
theorem dX13_body_36 : decode cX13_body 36 = .ok (.getfield 129, 3) := by decide +kernel
theorem dX13_body_39 : decode cX13_body 39 = .ok (.ifCond .ne 10, 3) := by decide +kernel
theorem dX13_body_42 : decode cX13_body 42 = .ok (.aload_n 0, 1) := by decide +kernel
theorem dX13_body_43 : decode cX13_body 43 = .ok (.invokevirtual 430, 3) := by decide +kernel
theorem dX13_body_46 : decode cX13_body 46 = .ok (.goto 5, 3) := by decide +kernel
theorem dX13_body_49 : decode cX13_body 49 = .ok (.bipush (-2), 2) := by decide +kernel
theorem dX13_body_51 : decode cX13_body 51 = .ok (.iastore, 1) := by decide +kernel
theorem dX13_body_52 : decode cX13_body 52 = .ok (.aload_n 0, 1) := by decide +kernel
theorem dX13_body_53 : decode cX13_body 53 = .ok (.getfield 374, 3) := by decide +kernel
theorem dX13_body_56 : decode cX13_body 56 = .ok (.iload_n 1, 1) := by decide +kernel
theorem dX13_body_57 : decode cX13_body 57 = .ok (.aload_n 0, 1) := by decide +kernel
theorem dX13_body_58 : decode cX13_body 58 = .ok (.getfield 135, 3) := by decide +kernel
theorem dX13_body_61 : decode cX13_body 61 = .ok (.iastore, 1) := by decide +kernel
theorem dX13_body_62 : decode cX13_body 62 = .ok (.return_, 1) := by decide +kernel
theorem dX13_effects_0 : decode cX13_effects 0 = .ok (.aload_n 0, 1) := by decide +kernel
theorem dX13_effects_1 : decode cX13_effects 1 = .ok (.getfield 266, 3) := by decide +kernel
theorem dX13_effects_4 : decode cX13_effects 4 = .ok (.iload_n 1, 1) := by decide +kernel
theorem dX13_effects_5 : decode cX13_effects 5 = .ok (.iaload, 1) := by decide +kernel
theorem dX13_effects_6 : decode cX13_effects 6 = .ok (.iconst 3, 1) := by decide +kernel
theorem dX13_effects_7 : decode cX13_effects 7 = .ok (.if_icmp .ne 7, 3) := by decide +kernel
theorem dX13_effects_10 : decode cX13_effects 10 = .ok (.iconst 1, 1) := by decide +kernel
theorem dX13_effects_11 : decode cX13_effects 11 = .ok (.goto 4, 3) := by decide +kernel
theorem dX13_effects_14 : decode cX13_effects 14 = .ok (.iconst 0, 1) := by decide +kernel
theorem dX13_effects_15 : decode cX13_effects 15 = .ok (.istore_n 3, 1) := by decide +kernel
theorem dX13_effects_16 : decode cX13_effects 16 = .ok (.aload_n 0, 1) := by decide +kernel
theorem dX13_effects_17 : decode cX13_effects 17 = .ok (.getfield 433, 3) := by decide +kernel
theorem dX13_effects_20 : decode cX13_effects 20 = .ok (.iload_n 2, 1) := by decide +kernel
theorem dX13_effects_21 : decode cX13_effects 21 = .ok (.aload_n 0, 1) := by decide +kernel
theorem dX13_effects_22 : decode cX13_effects 22 = .ok (.getfield 399, 3) := by decide +kernel
theorem dX13_effects_25 : decode cX13_effects 25 = .ok (.iload_n 2, 1) := by decide +kernel
theorem dX13_effects_26 : decode cX13_effects 26 = .ok (.iaload, 1) := by decide +kernel
theorem dX13_effects_27 : decode cX13_effects 27 = .ok (.iconst 1, 1) := by decide +kernel
theorem dX13_effects_28 : decode cX13_effects 28 = .ok (.if_icmp .ne 7, 3) := by decide +kernel
theorem dX13_effects_31 : decode cX13_effects 31 = .ok (.iconst 3, 1) := by decide +kernel
theorem dX13_effects_32 : decode cX13_effects 32 = .ok (.goto 59, 3) := by decide +kernel
theorem dX13_effects_35 : decode cX13_effects 35 = .ok (.aload_n 0, 1) := by decide +kernel
theorem dX13_effects_36 : decode cX13_effects 36 = .ok (.getfield 399, 3) := by decide +kernel
theorem dX13_effects_39 : decode cX13_effects 39 = .ok (.iload_n 2, 1) := by decide +kernel
theorem dX13_effects_40 : decode cX13_effects 40 = .ok (.iaload, 1) := by decide +kernel
theorem dX13_effects_41 : decode cX13_effects 41 = .ok (.iconst 2, 1) := by decide +kernel
theorem dX13_effects_42 : decode cX13_effects 42 = .ok (.if_icmp .ne 7, 3) := by decide +kernel
theorem dX13_effects_45 : decode cX13_effects 45 = .ok (.iconst 2, 1) := by decide +kernel
theorem dX13_effects_46 : decode cX13_effects 46 = .ok (.goto 45, 3) := by decide +kernel
theorem dX13_effects_49 : decode cX13_effects 49 = .ok (.aload_n 0, 1) := by decide +kernel
theorem dX13_effects_50 : decode cX13_effects 50 = .ok (.getfield 399, 3) := by decide +kernel
theorem dX13_effects_53 : decode cX13_effects 53 = .ok (.iload_n 2, 1) := by decide +kernel
theorem dX13_effects_54 : decode cX13_effects 54 = .ok (.iaload, 1) := by decide +kernel
theorem dX13_effects_55 : decode cX13_effects 55 = .ok (.iconst 3, 1) := by decide +kernel
theorem dX13_effects_56 : decode cX13_effects 56 = .ok (.if_icmp .ne 7, 3) := by decide +kernel
theorem dX13_effects_59 : decode cX13_effects 59 = .ok (.iconst 0, 1) := by decide +kernel
theorem dX13_effects_60 : decode cX13_effects 60 = .ok (.goto 31, 3) := by decide +kernel
theorem dX13_effects_63 : decode cX13_effects 63 = .ok (.iload_n 3, 1) := by decide +kernel
theorem dX13_effects_64 : decode cX13_effects 64 = .ok (.ifCond .eq 26, 3) := by decide +kernel
theorem dX13_effects_67 : decode cX13_effects 67 = .ok (.aload_n 0, 1) := by decide +kernel
theorem dX13_effects_68 : decode cX13_effects 68 = .ok (.getfield 402, 3) := by decide +kernel
theorem dX13_effects_71 : decode cX13_effects 71 = .ok (.iload_n 2, 1) := by decide +kernel
theorem dX13_effects_72 : decode cX13_effects 72 = .ok (.iaload, 1) := by decide +kernel
theorem dX13_effects_73 : decode cX13_effects 73 = .ok (.ifCond .eq 13, 3) := by decide +kernel
theorem dX13_effects_76 : decode cX13_effects 76 = .ok (.aload_n 0, 1) := by decide +kernel
theorem dX13_effects_77 : decode cX13_effects 77 = .ok (.getfield 402, 3) := by decide +kernel
theorem dX13_effects_80 : decode cX13_effects 80 = .ok (.iload_n 2, 1) := by decide +kernel
theorem dX13_effects_81 : decode cX13_effects 81 = .ok (.iaload, 1) := by decide +kernel
theorem dX13_effects_82 : decode cX13_effects 82 = .ok (.iconst 1, 1) := by decide +kernel
theorem dX13_effects_83 : decode cX13_effects 83 = .ok (.if_icmp .ne 7, 3) := by decide +kernel
theorem dX13_effects_86 : decode cX13_effects 86 = .ok (.iconst 3, 1) := by decide +kernel
theorem dX13_effects_87 : decode cX13_effects 87 = .ok (.goto 4, 3) := by decide +kernel
theorem dX13_effects_90 : decode cX13_effects 90 = .ok (.iconst 1, 1) := by decide +kernel
theorem dX13_effects_91 : decode cX13_effects 91 = .ok (.iastore, 1) := by decide +kernel
theorem dX13_effects_92 : decode cX13_effects 92 = .ok (.aload_n 0, 1) := by decide +kernel
theorem dX13_effects_93 : decode cX13_effects 93 = .ok (.getfield 436, 3) := by decide +kernel
theorem dX13_effects_96 : decode cX13_effects 96 = .ok (.iload_n 2, 1) := by decide +kernel
theorem dX13_effects_97 : decode cX13_effects 97 = .ok (.aload_n 0, 1) := by decide +kernel
theorem dX13_effects_98 : decode cX13_effects 98 = .ok (.getfield 402, 3) := by decide +kernel
theorem dX13_effects_101 : decode cX13_effects 101 = .ok (.iload_n 2, 1) := by decide +kernel
theorem dX13_effects_102 : decode cX13_effects 102 = .ok (.iaload, 1) := by decide +kernel
theorem dX13_effects_103 : decode cX13_effects 103 = .ok (.iconst 1, 1) := by decide +kernel
theorem dX13_effects_104 : decode cX13_effects 104 = .ok (.if_icmp .ne 34, 3) := by decide +kernel
theorem dX13_effects_107 : decode cX13_effects 107 = .ok (.iload_n 3, 1) := by decide +kernel
theorem dX13_effects_108 : decode cX13_effects 108 = .ok (.ifCond .eq 17, 3) := by decide +kernel
theorem dX13_effects_111 : decode cX13_effects 111 = .ok (.aload_n 0, 1) := by decide +kernel
theorem dX13_effects_112 : decode cX13_effects 112 = .ok (.getfield 368, 3) := by decide +kernel
theorem dX13_effects_115 : decode cX13_effects 115 = .ok (.iload_n 2, 1) := by decide +kernel
theorem dX13_effects_116 : decode cX13_effects 116 = .ok (.iaload, 1) := by decide +kernel
theorem dX13_effects_117 : decode cX13_effects 117 = .ok (.bipush (-2), 2) := by decide +kernel
theorem dX13_effects_119 : decode cX13_effects 119 = .ok (.if_icmp .ne 19, 3) := by decide +kernel
theorem dX13_effects_122 : decode cX13_effects 122 = .ok (.goto 12, 3) := by decide +kernel
theorem dX13_effects_125 : decode cX13_effects 125 = .ok (.aload_n 0, 1) := by decide +kernel
theorem dX13_effects_126 : decode cX13_effects 126 = .ok (.getfield 347, 3) := by decide +kernel
theorem dX13_effects_129 : decode cX13_effects 129 = .ok (.iload_n 2, 1) := by decide +kernel
theorem dX13_effects_130 : decode cX13_effects 130 = .ok (.baload, 1) := by decide +kernel
theorem dX13_effects_131 : decode cX13_effects 131 = .ok (.ifCond .eq 7, 3) := by decide +kernel
theorem dX13_effects_134 : decode cX13_effects 134 = .ok (.iconst 1, 1) := by decide +kernel
theorem dX13_effects_135 : decode cX13_effects 135 = .ok (.goto 4, 3) := by decide +kernel
theorem dX13_effects_138 : decode cX13_effects 138 = .ok (.iconst 0, 1) := by decide +kernel
theorem dX13_effects_139 : decode cX13_effects 139 = .ok (.bastore, 1) := by decide +kernel
theorem dX13_effects_140 : decode cX13_effects 140 = .ok (.iload_n 3, 1) := by decide +kernel
theorem dX13_effects_141 : decode cX13_effects 141 = .ok (.ifCond .eq 33, 3) := by decide +kernel
theorem dX13_effects_144 : decode cX13_effects 144 = .ok (.aload_n 0, 1) := by decide +kernel
theorem dX13_effects_145 : decode cX13_effects 145 = .ok (.getfield 402, 3) := by decide +kernel
theorem dX13_effects_148 : decode cX13_effects 148 = .ok (.iload_n 2, 1) := by decide +kernel
theorem dX13_effects_149 : decode cX13_effects 149 = .ok (.iaload, 1) := by decide +kernel
theorem dX13_effects_150 : decode cX13_effects 150 = .ok (.ifCond .ne 24, 3) := by decide +kernel
theorem dX13_effects_153 : decode cX13_effects 153 = .ok (.aload_n 0, 1) := by decide +kernel
theorem dX13_effects_154 : decode cX13_effects 154 = .ok (.getfield 341, 3) := by decide +kernel
theorem dX13_effects_157 : decode cX13_effects 157 = .ok (.iload_n 2, 1) := by decide +kernel
theorem dX13_effects_158 : decode cX13_effects 158 = .ok (.iconst 1, 1) := by decide +kernel
theorem dX13_effects_159 : decode cX13_effects 159 = .ok (.bastore, 1) := by decide +kernel
theorem dX13_effects_160 : decode cX13_effects 160 = .ok (.aload_n 0, 1) := by decide +kernel
theorem dX13_effects_161 : decode cX13_effects 161 = .ok (.getfield 344, 3) := by decide +kernel
theorem dX13_effects_164 : decode cX13_effects 164 = .ok (.iload_n 2, 1) := by decide +kernel
theorem dX13_effects_165 : decode cX13_effects 165 = .ok (.iconst 1, 1) := by decide +kernel
theorem dX13_effects_166 : decode cX13_effects 166 = .ok (.bastore, 1) := by decide +kernel
theorem dX13_effects_167 : decode cX13_effects 167 = .ok (.aload_n 0, 1) := by decide +kernel
theorem dX13_effects_168 : decode cX13_effects 168 = .ok (.getfield 433, 3) := by decide +kernel
theorem dX13_effects_171 : decode cX13_effects 171 = .ok (.iload_n 2, 1) := by decide +kernel
theorem dX13_effects_172 : decode cX13_effects 172 = .ok (.iconst 3, 1) := by decide +kernel
theorem dX13_effects_173 : decode cX13_effects 173 = .ok (.iastore, 1) := by decide +kernel
theorem dX13_effects_174 : decode cX13_effects 174 = .ok (.return_, 1) := by decide +kernel
theorem dX13_typeToken_0 : decode cX13_typeToken 0 = .ok (.aload_n 0, 1) := by decide +kernel
theorem dX13_typeToken_1 : decode cX13_typeToken 1 = .ok (.ldc 45, 2) := by decide +kernel
theorem dX13_typeToken_3 : decode cX13_typeToken 3 = .ok (.invokevirtual 238, 3) := by decide +kernel
theorem dX13_typeToken_6 : decode cX13_typeToken 6 = .ok (.ifCond .eq 7, 3) := by decide +kernel
theorem dX13_typeToken_9 : decode cX13_typeToken 9 = .ok (.ldc2_w 43, 3) := by decide +kernel
theorem dX13_typeToken_12 : decode cX13_typeToken 12 = .ok (.lreturn, 1) := by decide +kernel
theorem dX13_typeToken_13 : decode cX13_typeToken 13 = .ok (.aload_n 0, 1) := by decide +kernel
theorem dX13_typeToken_14 : decode cX13_typeToken 14 = .ok (.iconst 1, 1) := by decide +kernel
theorem dX13_typeToken_15 : decode cX13_typeToken 15 = .ok (.iconst 0, 1) := by decide +kernel
theorem dX13_typeToken_16 : decode cX13_typeToken 16 = .ok (.invokevirtual 252, 3) := by decide +kernel
theorem dX13_typeToken_19 : decode cX13_typeToken 19 = .ok (.istore_n 1, 1) := by decide +kernel
theorem dX13_typeToken_20 : decode cX13_typeToken 20 = .ok (.aload_n 0, 1) := by decide +kernel
theorem dX13_typeToken_21 : decode cX13_typeToken 21 = .ok (.getfield 129, 3) := by decide +kernel
theorem dX13_typeToken_24 : decode cX13_typeToken 24 = .ok (.ifCond .ne 11, 3) := by decide +kernel
theorem dX13_typeToken_27 : decode cX13_typeToken 27 = .ok (.aload_n 0, 1) := by decide +kernel
theorem dX13_typeToken_28 : decode cX13_typeToken 28 = .ok (.iload_n 1, 1) := by decide +kernel
theorem dX13_typeToken_29 : decode cX13_typeToken 29 = .ok (.invokevirtual 141, 3) := by decide +kernel
theorem dX13_typeToken_32 : decode cX13_typeToken 32 = .ok (.goto 6, 3) := by decide +kernel
theorem dX13_typeToken_35 : decode cX13_typeToken 35 = .ok (.ldc2_w 43, 3) := by decide +kernel
theorem dX13_typeToken_38 : decode cX13_typeToken 38 = .ok (.lreturn, 1) := by decide +kernel
theorem dX13_params_0 : decode cX13_params 0 = .ok (.aload_n 0, 1) := by decide +kernel
theorem dX13_params_1 : decode cX13_params 1 = .ok (.bipush 40, 2) := by decide +kernel
theorem dX13_params_3 : decode cX13_params 3 = .ok (.invokevirtual 325, 3) := by decide +kernel
theorem dX13_params_6 : decode cX13_params 6 = .ok (.aload_n 0, 1) := by decide +kernel
theorem dX13_params_7 : decode cX13_params 7 = .ok (.getfield 129, 3) := by decide +kernel
theorem dX13_params_10 : decode cX13_params 10 = .ok (.ifCond .ne 17, 3) := by decide +kernel
theorem dX13_params_13 : decode cX13_params 13 = .ok (.aload_n 0, 1) := by decide +kernel
theorem dX13_params_14 : decode cX13_params 14 = .ok (.bipush 41, 2) := by decide +kernel
theorem dX13_params_16 : decode cX13_params 16 = .ok (.invokevirtual 156, 3) := by decide +kernel
theorem dX13_params_19 : decode cX13_params 19 = .ok (.ifCond .eq 8, 3) := by decide +kernel
theorem dX13_params_22 : decode cX13_params 22 = .ok (.aload_n 0, 1) := by decide +kernel
theorem dX13_params_23 : decode cX13_params 23 = .ok (.invokevirtual 159, 3) := by decide +kernel
theorem dX13_params_26 : decode cX13_params 26 = .ok (.return_, 1) := by decide +kernel
theorem dX13_params_27 : decode cX13_params 27 = .ok (.aload_n 0, 1) := by decide +kernel
theorem dX13_params_28 : decode cX13_params 28 = .ok (.getfield 129, 3) := by decide +kernel
theorem dX13_params_31 : decode cX13_params 31 = .ok (.ifCond .ne 7, 3) := by decide +kernel
theorem dX13_params_34 : decode cX13_params 34 = .ok (.iconst 1, 1) := by decide +kernel
theorem dX13_params_35 : decode cX13_params 35 = .ok (.goto 4, 3) := by decide +kernel
theorem dX13_params_38 : decode cX13_params 38 = .ok (.iconst 0, 1) := by decide +kernel
theorem dX13_params_39 : decode cX13_params 39 = .ok (.istore_n 2, 1) := by decide +kernel
theorem dX13_params_40 : decode cX13_params 40 = .ok (.iload_n 2, 1) := by decide +kernel
theorem dX13_params_41 : decode cX13_params 41 = .ok (.ifCond .eq 178, 3) := by decide +kernel
theorem dX13_params_44 : decode cX13_params 44 = .ok (.aload_n 0, 1) := by decide +kernel
theorem dX13_params_45 : decode cX13_params 45 = .ok (.getfield 362, 3) := by decide +kernel
theorem dX13_params_48 : decode cX13_params 48 = .ok (.iload_n 1, 1) := by decide +kernel
theorem dX13_params_49 : decode cX13_params 49 = .ok (.iaload, 1) := by decide +kernel
theorem dX13_params_50 : decode cX13_params 50 = .ok (.istore_n 3, 1) := by decide +kernel
theorem dX13_params_51 : decode cX13_params 51 = .ok (.iload_n 3, 1) := by decide +kernel
theorem dX13_params_52 : decode cX13_params 52 = .ok (.iconst 4, 1) := by decide +kernel
theorem dX13_params_53 : decode cX13_params 53 = .ok (.if_icmp .ne 37, 3) := by decide +kernel
theorem dX13_params_56 : decode cX13_params 56 = .ok (.aload_n 0, 1) := by decide +kernel
theorem dX13_params_57 : decode cX13_params 57 = .ok (.ldc 45, 2) := by decide +kernel
theorem dX13_params_59 : decode cX13_params 59 = .ok (.invokevirtual 166, 3) := by decide +kernel
theorem dX13_params_62 : decode cX13_params 62 = .ok (.ifCond .ne 15, 3) := by decide +kernel
theorem dX13_params_65 : decode cX13_params 65 = .ok (.aload_n 0, 1) := by decide +kernel
theorem dX13_params_66 : decode cX13_params 66 = .ok (.aload_n 0, 1) := by decide +kernel
theorem dX13_params_67 : decode cX13_params 67 = .ok (.getfield 135, 3) := by decide +kernel
theorem dX13_params_70 : decode cX13_params 70 = .ok (.invokevirtual 138, 3) := by decide +kernel
theorem dX13_params_73 : decode cX13_params 73 = .ok (.iconst 1, 1) := by decide +kernel
theorem dX13_params_74 : decode cX13_params 74 = .ok (.if_icmp .ne 16, 3) := by decide +kernel
theorem dX13_params_77 : decode cX13_params 77 = .ok (.aload_n 0, 1) := by decide +kernel
theorem dX13_params_78 : decode cX13_params 78 = .ok (.iconst 3, 1) := by decide +kernel
theorem dX13_params_79 : decode cX13_params 79 = .ok (.aload_n 0, 1) := by decide +kernel
theorem dX13_params_80 : decode cX13_params 80 = .ok (.aload_n 0, 1) := by decide +kernel
theorem dX13_params_81 : decode cX13_params 81 = .ok (.getfield 135, 3) := by decide +kernel
theorem dX13_params_84 : decode cX13_params 84 = .ok (.invokevirtual 149, 3) := by decide +kernel
theorem dX13_params_87 : decode cX13_params 87 = .ok (.invokevirtual 152, 3) := by decide +kernel
theorem dX13_params_90 : decode cX13_params 90 = .ok (.iconst 4, 1) := by decide +kernel
theorem dX13_params_91 : decode cX13_params 91 = .ok (.iload_n 1, 1) := by decide +kernel
theorem dX13_params_92 : decode cX13_params 92 = .ok (.imul, 1) := by decide +kernel
theorem dX13_params_93 : decode cX13_params 93 = .ok (.iload_n 3, 1) := by decide +kernel
theorem dX13_params_94 : decode cX13_params 94 = .ok (.iconst 4, 1) := by decide +kernel
theorem dX13_params_95 : decode cX13_params 95 = .ok (.if_icmp .ge 7, 3) := by decide +kernel
theorem dX13_params_98 : decode cX13_params 98 = .ok (.iload_n 3, 1) := by decide +kernel
theorem dX13_params_99 : decode cX13_params 99 = .ok (.goto 4, 3) := by decide +kernel
theorem dX13_params_102 : decode cX13_params 102 = .ok (.iconst 3, 1) := by decide +kernel
theorem dX13_params_103 : decode cX13_params 103 = .ok (.iadd, 1) := by decide +kernel
theorem dX13_params_104 : decode cX13_params 104 = .ok (.istore 4, 2) := by decide +kernel
theorem dX13_params_106 : decode cX13_params 106 = .ok (.aload_n 0, 1) := by decide +kernel
theorem dX13_params_107 : decode cX13_params 107 = .ok (.getfield 439, 3) := by decide +kernel
theorem dX13_params_110 : decode cX13_params 110 = .ok (.iload 4, 2) := by decide +kernel
theorem dX13_params_112 : decode cX13_params 112 = .ok (.aload_n 0, 1) := by decide +kernel
theorem dX13_params_113 : decode cX13_params 113 = .ok (.aload_n 0, 1) := by decide +kernel
theorem dX13_params_114 : decode cX13_params 114 = .ok (.getfield 135, 3) := by decide +kernel
theorem dX13_params_117 : decode cX13_params 117 = .ok (.invokevirtual 149, 3) := by decide +kernel
theorem dX13_params_120 : decode cX13_params 120 = .ok (.iastore, 1) := by decide +kernel
theorem dX13_params_121 : decode cX13_params 121 = .ok (.aload_n 0, 1) := by decide +kernel
theorem dX13_params_122 : decode cX13_params 122 = .ok (.getfield 442, 3) := by decide +kernel
theorem dX13_params_125 : decode cX13_params 125 = .ok (.iload 4, 2) := by decide +kernel
theorem dX13_params_127 : decode cX13_params 127 = .ok (.aload_n 0, 1) := by decide +kernel
theorem dX13_params_128 : decode cX13_params 128 = .ok (.invokevirtual 423, 3) := by decide +kernel
theorem dX13_params_131 : decode cX13_params 131 = .ok (.lastore, 1) := by decide +kernel
theorem dX13_params_132 : decode cX13_params 132 = .ok (.aload_n 0, 1) := by decide +kernel
theorem dX13_params_133 : decode cX13_params 133 = .ok (.iconst 2, 1) := by decide +kernel
theorem dX13_params_134 : decode cX13_params 134 = .ok (.iconst 0, 1) := by decide +kernel
theorem dX13_params_135 : decode cX13_params 135 = .ok (.invokevirtual 252, 3) := by decide +kernel
theorem dX13_params_138 : decode cX13_params 138 = .ok (.istore 5, 2) := by decide +kernel
theorem dX13_params_140 : decode cX13_params 140 = .ok (.aload_n 0, 1) := by decide +kernel
theorem dX13_params_141 : decode cX13_params 141 = .ok (.getfield 445, 3) := by decide +kernel
theorem dX13_params_144 : decode cX13_params 144 = .ok (.iload 4, 2) := by decide +kernel
theorem dX13_params_146 : decode cX13_params 146 = .ok (.aload_n 0, 1) := by decide +kernel
theorem dX13_params_147 : decode cX13_params 147 = .ok (.iload 5, 2) := by decide +kernel
theorem dX13_params_149 : decode cX13_params 149 = .ok (.invokevirtual 141, 3) := by decide +kernel
theorem dX13_params_152 : decode cX13_params 152 = .ok (.lastore, 1) := by decide +kernel
theorem dX13_params_153 : decode cX13_params 153 = .ok (.aload_n 0, 1) := by decide +kernel
theorem dX13_params_154 : decode cX13_params 154 = .ok (.getfield 448, 3) := by decide +kernel
theorem dX13_params_157 : decode cX13_params 157 = .ok (.iload 4, 2) := by decide +kernel
theorem dX13_params_159 : decode cX13_params 159 = .ok (.aload_n 0, 1) := by decide +kernel
theorem dX13_params_160 : decode cX13_params 160 = .ok (.iload 5, 2) := by decide +kernel
theorem dX13_params_162 : decode cX13_params 162 = .ok (.invokevirtual 149, 3) := by decide +kernel
theorem dX13_params_165 : decode cX13_params 165 = .ok (.iastore, 1) := by decide +kernel
theorem dX13_params_166 : decode cX13_params 166 = .ok (.aload_n 0, 1) := by decide +kernel
theorem dX13_params_167 : decode cX13_params 167 = .ok (.getfield 362, 3) := by decide +kernel
theorem dX13_params_170 : decode cX13_params 170 = .ok (.iload_n 1, 1) := by decide +kernel
theorem dX13_params_171 : decode cX13_params 171 = .ok (.aload_n 0, 1) := by decide +kernel
theorem dX13_params_172 : decode cX13_params 172 = .ok (.getfield 129, 3) := by decide +kernel
theorem dX13_params_175 : decode cX13_params 175 = .ok (.ifCond .ne 9, 3) := by decide +kernel
theorem dX13_params_178 : decode cX13_params 178 = .ok (.iload_n 3, 1) := by decide +kernel
theorem dX13_params_179 : decode cX13_params 179 = .ok (.iconst 1, 1) := by decide +kernel
theorem dX13_params_180 : decode cX13_params 180 = .ok (.iadd, 1) := by decide +kernel
theorem dX13_params_181 : decode cX13_params 181 = .ok (.goto 4, 3) := by decide +kernel
theorem dX13_params_184 : decode cX13_params 184 = .ok (.iload_n 3, 1) := by decide +kernel
theorem dX13_params_185 : decode cX13_params 185 = .ok (.iastore, 1) := by decide +kernel
theorem dX13_params_186 : decode cX13_params 186 = .ok (.aload_n 0, 1) := by decide +kernel
theorem dX13_params_187 : decode cX13_params 187 = .ok (.getfield 129, 3) := by decide +kernel
theorem dX13_params_190 : decode cX13_params 190 = .ok (.ifCond .ne 16, 3) := by decide +kernel
theorem dX13_params_193 : decode cX13_params 193 = .ok (.aload_n 0, 1) := by decide +kernel
theorem dX13_params_194 : decode cX13_params 194 = .ok (.bipush 44, 2) := by decide +kernel
theorem dX13_params_196 : decode cX13_params 196 = .ok (.invokevirtual 156, 3) := by decide +kernel
theorem dX13_params_199 : decode cX13_params 199 = .ok (.ifCond .eq 7, 3) := by decide +kernel
theorem dX13_params_202 : decode cX13_params 202 = .ok (.iconst 1, 1) := by decide +kernel
theorem dX13_params_203 : decode cX13_params 203 = .ok (.goto 4, 3) := by decide +kernel
theorem dX13_params_206 : decode cX13_params 206 = .ok (.iconst 0, 1) := by decide +kernel
theorem dX13_params_207 : decode cX13_params 207 = .ok (.istore_n 2, 1) := by decide +kernel
theorem dX13_params_208 : decode cX13_params 208 = .ok (.iload_n 2, 1) := by decide +kernel
theorem dX13_params_209 : decode cX13_params 209 = .ok (.ifCond .eq 7, 3) := by decide +kernel
theorem dX13_params_212 : decode cX13_params 212 = .ok (.aload_n 0, 1) := by decide +kernel
theorem dX13_params_213 : decode cX13_params 213 = .ok (.invokevirtual 159, 3) := by decide +kernel
theorem dX13_params_216 : decode cX13_params 216 = .ok (.goto (-176), 3) := by decide +kernel
theorem dX13_params_219 : decode cX13_params 219 = .ok (.aload_n 0, 1) := by decide +kernel
theorem dX13_params_220 : decode cX13_params 220 = .ok (.bipush 41, 2) := by decide +kernel
theorem dX13_params_222 : decode cX13_params 222 = .ok (.invokevirtual 325, 3) := by decide +kernel
theorem dX13_params_225 : decode cX13_params 225 = .ok (.return_, 1) := by decide +kernel
theorem dX13_beginsE_0 : decode cX13_beginsE 0 = .ok (.aload_n 0, 1) := by decide +kernel
theorem dX13_beginsE_1 : decode cX13_beginsE 1 = .ok (.aload_n 0, 1) := by decide +kernel
theorem dX13_beginsE_2 : decode cX13_beginsE 2 = .ok (.getfield 135, 3) := by decide +kernel
theorem dX13_beginsE_5 : decode cX13_beginsE 5 = .ok (.invokevirtual 138, 3) := by decide +kernel
theorem dX13_beginsE_8 : decode cX13_beginsE 8 = .ok (.iconst 4, 1) := by decide +kernel
theorem dX13_beginsE_9 : decode cX13_beginsE 9 = .ok (.if_icmp .eq 76, 3) := by decide +kernel
theorem dX13_beginsE_12 : decode cX13_beginsE 12 = .ok (.aload_n 0, 1) := by decide +kernel
theorem dX13_beginsE_13 : decode cX13_beginsE 13 = .ok (.aload_n 0, 1) := by decide +kernel
theorem dX13_beginsE_14 : decode cX13_beginsE 14 = .ok (.getfield 135, 3) := by decide +kernel
theorem dX13_beginsE_17 : decode cX13_beginsE 17 = .ok (.invokevirtual 138, 3) := by decide +kernel
theorem dX13_beginsE_20 : decode cX13_beginsE 20 = .ok (.iconst 2, 1) := by decide +kernel
theorem dX13_beginsE_21 : decode cX13_beginsE 21 = .ok (.if_icmp .eq 64, 3) := by decide +kernel
theorem dX13_beginsE_24 : decode cX13_beginsE 24 = .ok (.aload_n 0, 1) := by decide +kernel
theorem dX13_beginsE_25 : decode cX13_beginsE 25 = .ok (.aload_n 0, 1) := by decide +kernel
theorem dX13_beginsE_26 : decode cX13_beginsE 26 = .ok (.getfield 135, 3) := by decide +kernel
theorem dX13_beginsE_29 : decode cX13_beginsE 29 = .ok (.invokevirtual 138, 3) := by decide +kernel
theorem dX13_beginsE_32 : decode cX13_beginsE 32 = .ok (.iconst 1, 1) := by decide +kernel
theorem dX13_beginsE_33 : decode cX13_beginsE 33 = .ok (.if_icmp .eq 52, 3) := by decide +kernel
theorem dX13_beginsE_36 : decode cX13_beginsE 36 = .ok (.aload_n 0, 1) := by decide +kernel
theorem dX13_beginsE_37 : decode cX13_beginsE 37 = .ok (.bipush 40, 2) := by decide +kernel
theorem dX13_beginsE_39 : decode cX13_beginsE 39 = .ok (.invokevirtual 156, 3) := by decide +kernel
theorem dX13_beginsE_42 : decode cX13_beginsE 42 = .ok (.ifCond .ne 43, 3) := by decide +kernel
theorem dX13_beginsE_45 : decode cX13_beginsE 45 = .ok (.aload_n 0, 1) := by decide +kernel
theorem dX13_beginsE_46 : decode cX13_beginsE 46 = .ok (.ldc_w 451, 3) := by decide +kernel
theorem dX13_beginsE_49 : decode cX13_beginsE 49 = .ok (.invokevirtual 166, 3) := by decide +kernel
theorem dX13_beginsE_52 : decode cX13_beginsE 52 = .ok (.ifCond .ne 33, 3) := by decide +kernel
theorem dX13_beginsE_55 : decode cX13_beginsE 55 = .ok (.aload_n 0, 1) := by decide +kernel
theorem dX13_beginsE_56 : decode cX13_beginsE 56 = .ok (.ldc_w 453, 3) := by decide +kernel
theorem dX13_beginsE_59 : decode cX13_beginsE 59 = .ok (.invokevirtual 166, 3) := by decide +kernel
theorem dX13_beginsE_62 : decode cX13_beginsE 62 = .ok (.ifCond .ne 23, 3) := by decide +kernel
theorem dX13_beginsE_65 : decode cX13_beginsE 65 = .ok (.aload_n 0, 1) := by decide +kernel
theorem dX13_beginsE_66 : decode cX13_beginsE 66 = .ok (.ldc_w 455, 3) := by decide +kernel
theorem dX13_beginsE_69 : decode cX13_beginsE 69 = .ok (.invokevirtual 166, 3) := by decide +kernel
theorem dX13_beginsE_72 : decode cX13_beginsE 72 = .ok (.ifCond .ne 13, 3) := by decide +kernel
theorem dX13_beginsE_75 : decode cX13_beginsE 75 = .ok (.aload_n 0, 1) := by decide +kernel
theorem dX13_beginsE_76 : decode cX13_beginsE 76 = .ok (.ldc_w 337, 3) := by decide +kernel
theorem dX13_beginsE_79 : decode cX13_beginsE 79 = .ok (.invokevirtual 166, 3) := by decide +kernel
theorem dX13_beginsE_82 : decode cX13_beginsE 82 = .ok (.ifCond .eq 7, 3) := by decide +kernel
theorem dX13_beginsE_85 : decode cX13_beginsE 85 = .ok (.iconst 1, 1) := by decide +kernel
theorem dX13_beginsE_86 : decode cX13_beginsE 86 = .ok (.goto 4, 3) := by decide +kernel
theorem dX13_beginsE_89 : decode cX13_beginsE 89 = .ok (.iconst 0, 1) := by decide +kernel
theorem dX13_beginsE_90 : decode cX13_beginsE 90 = .ok (.ireturn, 1) := by decide +kernel
theorem dX13_beginsS_0 : decode cX13_beginsS 0 = .ok (.aload_n 0, 1) := by decide +kernel
theorem dX13_beginsS_1 : decode cX13_beginsS 1 = .ok (.invokevirtual 457, 3) := by decide +kernel
theorem dX13_beginsS_4 : decode cX13_beginsS 4 = .ok (.ifCond .ne 82, 3) := by decide +kernel
theorem dX13_beginsS_7 : decode cX13_beginsS 7 = .ok (.aload_n 0, 1) := by decide +kernel
theorem dX13_beginsS_8 : decode cX13_beginsS 8 = .ok (.bipush 123, 2) := by decide +kernel
theorem dX13_beginsS_10 : decode cX13_beginsS 10 = .ok (.invokevirtual 156, 3) := by decide +kernel
theorem dX13_beginsS_13 : decode cX13_beginsS 13 = .ok (.ifCond .ne 73, 3) := by decide +kernel
theorem dX13_beginsS_16 : decode cX13_beginsS 16 = .ok (.aload_n 0, 1) := by decide +kernel
theorem dX13_beginsS_17 : decode cX13_beginsS 17 = .ok (.ldc_w 460, 3) := by decide +kernel
theorem dX13_beginsS_20 : decode cX13_beginsS 20 = .ok (.invokevirtual 166, 3) := by decide +kernel
theorem dX13_beginsS_23 : decode cX13_beginsS 23 = .ok (.ifCond .ne 63, 3) := by decide +kernel
theorem dX13_beginsS_26 : decode cX13_beginsS 26 = .ok (.aload_n 0, 1) := by decide +kernel
theorem dX13_beginsS_27 : decode cX13_beginsS 27 = .ok (.ldc_w 462, 3) := by decide +kernel
theorem dX13_beginsS_30 : decode cX13_beginsS 30 = .ok (.invokevirtual 166, 3) := by decide +kernel
theorem dX13_beginsS_33 : decode cX13_beginsS 33 = .ok (.ifCond .ne 53, 3) := by decide +kernel
theorem dX13_beginsS_36 : decode cX13_beginsS 36 = .ok (.aload_n 0, 1) := by decide +kernel
theorem dX13_beginsS_37 : decode cX13_beginsS 37 = .ok (.ldc_w 464, 3) := by decide +kernel
theorem dX13_beginsS_40 : decode cX13_beginsS 40 = .ok (.invokevirtual 166, 3) := by decide +kernel
theorem dX13_beginsS_43 : decode cX13_beginsS 43 = .ok (.ifCond .ne 43, 3) := by decide +kernel
theorem dX13_beginsS_46 : decode cX13_beginsS 46 = .ok (.aload_n 0, 1) := by decide +kernel
theorem dX13_beginsS_47 : decode cX13_beginsS 47 = .ok (.ldc_w 466, 3) := by decide +kernel
theorem dX13_beginsS_50 : decode cX13_beginsS 50 = .ok (.invokevirtual 166, 3) := by decide +kernel
theorem dX13_beginsS_53 : decode cX13_beginsS 53 = .ok (.ifCond .ne 33, 3) := by decide +kernel
theorem dX13_beginsS_56 : decode cX13_beginsS 56 = .ok (.aload_n 0, 1) := by decide +kernel
theorem dX13_beginsS_57 : decode cX13_beginsS 57 = .ok (.ldc_w 468, 3) := by decide +kernel
theorem dX13_beginsS_60 : decode cX13_beginsS 60 = .ok (.invokevirtual 166, 3) := by decide +kernel
theorem dX13_beginsS_63 : decode cX13_beginsS 63 = .ok (.ifCond .ne 23, 3) := by decide +kernel
theorem dX13_beginsS_66 : decode cX13_beginsS 66 = .ok (.aload_n 0, 1) := by decide +kernel
theorem dX13_beginsS_67 : decode cX13_beginsS 67 = .ok (.ldc_w 470, 3) := by decide +kernel
theorem dX13_beginsS_70 : decode cX13_beginsS 70 = .ok (.invokevirtual 166, 3) := by decide +kernel
theorem dX13_beginsS_73 : decode cX13_beginsS 73 = .ok (.ifCond .ne 13, 3) := by decide +kernel
theorem dX13_beginsS_76 : decode cX13_beginsS 76 = .ok (.aload_n 0, 1) := by decide +kernel
theorem dX13_beginsS_77 : decode cX13_beginsS 77 = .ok (.ldc_w 472, 3) := by decide +kernel
theorem dX13_beginsS_80 : decode cX13_beginsS 80 = .ok (.invokevirtual 166, 3) := by decide +kernel
theorem dX13_beginsS_83 : decode cX13_beginsS 83 = .ok (.ifCond .eq 7, 3) := by decide +kernel
theorem dX13_beginsS_86 : decode cX13_beginsS 86 = .ok (.iconst 1, 1) := by decide +kernel
theorem dX13_beginsS_87 : decode cX13_beginsS 87 = .ok (.goto 4, 3) := by decide +kernel
theorem dX13_beginsS_90 : decode cX13_beginsS 90 = .ok (.iconst 0, 1) := by decide +kernel
theorem dX13_beginsS_91 : decode cX13_beginsS 91 = .ok (.ireturn, 1) := by decide +kernel
theorem dX13_statement_0 : decode cX13_statement 0 = .ok (.aload_n 0, 1) := by decide +kernel
theorem dX13_statement_1 : decode cX13_statement 1 = .ok (.getfield 129, 3) := by decide +kernel
theorem dX13_statement_4 : decode cX13_statement 4 = .ok (.ifCond .eq 6, 3) := by decide +kernel
theorem dX13_statement_7 : decode cX13_statement 7 = .ok (.bipush (-2), 2) := by decide +kernel
theorem dX13_statement_9 : decode cX13_statement 9 = .ok (.ireturn, 1) := by decide +kernel
theorem dX13_statement_10 : decode cX13_statement 10 = .ok (.aload_n 0, 1) := by decide +kernel
theorem dX13_statement_11 : decode cX13_statement 11 = .ok (.invokevirtual 474, 3) := by decide +kernel
theorem dX13_statement_14 : decode cX13_statement 14 = .ok (.ifCond .ne 10, 3) := by decide +kernel
theorem dX13_statement_17 : decode cX13_statement 17 = .ok (.aload_n 0, 1) := by decide +kernel
theorem dX13_statement_18 : decode cX13_statement 18 = .ok (.invokevirtual 163, 3) := by decide +kernel
theorem dX13_statement_21 : decode cX13_statement 21 = .ok (.bipush (-2), 2) := by decide +kernel
theorem dX13_statement_23 : decode cX13_statement 23 = .ok (.ireturn, 1) := by decide +kernel
theorem dX13_statement_24 : decode cX13_statement 24 = .ok (.aload_n 0, 1) := by decide +kernel
theorem dX13_statement_25 : decode cX13_statement 25 = .ok (.getfield 227, 3) := by decide +kernel
theorem dX13_statement_28 : decode cX13_statement 28 = .ok (.bipush 12, 2) := by decide +kernel
theorem dX13_statement_30 : decode cX13_statement 30 = .ok (.if_icmp .ne 19, 3) := by decide +kernel
theorem dX13_statement_33 : decode cX13_statement 33 = .ok (.aload_n 0, 1) := by decide +kernel
theorem dX13_statement_34 : decode cX13_statement 34 = .ok (.iconst 3, 1) := by decide +kernel
theorem dX13_statement_35 : decode cX13_statement 35 = .ok (.aload_n 0, 1) := by decide +kernel
theorem dX13_statement_36 : decode cX13_statement 36 = .ok (.aload_n 0, 1) := by decide +kernel
theorem dX13_statement_37 : decode cX13_statement 37 = .ok (.getfield 135, 3) := by decide +kernel
theorem dX13_statement_40 : decode cX13_statement 40 = .ok (.invokevirtual 149, 3) := by decide +kernel
theorem dX13_statement_43 : decode cX13_statement 43 = .ok (.invokevirtual 152, 3) := by decide +kernel
theorem dX13_statement_46 : decode cX13_statement 46 = .ok (.bipush (-2), 2) := by decide +kernel
theorem dX13_statement_48 : decode cX13_statement 48 = .ok (.ireturn, 1) := by decide +kernel
theorem dX13_statement_49 : decode cX13_statement 49 = .ok (.aload_n 0, 1) := by decide +kernel
theorem dX13_statement_50 : decode cX13_statement 50 = .ok (.dup, 1) := by decide +kernel
theorem dX13_statement_51 : decode cX13_statement 51 = .ok (.getfield 227, 3) := by decide +kernel
theorem dX13_statement_54 : decode cX13_statement 54 = .ok (.iconst 1, 1) := by decide +kernel
theorem dX13_statement_55 : decode cX13_statement 55 = .ok (.iadd, 1) := by decide +kernel
theorem dX13_statement_56 : decode cX13_statement 56 = .ok (.putfield 227, 3) := by decide +kernel
theorem dX13_statement_59 : decode cX13_statement 59 = .ok (.aload_n 0, 1) := by decide +kernel
theorem dX13_statement_60 : decode cX13_statement 60 = .ok (.invokevirtual 477, 3) := by decide +kernel
theorem dX13_statement_63 : decode cX13_statement 63 = .ok (.istore_n 1, 1) := by decide +kernel
theorem dX13_statement_64 : decode cX13_statement 64 = .ok (.aload_n 0, 1) := by decide +kernel
theorem dX13_statement_65 : decode cX13_statement 65 = .ok (.dup, 1) := by decide +kernel
theorem dX13_statement_66 : decode cX13_statement 66 = .ok (.getfield 227, 3) := by decide +kernel
theorem dX13_statement_69 : decode cX13_statement 69 = .ok (.iconst 1, 1) := by decide +kernel
theorem dX13_statement_70 : decode cX13_statement 70 = .ok (.isub, 1) := by decide +kernel
theorem dX13_statement_71 : decode cX13_statement 71 = .ok (.putfield 227, 3) := by decide +kernel
theorem dX13_statement_74 : decode cX13_statement 74 = .ok (.iload_n 1, 1) := by decide +kernel
theorem dX13_statement_75 : decode cX13_statement 75 = .ok (.ireturn, 1) := by decide +kernel
theorem dX13_statementWithin_0 : decode cX13_statementWithin 0 = .ok (.aload_n 0, 1) := by decide +kernel
theorem dX13_statementWithin_1 : decode cX13_statementWithin 1 = .ok (.aload_n 0, 1) := by decide +kernel
theorem dX13_statementWithin_2 : decode cX13_statementWithin 2 = .ok (.getfield 135, 3) := by decide +kernel
theorem dX13_statementWithin_5 : decode cX13_statementWithin 5 = .ok (.invokevirtual 149, 3) := by decide +kernel
theorem dX13_statementWithin_8 : decode cX13_statementWithin 8 = .ok (.istore_n 1, 1) := by decide +kernel
theorem dX13_statementWithin_9 : decode cX13_statementWithin 9 = .ok (.aload_n 0, 1) := by decide +kernel
theorem dX13_statementWithin_10 : decode cX13_statementWithin 10 = .ok (.bipush 123, 2) := by decide +kernel
theorem dX13_statementWithin_12 : decode cX13_statementWithin 12 = .ok (.invokevirtual 156, 3) := by decide +kernel
theorem dX13_statementWithin_15 : decode cX13_statementWithin 15 = .ok (.ifCond .eq 9, 3) := by decide +kernel
theorem dX13_statementWithin_18 : decode cX13_statementWithin 18 = .ok (.aload_n 0, 1) := by decide +kernel
theorem dX13_statementWithin_19 : decode cX13_statementWithin 19 = .ok (.iload_n 1, 1) := by decide +kernel
theorem dX13_statementWithin_20 : decode cX13_statementWithin 20 = .ok (.invokevirtual 480, 3) := by decide +kernel
theorem dX13_statementWithin_23 : decode cX13_statementWithin 23 = .ok (.ireturn, 1) := by decide +kernel
theorem dX13_statementWithin_24 : decode cX13_statementWithin 24 = .ok (.aload_n 0, 1) := by decide +kernel
theorem dX13_statementWithin_25 : decode cX13_statementWithin 25 = .ok (.ldc_w 460, 3) := by decide +kernel
theorem dX13_statementWithin_28 : decode cX13_statementWithin 28 = .ok (.invokevirtual 238, 3) := by decide +kernel
theorem dX13_statementWithin_31 : decode cX13_statementWithin 31 = .ok (.ifCond .eq 88, 3) := by decide +kernel
theorem dX13_statementWithin_34 : decode cX13_statementWithin 34 = .ok (.aload_n 0, 1) := by decide +kernel
theorem dX13_statementWithin_35 : decode cX13_statementWithin 35 = .ok (.bipush 21, 2) := by decide +kernel
theorem dX13_statementWithin_37 : decode cX13_statementWithin 37 = .ok (.iload_n 1, 1) := by decide +kernel
theorem dX13_statementWithin_38 : decode cX13_statementWithin 38 = .ok (.invokevirtual 483, 3) := by decide +kernel
theorem dX13_statementWithin_41 : decode cX13_statementWithin 41 = .ok (.istore_n 2, 1) := by decide +kernel
theorem dX13_statementWithin_42 : decode cX13_statementWithin 42 = .ok (.aload_n 0, 1) := by decide +kernel
theorem dX13_statementWithin_43 : decode cX13_statementWithin 43 = .ok (.getfield 182, 3) := by decide +kernel
theorem dX13_statementWithin_46 : decode cX13_statementWithin 46 = .ok (.iload_n 2, 1) := by decide +kernel
theorem dX13_statementWithin_47 : decode cX13_statementWithin 47 = .ok (.aload_n 0, 1) := by decide +kernel
theorem dX13_statementWithin_48 : decode cX13_statementWithin 48 = .ok (.aload_n 0, 1) := by decide +kernel
theorem dX13_statementWithin_49 : decode cX13_statementWithin 49 = .ok (.getfield 135, 3) := by decide +kernel
theorem dX13_statementWithin_52 : decode cX13_statementWithin 52 = .ok (.invokevirtual 149, 3) := by decide +kernel
theorem dX13_statementWithin_55 : decode cX13_statementWithin 55 = .ok (.iastore, 1) := by decide +kernel
theorem dX13_statementWithin_56 : decode cX13_statementWithin 56 = .ok (.aload_n 0, 1) := by decide +kernel
theorem dX13_statementWithin_57 : decode cX13_statementWithin 57 = .ok (.getfield 191, 3) := by decide +kernel
theorem dX13_statementWithin_60 : decode cX13_statementWithin 60 = .ok (.iload_n 2, 1) := by decide +kernel
theorem dX13_statementWithin_61 : decode cX13_statementWithin 61 = .ok (.aload_n 0, 1) := by decide +kernel
theorem dX13_statementWithin_62 : decode cX13_statementWithin 62 = .ok (.invokevirtual 423, 3) := by decide +kernel
theorem dX13_statementWithin_65 : decode cX13_statementWithin 65 = .ok (.lastore, 1) := by decide +kernel
theorem dX13_statementWithin_66 : decode cX13_statementWithin 66 = .ok (.aload_n 0, 1) := by decide +kernel
theorem dX13_statementWithin_67 : decode cX13_statementWithin 67 = .ok (.iconst 2, 1) := by decide +kernel
theorem dX13_statementWithin_68 : decode cX13_statementWithin 68 = .ok (.iconst 0, 1) := by decide +kernel
theorem dX13_statementWithin_69 : decode cX13_statementWithin 69 = .ok (.invokevirtual 252, 3) := by decide +kernel
theorem dX13_statementWithin_72 : decode cX13_statementWithin 72 = .ok (.istore_n 3, 1) := by decide +kernel
theorem dX13_statementWithin_73 : decode cX13_statementWithin 73 = .ok (.aload_n 0, 1) := by decide +kernel
theorem dX13_statementWithin_74 : decode cX13_statementWithin 74 = .ok (.getfield 185, 3) := by decide +kernel
theorem dX13_statementWithin_77 : decode cX13_statementWithin 77 = .ok (.iload_n 2, 1) := by decide +kernel
theorem dX13_statementWithin_78 : decode cX13_statementWithin 78 = .ok (.aload_n 0, 1) := by decide +kernel
theorem dX13_statementWithin_79 : decode cX13_statementWithin 79 = .ok (.iload_n 3, 1) := by decide +kernel
theorem dX13_statementWithin_80 : decode cX13_statementWithin 80 = .ok (.invokevirtual 141, 3) := by decide +kernel
theorem dX13_statementWithin_83 : decode cX13_statementWithin 83 = .ok (.lastore, 1) := by decide +kernel
theorem dX13_statementWithin_84 : decode cX13_statementWithin 84 = .ok (.aload_n 0, 1) := by decide +kernel
theorem dX13_statementWithin_85 : decode cX13_statementWithin 85 = .ok (.getfield 179, 3) := by decide +kernel
theorem dX13_statementWithin_88 : decode cX13_statementWithin 88 = .ok (.iload_n 2, 1) := by decide +kernel
theorem dX13_statementWithin_89 : decode cX13_statementWithin 89 = .ok (.aload_n 0, 1) := by decide +kernel
theorem dX13_statementWithin_90 : decode cX13_statementWithin 90 = .ok (.iload_n 3, 1) := by decide +kernel
theorem dX13_statementWithin_91 : decode cX13_statementWithin 91 = .ok (.invokevirtual 149, 3) := by decide +kernel
theorem dX13_statementWithin_94 : decode cX13_statementWithin 94 = .ok (.iastore, 1) := by decide +kernel
theorem dX13_statementWithin_95 : decode cX13_statementWithin 95 = .ok (.aload_n 0, 1) := by decide +kernel
theorem dX13_statementWithin_96 : decode cX13_statementWithin 96 = .ok (.bipush 61, 2) := by decide +kernel
theorem dX13_statementWithin_98 : decode cX13_statementWithin 98 = .ok (.invokevirtual 325, 3) := by decide +kernel
theorem dX13_statementWithin_101 : decode cX13_statementWithin 101 = .ok (.aload_n 0, 1) := by decide +kernel
theorem dX13_statementWithin_102 : decode cX13_statementWithin 102 = .ok (.getfield 194, 3) := by decide +kernel
theorem dX13_statementWithin_105 : decode cX13_statementWithin 105 = .ok (.iload_n 2, 1) := by decide +kernel
theorem dX13_statementWithin_106 : decode cX13_statementWithin 106 = .ok (.aload_n 0, 1) := by decide +kernel
theorem dX13_statementWithin_107 : decode cX13_statementWithin 107 = .ok (.invokevirtual 427, 3) := by decide +kernel
theorem dX13_statementWithin_110 : decode cX13_statementWithin 110 = .ok (.iastore, 1) := by decide +kernel
theorem dX13_statementWithin_111 : decode cX13_statementWithin 111 = .ok (.aload_n 0, 1) := by decide +kernel
theorem dX13_statementWithin_112 : decode cX13_statementWithin 112 = .ok (.bipush 59, 2) := by decide +kernel
theorem dX13_statementWithin_114 : decode cX13_statementWithin 114 = .ok (.invokevirtual 325, 3) := by decide +kernel
theorem dX13_statementWithin_117 : decode cX13_statementWithin 117 = .ok (.iload_n 2, 1) := by decide +kernel
theorem dX13_statementWithin_118 : decode cX13_statementWithin 118 = .ok (.ireturn, 1) := by decide +kernel
theorem dX13_statementWithin_119 : decode cX13_statementWithin 119 = .ok (.aload_n 0, 1) := by decide +kernel
theorem dX13_statementWithin_120 : decode cX13_statementWithin 120 = .ok (.ldc_w 462, 3) := by decide +kernel
theorem dX13_statementWithin_123 : decode cX13_statementWithin 123 = .ok (.invokevirtual 238, 3) := by decide +kernel
theorem dX13_statementWithin_126 : decode cX13_statementWithin 126 = .ok (.ifCond .eq 70, 3) := by decide +kernel
theorem dX13_statementWithin_129 : decode cX13_statementWithin 129 = .ok (.aload_n 0, 1) := by decide +kernel
theorem dX13_statementWithin_130 : decode cX13_statementWithin 130 = .ok (.bipush 22, 2) := by decide +kernel
theorem dX13_statementWithin_132 : decode cX13_statementWithin 132 = .ok (.iload_n 1, 1) := by decide +kernel
theorem dX13_statementWithin_133 : decode cX13_statementWithin 133 = .ok (.invokevirtual 483, 3) := by decide +kernel
theorem dX13_statementWithin_136 : decode cX13_statementWithin 136 = .ok (.istore_n 2, 1) := by decide +kernel
theorem dX13_statementWithin_137 : decode cX13_statementWithin 137 = .ok (.aload_n 0, 1) := by decide +kernel
theorem dX13_statementWithin_138 : decode cX13_statementWithin 138 = .ok (.bipush 40, 2) := by decide +kernel
theorem dX13_statementWithin_140 : decode cX13_statementWithin 140 = .ok (.invokevirtual 325, 3) := by decide +kernel
theorem dX13_statementWithin_143 : decode cX13_statementWithin 143 = .ok (.aload_n 0, 1) := by decide +kernel
theorem dX13_statementWithin_144 : decode cX13_statementWithin 144 = .ok (.getfield 194, 3) := by decide +kernel
theorem dX13_statementWithin_147 : decode cX13_statementWithin 147 = .ok (.iload_n 2, 1) := by decide +kernel
theorem dX13_statementWithin_148 : decode cX13_statementWithin 148 = .ok (.aload_n 0, 1) := by decide +kernel
theorem dX13_statementWithin_149 : decode cX13_statementWithin 149 = .ok (.invokevirtual 427, 3) := by decide +kernel
theorem dX13_statementWithin_152 : decode cX13_statementWithin 152 = .ok (.iastore, 1) := by decide +kernel
theorem dX13_statementWithin_153 : decode cX13_statementWithin 153 = .ok (.aload_n 0, 1) := by decide +kernel
theorem dX13_statementWithin_154 : decode cX13_statementWithin 154 = .ok (.bipush 41, 2) := by decide +kernel
theorem dX13_statementWithin_156 : decode cX13_statementWithin 156 = .ok (.invokevirtual 325, 3) := by decide +kernel
theorem dX13_statementWithin_159 : decode cX13_statementWithin 159 = .ok (.aload_n 0, 1) := by decide +kernel
theorem dX13_statementWithin_160 : decode cX13_statementWithin 160 = .ok (.getfield 197, 3) := by decide +kernel
theorem dX13_statementWithin_163 : decode cX13_statementWithin 163 = .ok (.iload_n 2, 1) := by decide +kernel
theorem dX13_statementWithin_164 : decode cX13_statementWithin 164 = .ok (.aload_n 0, 1) := by decide +kernel
theorem dX13_statementWithin_165 : decode cX13_statementWithin 165 = .ok (.invokevirtual 430, 3) := by decide +kernel
theorem dX13_statementWithin_168 : decode cX13_statementWithin 168 = .ok (.iastore, 1) := by decide +kernel
theorem dX13_statementWithin_169 : decode cX13_statementWithin 169 = .ok (.aload_n 0, 1) := by decide +kernel
theorem dX13_statementWithin_170 : decode cX13_statementWithin 170 = .ok (.getfield 200, 3) := by decide +kernel
theorem dX13_statementWithin_173 : decode cX13_statementWithin 173 = .ok (.iload_n 2, 1) := by decide +kernel
theorem dX13_statementWithin_174 : decode cX13_statementWithin 174 = .ok (.aload_n 0, 1) := by decide +kernel
theorem dX13_statementWithin_175 : decode cX13_statementWithin 175 = .ok (.ldc_w 486, 3) := by decide +kernel
theorem dX13_statementWithin_178 : decode cX13_statementWithin 178 = .ok (.invokevirtual 238, 3) := by decide +kernel
theorem dX13_statementWithin_181 : decode cX13_statementWithin 181 = .ok (.ifCond .eq 10, 3) := by decide +kernel
theorem dX13_statementWithin_184 : decode cX13_statementWithin 184 = .ok (.aload_n 0, 1) := by decide +kernel
theorem dX13_statementWithin_185 : decode cX13_statementWithin 185 = .ok (.invokevirtual 430, 3) := by decide +kernel
theorem dX13_statementWithin_188 : decode cX13_statementWithin 188 = .ok (.goto 5, 3) := by decide +kernel
theorem dX13_statementWithin_191 : decode cX13_statementWithin 191 = .ok (.bipush (-2), 2) := by decide +kernel
theorem dX13_statementWithin_193 : decode cX13_statementWithin 193 = .ok (.iastore, 1) := by decide +kernel
theorem dX13_statementWithin_194 : decode cX13_statementWithin 194 = .ok (.iload_n 2, 1) := by decide +kernel
theorem dX13_statementWithin_195 : decode cX13_statementWithin 195 = .ok (.ireturn, 1) := by decide +kernel
theorem dX13_statementWithin_196 : decode cX13_statementWithin 196 = .ok (.aload_n 0, 1) := by decide +kernel
theorem dX13_statementWithin_197 : decode cX13_statementWithin 197 = .ok (.ldc_w 464, 3) := by decide +kernel
theorem dX13_statementWithin_200 : decode cX13_statementWithin 200 = .ok (.invokevirtual 238, 3) := by decide +kernel
theorem dX13_statementWithin_203 : decode cX13_statementWithin 203 = .ok (.ifCond .eq 45, 3) := by decide +kernel
theorem dX13_statementWithin_206 : decode cX13_statementWithin 206 = .ok (.aload_n 0, 1) := by decide +kernel
theorem dX13_statementWithin_207 : decode cX13_statementWithin 207 = .ok (.bipush 23, 2) := by decide +kernel
theorem dX13_statementWithin_209 : decode cX13_statementWithin 209 = .ok (.iload_n 1, 1) := by decide +kernel
theorem dX13_statementWithin_210 : decode cX13_statementWithin 210 = .ok (.invokevirtual 483, 3) := by decide +kernel
theorem dX13_statementWithin_213 : decode cX13_statementWithin 213 = .ok (.istore_n 2, 1) := by decide +kernel
theorem dX13_statementWithin_214 : decode cX13_statementWithin 214 = .ok (.aload_n 0, 1) := by decide +kernel
theorem dX13_statementWithin_215 : decode cX13_statementWithin 215 = .ok (.bipush 40, 2) := by decide +kernel
theorem dX13_statementWithin_217 : decode cX13_statementWithin 217 = .ok (.invokevirtual 325, 3) := by decide +kernel
theorem dX13_statementWithin_220 : decode cX13_statementWithin 220 = .ok (.aload_n 0, 1) := by decide +kernel
theorem dX13_statementWithin_221 : decode cX13_statementWithin 221 = .ok (.getfield 194, 3) := by decide +kernel
theorem dX13_statementWithin_224 : decode cX13_statementWithin 224 = .ok (.iload_n 2, 1) := by decide +kernel
theorem dX13_statementWithin_225 : decode cX13_statementWithin 225 = .ok (.aload_n 0, 1) := by decide +kernel
theorem dX13_statementWithin_226 : decode cX13_statementWithin 226 = .ok (.invokevirtual 427, 3) := by decide +kernel
theorem dX13_statementWithin_229 : decode cX13_statementWithin 229 = .ok (.iastore, 1) := by decide +kernel
theorem dX13_statementWithin_230 : decode cX13_statementWithin 230 = .ok (.aload_n 0, 1) := by decide +kernel
theorem dX13_statementWithin_231 : decode cX13_statementWithin 231 = .ok (.bipush 41, 2) := by decide +kernel
theorem dX13_statementWithin_233 : decode cX13_statementWithin 233 = .ok (.invokevirtual 325, 3) := by decide +kernel
theorem dX13_statementWithin_236 : decode cX13_statementWithin 236 = .ok (.aload_n 0, 1) := by decide +kernel
theorem dX13_statementWithin_237 : decode cX13_statementWithin 237 = .ok (.getfield 197, 3) := by decide +kernel
theorem dX13_statementWithin_240 : decode cX13_statementWithin 240 = .ok (.iload_n 2, 1) := by decide +kernel
theorem dX13_statementWithin_241 : decode cX13_statementWithin 241 = .ok (.aload_n 0, 1) := by decide +kernel
theorem dX13_statementWithin_242 : decode cX13_statementWithin 242 = .ok (.invokevirtual 430, 3) := by decide +kernel
theorem dX13_statementWithin_245 : decode cX13_statementWithin 245 = .ok (.iastore, 1) := by decide +kernel
theorem dX13_statementWithin_246 : decode cX13_statementWithin 246 = .ok (.iload_n 2, 1) := by decide +kernel
theorem dX13_statementWithin_247 : decode cX13_statementWithin 247 = .ok (.ireturn, 1) := by decide +kernel
theorem dX13_statementWithin_248 : decode cX13_statementWithin 248 = .ok (.aload_n 0, 1) := by decide +kernel
theorem dX13_statementWithin_249 : decode cX13_statementWithin 249 = .ok (.ldc_w 466, 3) := by decide +kernel
theorem dX13_statementWithin_252 : decode cX13_statementWithin 252 = .ok (.invokevirtual 238, 3) := by decide +kernel
theorem dX13_statementWithin_255 : decode cX13_statementWithin 255 = .ok (.ifCond .eq 50, 3) := by decide +kernel
theorem dX13_statementWithin_258 : decode cX13_statementWithin 258 = .ok (.aload_n 0, 1) := by decide +kernel
theorem dX13_statementWithin_259 : decode cX13_statementWithin 259 = .ok (.bipush 24, 2) := by decide +kernel
theorem dX13_statementWithin_261 : decode cX13_statementWithin 261 = .ok (.iload_n 1, 1) := by decide +kernel
theorem dX13_statementWithin_262 : decode cX13_statementWithin 262 = .ok (.invokevirtual 483, 3) := by decide +kernel
theorem dX13_statementWithin_265 : decode cX13_statementWithin 265 = .ok (.istore_n 2, 1) := by decide +kernel
theorem dX13_statementWithin_266 : decode cX13_statementWithin 266 = .ok (.aload_n 0, 1) := by decide +kernel
theorem dX13_statementWithin_267 : decode cX13_statementWithin 267 = .ok (.getfield 194, 3) := by decide +kernel
theorem dX13_statementWithin_270 : decode cX13_statementWithin 270 = .ok (.iload_n 2, 1) := by decide +kernel
theorem dX13_statementWithin_271 : decode cX13_statementWithin 271 = .ok (.aload_n 0, 1) := by decide +kernel
theorem dX13_statementWithin_272 : decode cX13_statementWithin 272 = .ok (.getfield 129, 3) := by decide +kernel
theorem dX13_statementWithin_275 : decode cX13_statementWithin 275 = .ok (.ifCond .ne 17, 3) := by decide +kernel
theorem dX13_statementWithin_278 : decode cX13_statementWithin 278 = .ok (.aload_n 0, 1) := by decide +kernel
theorem dX13_statementWithin_279 : decode cX13_statementWithin 279 = .ok (.bipush 59, 2) := by decide +kernel
theorem dX13_statementWithin_281 : decode cX13_statementWithin 281 = .ok (.invokevirtual 156, 3) := by decide +kernel
theorem dX13_statementWithin_284 : decode cX13_statementWithin 284 = .ok (.ifCond .eq 8, 3) := by decide +kernel
theorem dX13_statementWithin_287 : decode cX13_statementWithin 287 = .ok (.bipush (-2), 2) := by decide +kernel
theorem dX13_statementWithin_289 : decode cX13_statementWithin 289 = .ok (.goto 7, 3) := by decide +kernel
theorem dX13_statementWithin_292 : decode cX13_statementWithin 292 = .ok (.aload_n 0, 1) := by decide +kernel
theorem dX13_statementWithin_293 : decode cX13_statementWithin 293 = .ok (.invokevirtual 427, 3) := by decide +kernel
theorem dX13_statementWithin_296 : decode cX13_statementWithin 296 = .ok (.iastore, 1) := by decide +kernel
theorem dX13_statementWithin_297 : decode cX13_statementWithin 297 = .ok (.aload_n 0, 1) := by decide +kernel
theorem dX13_statementWithin_298 : decode cX13_statementWithin 298 = .ok (.bipush 59, 2) := by decide +kernel
theorem dX13_statementWithin_300 : decode cX13_statementWithin 300 = .ok (.invokevirtual 325, 3) := by decide +kernel
theorem dX13_statementWithin_303 : decode cX13_statementWithin 303 = .ok (.iload_n 2, 1) := by decide +kernel
theorem dX13_statementWithin_304 : decode cX13_statementWithin 304 = .ok (.ireturn, 1) := by decide +kernel
theorem dX13_statementWithin_305 : decode cX13_statementWithin 305 = .ok (.aload_n 0, 1) := by decide +kernel
theorem dX13_statementWithin_306 : decode cX13_statementWithin 306 = .ok (.getfield 129, 3) := by decide +kernel
theorem dX13_statementWithin_309 : decode cX13_statementWithin 309 = .ok (.ifCond .ne 68, 3) := by decide +kernel
theorem dX13_statementWithin_312 : decode cX13_statementWithin 312 = .ok (.aload_n 0, 1) := by decide +kernel
theorem dX13_statementWithin_313 : decode cX13_statementWithin 313 = .ok (.ldc_w 468, 3) := by decide +kernel
theorem dX13_statementWithin_316 : decode cX13_statementWithin 316 = .ok (.invokevirtual 166, 3) := by decide +kernel
theorem dX13_statementWithin_319 : decode cX13_statementWithin 319 = .ok (.ifCond .ne 13, 3) := by decide +kernel
theorem dX13_statementWithin_322 : decode cX13_statementWithin 322 = .ok (.aload_n 0, 1) := by decide +kernel
theorem dX13_statementWithin_323 : decode cX13_statementWithin 323 = .ok (.ldc_w 472, 3) := by decide +kernel
theorem dX13_statementWithin_326 : decode cX13_statementWithin 326 = .ok (.invokevirtual 166, 3) := by decide +kernel
theorem dX13_statementWithin_329 : decode cX13_statementWithin 329 = .ok (.ifCond .eq 48, 3) := by decide +kernel
theorem dX13_statementWithin_332 : decode cX13_statementWithin 332 = .ok (.aload_n 0, 1) := by decide +kernel
theorem dX13_statementWithin_333 : decode cX13_statementWithin 333 = .ok (.aload_n 0, 1) := by decide +kernel
theorem dX13_statementWithin_334 : decode cX13_statementWithin 334 = .ok (.ldc_w 468, 3) := by decide +kernel
theorem dX13_statementWithin_337 : decode cX13_statementWithin 337 = .ok (.invokevirtual 166, 3) := by decide +kernel
theorem dX13_statementWithin_340 : decode cX13_statementWithin 340 = .ok (.ifCond .eq 8, 3) := by decide +kernel
theorem dX13_statementWithin_343 : decode cX13_statementWithin 343 = .ok (.bipush 25, 2) := by decide +kernel
theorem dX13_statementWithin_345 : decode cX13_statementWithin 345 = .ok (.goto 5, 3) := by decide +kernel
theorem dX13_statementWithin_348 : decode cX13_statementWithin 348 = .ok (.bipush 27, 2) := by decide +kernel
theorem dX13_statementWithin_350 : decode cX13_statementWithin 350 = .ok (.iload_n 1, 1) := by decide +kernel
theorem dX13_statementWithin_351 : decode cX13_statementWithin 351 = .ok (.invokevirtual 483, 3) := by decide +kernel
theorem dX13_statementWithin_354 : decode cX13_statementWithin 354 = .ok (.istore_n 2, 1) := by decide +kernel
theorem dX13_statementWithin_355 : decode cX13_statementWithin 355 = .ok (.aload_n 0, 1) := by decide +kernel
theorem dX13_statementWithin_356 : decode cX13_statementWithin 356 = .ok (.invokevirtual 159, 3) := by decide +kernel
theorem dX13_statementWithin_359 : decode cX13_statementWithin 359 = .ok (.aload_n 0, 1) := by decide +kernel
theorem dX13_statementWithin_360 : decode cX13_statementWithin 360 = .ok (.getfield 194, 3) := by decide +kernel
theorem dX13_statementWithin_363 : decode cX13_statementWithin 363 = .ok (.iload_n 2, 1) := by decide +kernel
theorem dX13_statementWithin_364 : decode cX13_statementWithin 364 = .ok (.aload_n 0, 1) := by decide +kernel
theorem dX13_statementWithin_365 : decode cX13_statementWithin 365 = .ok (.invokevirtual 427, 3) := by decide +kernel
theorem dX13_statementWithin_368 : decode cX13_statementWithin 368 = .ok (.iastore, 1) := by decide +kernel
theorem dX13_statementWithin_369 : decode cX13_statementWithin 369 = .ok (.aload_n 0, 1) := by decide +kernel
theorem dX13_statementWithin_370 : decode cX13_statementWithin 370 = .ok (.bipush 59, 2) := by decide +kernel
theorem dX13_statementWithin_372 : decode cX13_statementWithin 372 = .ok (.invokevirtual 325, 3) := by decide +kernel
theorem dX13_statementWithin_375 : decode cX13_statementWithin 375 = .ok (.iload_n 2, 1) := by decide +kernel
theorem dX13_statementWithin_376 : decode cX13_statementWithin 376 = .ok (.ireturn, 1) := by decide +kernel
theorem dX13_statementWithin_377 : decode cX13_statementWithin 377 = .ok (.aload_n 0, 1) := by decide +kernel
theorem dX13_statementWithin_378 : decode cX13_statementWithin 378 = .ok (.ldc_w 470, 3) := by decide +kernel
theorem dX13_statementWithin_381 : decode cX13_statementWithin 381 = .ok (.invokevirtual 238, 3) := by decide +kernel
theorem dX13_statementWithin_384 : decode cX13_statementWithin 384 = .ok (.ifCond .eq 9, 3) := by decide +kernel
theorem dX13_statementWithin_387 : decode cX13_statementWithin 387 = .ok (.aload_n 0, 1) := by decide +kernel
theorem dX13_statementWithin_388 : decode cX13_statementWithin 388 = .ok (.iload_n 1, 1) := by decide +kernel
theorem dX13_statementWithin_389 : decode cX13_statementWithin 389 = .ok (.invokevirtual 488, 3) := by decide +kernel
theorem dX13_statementWithin_392 : decode cX13_statementWithin 392 = .ok (.ireturn, 1) := by decide +kernel
theorem dX13_statementWithin_393 : decode cX13_statementWithin 393 = .ok (.aload_n 0, 1) := by decide +kernel
theorem dX13_statementWithin_394 : decode cX13_statementWithin 394 = .ok (.getfield 129, 3) := by decide +kernel
theorem dX13_statementWithin_397 : decode cX13_statementWithin 397 = .ok (.ifCond .ne 52, 3) := by decide +kernel
theorem dX13_statementWithin_400 : decode cX13_statementWithin 400 = .ok (.aload_n 0, 1) := by decide +kernel
theorem dX13_statementWithin_401 : decode cX13_statementWithin 401 = .ok (.ldc_w 455, 3) := by decide +kernel
theorem dX13_statementWithin_404 : decode cX13_statementWithin 404 = .ok (.invokevirtual 166, 3) := by decide +kernel
theorem dX13_statementWithin_407 : decode cX13_statementWithin 407 = .ok (.ifCond .eq 42, 3) := by decide +kernel
theorem dX13_statementWithin_410 : decode cX13_statementWithin 410 = .ok (.aload_n 0, 1) := by decide +kernel
theorem dX13_statementWithin_411 : decode cX13_statementWithin 411 = .ok (.bipush 40, 2) := by decide +kernel
theorem dX13_statementWithin_413 : decode cX13_statementWithin 413 = .ok (.invokevirtual 491, 3) := by decide +kernel
theorem dX13_statementWithin_416 : decode cX13_statementWithin 416 = .ok (.ifCond .eq 33, 3) := by decide +kernel
theorem dX13_statementWithin_419 : decode cX13_statementWithin 419 = .ok (.aload_n 0, 1) := by decide +kernel
theorem dX13_statementWithin_420 : decode cX13_statementWithin 420 = .ok (.bipush 28, 2) := by decide +kernel
theorem dX13_statementWithin_422 : decode cX13_statementWithin 422 = .ok (.iload_n 1, 1) := by decide +kernel
theorem dX13_statementWithin_423 : decode cX13_statementWithin 423 = .ok (.invokevirtual 483, 3) := by decide +kernel
theorem dX13_statementWithin_426 : decode cX13_statementWithin 426 = .ok (.istore_n 2, 1) := by decide +kernel
theorem dX13_statementWithin_427 : decode cX13_statementWithin 427 = .ok (.aload_n 0, 1) := by decide +kernel
theorem dX13_statementWithin_428 : decode cX13_statementWithin 428 = .ok (.invokevirtual 159, 3) := by decide +kernel
theorem dX13_statementWithin_431 : decode cX13_statementWithin 431 = .ok (.aload_n 0, 1) := by decide +kernel
theorem dX13_statementWithin_432 : decode cX13_statementWithin 432 = .ok (.getfield 194, 3) := by decide +kernel
theorem dX13_statementWithin_435 : decode cX13_statementWithin 435 = .ok (.iload_n 2, 1) := by decide +kernel
theorem dX13_statementWithin_436 : decode cX13_statementWithin 436 = .ok (.aload_n 0, 1) := by decide +kernel
theorem dX13_statementWithin_437 : decode cX13_statementWithin 437 = .ok (.invokevirtual 494, 3) := by decide +kernel
theorem dX13_statementWithin_440 : decode cX13_statementWithin 440 = .ok (.iastore, 1) := by decide +kernel
theorem dX13_statementWithin_441 : decode cX13_statementWithin 441 = .ok (.aload_n 0, 1) := by decide +kernel
theorem dX13_statementWithin_442 : decode cX13_statementWithin 442 = .ok (.bipush 59, 2) := by decide +kernel
theorem dX13_statementWithin_444 : decode cX13_statementWithin 444 = .ok (.invokevirtual 325, 3) := by decide +kernel
theorem dX13_statementWithin_447 : decode cX13_statementWithin 447 = .ok (.iload_n 2, 1) := by decide +kernel
theorem dX13_statementWithin_448 : decode cX13_statementWithin 448 = .ok (.ireturn, 1) := by decide +kernel
theorem dX13_statementWithin_449 : decode cX13_statementWithin 449 = .ok (.aload_n 0, 1) := by decide +kernel
theorem dX13_statementWithin_450 : decode cX13_statementWithin 450 = .ok (.invokevirtual 427, 3) := by decide +kernel
theorem dX13_statementWithin_453 : decode cX13_statementWithin 453 = .ok (.istore_n 2, 1) := by decide +kernel
theorem dX13_statementWithin_454 : decode cX13_statementWithin 454 = .ok (.aload_n 0, 1) := by decide +kernel
theorem dX13_statementWithin_455 : decode cX13_statementWithin 455 = .ok (.getfield 129, 3) := by decide +kernel
theorem dX13_statementWithin_458 : decode cX13_statementWithin 458 = .ok (.ifCond .ne 49, 3) := by decide +kernel
theorem dX13_statementWithin_461 : decode cX13_statementWithin 461 = .ok (.aload_n 0, 1) := by decide +kernel
theorem dX13_statementWithin_462 : decode cX13_statementWithin 462 = .ok (.bipush 61, 2) := by decide +kernel
theorem dX13_statementWithin_464 : decode cX13_statementWithin 464 = .ok (.invokevirtual 156, 3) := by decide +kernel
theorem dX13_statementWithin_467 : decode cX13_statementWithin 467 = .ok (.ifCond .eq 40, 3) := by decide +kernel
theorem dX13_statementWithin_470 : decode cX13_statementWithin 470 = .ok (.aload_n 0, 1) := by decide +kernel
theorem dX13_statementWithin_471 : decode cX13_statementWithin 471 = .ok (.invokevirtual 159, 3) := by decide +kernel
theorem dX13_statementWithin_474 : decode cX13_statementWithin 474 = .ok (.aload_n 0, 1) := by decide +kernel
theorem dX13_statementWithin_475 : decode cX13_statementWithin 475 = .ok (.bipush 30, 2) := by decide +kernel
theorem dX13_statementWithin_477 : decode cX13_statementWithin 477 = .ok (.iload_n 1, 1) := by decide +kernel
theorem dX13_statementWithin_478 : decode cX13_statementWithin 478 = .ok (.invokevirtual 483, 3) := by decide +kernel
theorem dX13_statementWithin_481 : decode cX13_statementWithin 481 = .ok (.istore_n 3, 1) := by decide +kernel
theorem dX13_statementWithin_482 : decode cX13_statementWithin 482 = .ok (.aload_n 0, 1) := by decide +kernel
theorem dX13_statementWithin_483 : decode cX13_statementWithin 483 = .ok (.getfield 194, 3) := by decide +kernel
theorem dX13_statementWithin_486 : decode cX13_statementWithin 486 = .ok (.iload_n 3, 1) := by decide +kernel
theorem dX13_statementWithin_487 : decode cX13_statementWithin 487 = .ok (.iload_n 2, 1) := by decide +kernel
theorem dX13_statementWithin_488 : decode cX13_statementWithin 488 = .ok (.iastore, 1) := by decide +kernel
theorem dX13_statementWithin_489 : decode cX13_statementWithin 489 = .ok (.aload_n 0, 1) := by decide +kernel
theorem dX13_statementWithin_490 : decode cX13_statementWithin 490 = .ok (.getfield 197, 3) := by decide +kernel
theorem dX13_statementWithin_493 : decode cX13_statementWithin 493 = .ok (.iload_n 3, 1) := by decide +kernel
theorem dX13_statementWithin_494 : decode cX13_statementWithin 494 = .ok (.aload_n 0, 1) := by decide +kernel

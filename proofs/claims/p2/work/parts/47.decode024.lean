theorem dX13_shape_450 : decode cX13_shape 450 = .ok (.ldc_w 337, 3) := by decide +kernel
theorem dX13_shape_453 : decode cX13_shape 453 = .ok (.invokevirtual 47, 3) := by decide +kernel
theorem dX13_shape_456 : decode cX13_shape 456 = .ok (.goto 31, 3) := by decide +kernel
theorem dX13_shape_459 : decode cX13_shape 459 = .ok (.aload_n 0, 1) := by decide +kernel
theorem dX13_shape_460 : decode cX13_shape 460 = .ok (.aload_n 0, 1) := by decide +kernel
theorem dX13_shape_461 : decode cX13_shape 461 = .ok (.getfield 359, 3) := by decide +kernel
theorem dX13_shape_464 : decode cX13_shape 464 = .ok (.iload 6, 2) := by decide +kernel
theorem dX13_shape_466 : decode cX13_shape 466 = .ok (.laload, 1) := by decide +kernel
theorem dX13_shape_467 : decode cX13_shape 467 = .ok (.invokevirtual 1010, 3) := by decide +kernel
theorem dX13_shape_470 : decode cX13_shape 470 = .ok (.aload_n 0, 1) := by decide +kernel
theorem dX13_shape_471 : decode cX13_shape 471 = .ok (.bipush 32, 2) := by decide +kernel
theorem dX13_shape_473 : decode cX13_shape 473 = .ok (.invokevirtual 29, 3) := by decide +kernel
theorem dX13_shape_476 : decode cX13_shape 476 = .ok (.aload_n 0, 1) := by decide +kernel
theorem dX13_shape_477 : decode cX13_shape 477 = .ok (.aload_n 0, 1) := by decide +kernel
theorem dX13_shape_478 : decode cX13_shape 478 = .ok (.getfield 356, 3) := by decide +kernel
theorem dX13_shape_481 : decode cX13_shape 481 = .ok (.iload 6, 2) := by decide +kernel
theorem dX13_shape_483 : decode cX13_shape 483 = .ok (.laload, 1) := by decide +kernel
theorem dX13_shape_484 : decode cX13_shape 484 = .ok (.invokevirtual 53, 3) := by decide +kernel
theorem dX13_shape_487 : decode cX13_shape 487 = .ok (.aload_n 0, 1) := by decide +kernel
theorem dX13_shape_488 : decode cX13_shape 488 = .ok (.getfield 402, 3) := by decide +kernel
theorem dX13_shape_491 : decode cX13_shape 491 = .ok (.iload 6, 2) := by decide +kernel
theorem dX13_shape_493 : decode cX13_shape 493 = .ok (.iaload, 1) := by decide +kernel
theorem dX13_shape_494 : decode cX13_shape 494 = .ok (.ifCond .eq 12, 3) := by decide +kernel
theorem dX13_shape_497 : decode cX13_shape 497 = .ok (.aload_n 0, 1) := by decide +kernel
theorem dX13_shape_498 : decode cX13_shape 498 = .ok (.iload 6, 2) := by decide +kernel
theorem dX13_shape_500 : decode cX13_shape 500 = .ok (.invokevirtual 1056, 3) := by decide +kernel
theorem dX13_shape_503 : decode cX13_shape 503 = .ok (.goto 31, 3) := by decide +kernel
theorem dX13_shape_506 : decode cX13_shape 506 = .ok (.aload_n 0, 1) := by decide +kernel
theorem dX13_shape_507 : decode cX13_shape 507 = .ok (.getfield 377, 3) := by decide +kernel
theorem dX13_shape_510 : decode cX13_shape 510 = .ok (.iload 6, 2) := by decide +kernel
theorem dX13_shape_512 : decode cX13_shape 512 = .ok (.baload, 1) := by decide +kernel
theorem dX13_shape_513 : decode cX13_shape 513 = .ok (.ifCond .eq 21, 3) := by decide +kernel
theorem dX13_shape_516 : decode cX13_shape 516 = .ok (.aload_n 0, 1) := by decide +kernel
theorem dX13_shape_517 : decode cX13_shape 517 = .ok (.bipush 61, 2) := by decide +kernel
theorem dX13_shape_519 : decode cX13_shape 519 = .ok (.invokevirtual 29, 3) := by decide +kernel
theorem dX13_shape_522 : decode cX13_shape 522 = .ok (.aload_n 0, 1) := by decide +kernel
theorem dX13_shape_523 : decode cX13_shape 523 = .ok (.aload_n 0, 1) := by decide +kernel
theorem dX13_shape_524 : decode cX13_shape 524 = .ok (.getfield 380, 3) := by decide +kernel
theorem dX13_shape_527 : decode cX13_shape 527 = .ok (.iload 6, 2) := by decide +kernel
theorem dX13_shape_529 : decode cX13_shape 529 = .ok (.iaload, 1) := by decide +kernel
theorem dX13_shape_530 : decode cX13_shape 530 = .ok (.i2l, 1) := by decide +kernel
theorem dX13_shape_531 : decode cX13_shape 531 = .ok (.invokevirtual 1059, 3) := by decide +kernel
theorem dX13_shape_534 : decode cX13_shape 534 = .ok (.aload_n 0, 1) := by decide +kernel
theorem dX13_shape_535 : decode cX13_shape 535 = .ok (.getfield 15, 3) := by decide +kernel
theorem dX13_shape_538 : decode cX13_shape 538 = .ok (.ireturn, 1) := by decide +kernel
theorem dX13_uses_0 : decode cX13_uses 0 = .ok (.aload_n 0, 1) := by decide +kernel
theorem dX13_uses_1 : decode cX13_uses 1 = .ok (.iload_n 1, 1) := by decide +kernel
theorem dX13_uses_2 : decode cX13_uses 2 = .ok (.iload_n 2, 1) := by decide +kernel
theorem dX13_uses_3 : decode cX13_uses 3 = .ok (.invokevirtual 992, 3) := by decide +kernel
theorem dX13_uses_6 : decode cX13_uses 6 = .ok (.istore_n 3, 1) := by decide +kernel
theorem dX13_uses_7 : decode cX13_uses 7 = .ok (.iload_n 3, 1) := by decide +kernel
theorem dX13_uses_8 : decode cX13_uses 8 = .ok (.bipush (-2), 2) := by decide +kernel
theorem dX13_uses_10 : decode cX13_uses 10 = .ok (.if_icmp .ne 7, 3) := by decide +kernel
theorem dX13_uses_13 : decode cX13_uses 13 = .ok (.iconst (-1), 1) := by decide +kernel
theorem dX13_uses_14 : decode cX13_uses 14 = .ok (.goto 9, 3) := by decide +kernel
theorem dX13_uses_17 : decode cX13_uses 17 = .ok (.aload_n 0, 1) := by decide +kernel
theorem dX13_uses_18 : decode cX13_uses 18 = .ok (.getfield 863, 3) := by decide +kernel
theorem dX13_uses_21 : decode cX13_uses 21 = .ok (.iload_n 3, 1) := by decide +kernel
theorem dX13_uses_22 : decode cX13_uses 22 = .ok (.iaload, 1) := by decide +kernel
theorem dX13_uses_23 : decode cX13_uses 23 = .ok (.ireturn, 1) := by decide +kernel
theorem dX13_useAt_0 : decode cX13_useAt 0 = .ok (.aload_n 0, 1) := by decide +kernel
theorem dX13_useAt_1 : decode cX13_useAt 1 = .ok (.iload_n 1, 1) := by decide +kernel
theorem dX13_useAt_2 : decode cX13_useAt 2 = .ok (.iload_n 2, 1) := by decide +kernel
theorem dX13_useAt_3 : decode cX13_useAt 3 = .ok (.invokevirtual 992, 3) := by decide +kernel
theorem dX13_useAt_6 : decode cX13_useAt 6 = .ok (.istore 4, 2) := by decide +kernel
theorem dX13_useAt_8 : decode cX13_useAt 8 = .ok (.iload 4, 2) := by decide +kernel
theorem dX13_useAt_10 : decode cX13_useAt 10 = .ok (.bipush (-2), 2) := by decide +kernel
theorem dX13_useAt_12 : decode cX13_useAt 12 = .ok (.if_icmp .eq 18, 3) := by decide +kernel
theorem dX13_useAt_15 : decode cX13_useAt 15 = .ok (.iload_n 3, 1) := by decide +kernel
theorem dX13_useAt_16 : decode cX13_useAt 16 = .ok (.ifCond .lt 14, 3) := by decide +kernel
theorem dX13_useAt_19 : decode cX13_useAt 19 = .ok (.iload_n 3, 1) := by decide +kernel
theorem dX13_useAt_20 : decode cX13_useAt 20 = .ok (.aload_n 0, 1) := by decide +kernel
theorem dX13_useAt_21 : decode cX13_useAt 21 = .ok (.getfield 863, 3) := by decide +kernel
theorem dX13_useAt_24 : decode cX13_useAt 24 = .ok (.iload 4, 2) := by decide +kernel
theorem dX13_useAt_26 : decode cX13_useAt 26 = .ok (.iaload, 1) := by decide +kernel
theorem dX13_useAt_27 : decode cX13_useAt 27 = .ok (.if_icmp .lt 8, 3) := by decide +kernel
theorem dX13_useAt_30 : decode cX13_useAt 30 = .ok (.bipush (-2), 2) := by decide +kernel
theorem dX13_useAt_32 : decode cX13_useAt 32 = .ok (.goto 11, 3) := by decide +kernel
theorem dX13_useAt_35 : decode cX13_useAt 35 = .ok (.iload 4, 2) := by decide +kernel
theorem dX13_useAt_37 : decode cX13_useAt 37 = .ok (.sipush 1800, 3) := by decide +kernel
theorem dX13_useAt_40 : decode cX13_useAt 40 = .ok (.imul, 1) := by decide +kernel
theorem dX13_useAt_41 : decode cX13_useAt 41 = .ok (.iload_n 3, 1) := by decide +kernel
theorem dX13_useAt_42 : decode cX13_useAt 42 = .ok (.iadd, 1) := by decide +kernel
theorem dX13_useAt_43 : decode cX13_useAt 43 = .ok (.ireturn, 1) := by decide +kernel
theorem dX13_use_0 : decode cX13_use 0 = .ok (.aload_n 0, 1) := by decide +kernel
theorem dX13_use_1 : decode cX13_use 1 = .ok (.iload_n 1, 1) := by decide +kernel
theorem dX13_use_2 : decode cX13_use 2 = .ok (.iload_n 2, 1) := by decide +kernel
theorem dX13_use_3 : decode cX13_use 3 = .ok (.iload_n 3, 1) := by decide +kernel
theorem dX13_use_4 : decode cX13_use 4 = .ok (.invokevirtual 1062, 3) := by decide +kernel
theorem dX13_use_7 : decode cX13_use 7 = .ok (.istore 5, 2) := by decide +kernel
theorem dX13_use_9 : decode cX13_use 9 = .ok (.iload 5, 2) := by decide +kernel
theorem dX13_use_11 : decode cX13_use 11 = .ok (.bipush (-2), 2) := by decide +kernel
theorem dX13_use_13 : decode cX13_use 13 = .ok (.if_icmp .eq 14, 3) := by decide +kernel
theorem dX13_use_16 : decode cX13_use 16 = .ok (.iload 4, 2) := by decide +kernel
theorem dX13_use_18 : decode cX13_use 18 = .ok (.ifCond .lt 9, 3) := by decide +kernel
theorem dX13_use_21 : decode cX13_use 21 = .ok (.iload 4, 2) := by decide +kernel
theorem dX13_use_23 : decode cX13_use 23 = .ok (.iconst 1, 1) := by decide +kernel
theorem dX13_use_24 : decode cX13_use 24 = .ok (.if_icmp .le 7, 3) := by decide +kernel
theorem dX13_use_27 : decode cX13_use 27 = .ok (.iconst (-1), 1) := by decide +kernel
theorem dX13_use_28 : decode cX13_use 28 = .ok (.goto 28, 3) := by decide +kernel
theorem dX13_use_31 : decode cX13_use 31 = .ok (.iload 4, 2) := by decide +kernel
theorem dX13_use_33 : decode cX13_use 33 = .ok (.ifCond .ne 13, 3) := by decide +kernel
theorem dX13_use_36 : decode cX13_use 36 = .ok (.aload_n 0, 1) := by decide +kernel
theorem dX13_use_37 : decode cX13_use 37 = .ok (.getfield 866, 3) := by decide +kernel
theorem dX13_use_40 : decode cX13_use 40 = .ok (.iload 5, 2) := by decide +kernel
theorem dX13_use_42 : decode cX13_use 42 = .ok (.iaload, 1) := by decide +kernel
theorem dX13_use_43 : decode cX13_use 43 = .ok (.goto 13, 3) := by decide +kernel
theorem dX13_use_46 : decode cX13_use 46 = .ok (.aload_n 0, 1) := by decide +kernel
theorem dX13_use_47 : decode cX13_use 47 = .ok (.getfield 869, 3) := by decide +kernel
theorem dX13_use_50 : decode cX13_use 50 = .ok (.iload 5, 2) := by decide +kernel
theorem dX13_use_52 : decode cX13_use 52 = .ok (.iaload, 1) := by decide +kernel
theorem dX13_use_53 : decode cX13_use 53 = .ok (.bipush 12, 2) := by decide +kernel
theorem dX13_use_55 : decode cX13_use 55 = .ok (.irem, 1) := by decide +kernel
theorem dX13_use_56 : decode cX13_use 56 = .ok (.ireturn, 1) := by decide +kernel
theorem dX13_tell_0 : decode cX13_tell 0 = .ok (.aload_n 0, 1) := by decide +kernel
theorem dX13_tell_1 : decode cX13_tell 1 = .ok (.iload_n 1, 1) := by decide +kernel
theorem dX13_tell_2 : decode cX13_tell 2 = .ok (.iload_n 2, 1) := by decide +kernel
theorem dX13_tell_3 : decode cX13_tell 3 = .ok (.iload_n 3, 1) := by decide +kernel
theorem dX13_tell_4 : decode cX13_tell 4 = .ok (.invokevirtual 1062, 3) := by decide +kernel
theorem dX13_tell_7 : decode cX13_tell 7 = .ok (.istore 4, 2) := by decide +kernel
theorem dX13_tell_9 : decode cX13_tell 9 = .ok (.iload 4, 2) := by decide +kernel
theorem dX13_tell_11 : decode cX13_tell 11 = .ok (.bipush (-2), 2) := by decide +kernel
theorem dX13_tell_13 : decode cX13_tell 13 = .ok (.if_icmp .ne 5, 3) := by decide +kernel
theorem dX13_tell_16 : decode cX13_tell 16 = .ok (.iconst (-1), 1) := by decide +kernel
theorem dX13_tell_17 : decode cX13_tell 17 = .ok (.ireturn, 1) := by decide +kernel
theorem dX13_tell_18 : decode cX13_tell 18 = .ok (.aload_n 0, 1) := by decide +kernel
theorem dX13_tell_19 : decode cX13_tell 19 = .ok (.iconst 0, 1) := by decide +kernel
theorem dX13_tell_20 : decode cX13_tell 20 = .ok (.putfield 15, 3) := by decide +kernel
theorem dX13_tell_23 : decode cX13_tell 23 = .ok (.aload_n 0, 1) := by decide +kernel
theorem dX13_tell_24 : decode cX13_tell 24 = .ok (.aload_n 0, 1) := by decide +kernel
theorem dX13_tell_25 : decode cX13_tell 25 = .ok (.getfield 866, 3) := by decide +kernel
theorem dX13_tell_28 : decode cX13_tell 28 = .ok (.iload 4, 2) := by decide +kernel
theorem dX13_tell_30 : decode cX13_tell 30 = .ok (.iaload, 1) := by decide +kernel
theorem dX13_tell_31 : decode cX13_tell 31 = .ok (.i2l, 1) := by decide +kernel
theorem dX13_tell_32 : decode cX13_tell 32 = .ok (.invokevirtual 1059, 3) := by decide +kernel
theorem dX13_tell_35 : decode cX13_tell 35 = .ok (.aload_n 0, 1) := by decide +kernel
theorem dX13_tell_36 : decode cX13_tell 36 = .ok (.bipush 32, 2) := by decide +kernel
theorem dX13_tell_38 : decode cX13_tell 38 = .ok (.invokevirtual 29, 3) := by decide +kernel
theorem dX13_tell_41 : decode cX13_tell 41 = .ok (.aload_n 0, 1) := by decide +kernel
theorem dX13_tell_42 : decode cX13_tell 42 = .ok (.aload_n 0, 1) := by decide +kernel
theorem dX13_tell_43 : decode cX13_tell 43 = .ok (.getfield 872, 3) := by decide +kernel
theorem dX13_tell_46 : decode cX13_tell 46 = .ok (.iload 4, 2) := by decide +kernel
theorem dX13_tell_48 : decode cX13_tell 48 = .ok (.laload, 1) := by decide +kernel
theorem dX13_tell_49 : decode cX13_tell 49 = .ok (.invokevirtual 53, 3) := by decide +kernel
theorem dX13_tell_52 : decode cX13_tell 52 = .ok (.aload_n 0, 1) := by decide +kernel
theorem dX13_tell_53 : decode cX13_tell 53 = .ok (.getfield 866, 3) := by decide +kernel
theorem dX13_tell_56 : decode cX13_tell 56 = .ok (.iload 4, 2) := by decide +kernel
theorem dX13_tell_58 : decode cX13_tell 58 = .ok (.iaload, 1) := by decide +kernel
theorem dX13_tell_59 : decode cX13_tell 59 = .ok (.istore 5, 2) := by decide +kernel
theorem dX13_tell_61 : decode cX13_tell 61 = .ok (.iload 5, 2) := by decide +kernel
theorem dX13_tell_63 : decode cX13_tell 63 = .ok (.bipush 17, 2) := by decide +kernel
theorem dX13_tell_65 : decode cX13_tell 65 = .ok (.if_icmp .ne 23, 3) := by decide +kernel
theorem dX13_tell_68 : decode cX13_tell 68 = .ok (.aload_n 0, 1) := by decide +kernel
theorem dX13_tell_69 : decode cX13_tell 69 = .ok (.bipush 62, 2) := by decide +kernel
theorem dX13_tell_71 : decode cX13_tell 71 = .ok (.invokevirtual 29, 3) := by decide +kernel
theorem dX13_tell_74 : decode cX13_tell 74 = .ok (.aload_n 0, 1) := by decide +kernel
theorem dX13_tell_75 : decode cX13_tell 75 = .ok (.aload_n 0, 1) := by decide +kernel
theorem dX13_tell_76 : decode cX13_tell 76 = .ok (.getfield 884, 3) := by decide +kernel
theorem dX13_tell_79 : decode cX13_tell 79 = .ok (.iload 4, 2) := by decide +kernel
theorem dX13_tell_81 : decode cX13_tell 81 = .ok (.laload, 1) := by decide +kernel
theorem dX13_tell_82 : decode cX13_tell 82 = .ok (.invokevirtual 53, 3) := by decide +kernel
theorem dX13_tell_85 : decode cX13_tell 85 = .ok (.goto 67, 3) := by decide +kernel
theorem dX13_tell_88 : decode cX13_tell 88 = .ok (.iload 5, 2) := by decide +kernel
theorem dX13_tell_90 : decode cX13_tell 90 = .ok (.iconst 2, 1) := by decide +kernel
theorem dX13_tell_91 : decode cX13_tell 91 = .ok (.if_icmp .lt 10, 3) := by decide +kernel
theorem dX13_tell_94 : decode cX13_tell 94 = .ok (.iload 5, 2) := by decide +kernel
theorem dX13_tell_96 : decode cX13_tell 96 = .ok (.bipush 12, 2) := by decide +kernel
theorem dX13_tell_98 : decode cX13_tell 98 = .ok (.if_icmp .le 10, 3) := by decide +kernel
theorem dX13_tell_101 : decode cX13_tell 101 = .ok (.iload 5, 2) := by decide +kernel
theorem dX13_tell_103 : decode cX13_tell 103 = .ok (.bipush 16, 2) := by decide +kernel
theorem dX13_tell_105 : decode cX13_tell 105 = .ok (.if_icmp .ne 47, 3) := by decide +kernel
theorem dX13_tell_108 : decode cX13_tell 108 = .ok (.aload_n 0, 1) := by decide +kernel
theorem dX13_tell_109 : decode cX13_tell 109 = .ok (.bipush 46, 2) := by decide +kernel
theorem dX13_tell_111 : decode cX13_tell 111 = .ok (.invokevirtual 29, 3) := by decide +kernel
theorem dX13_tell_114 : decode cX13_tell 114 = .ok (.aload_n 0, 1) := by decide +kernel
theorem dX13_tell_115 : decode cX13_tell 115 = .ok (.iload 5, 2) := by decide +kernel
theorem dX13_tell_117 : decode cX13_tell 117 = .ok (.iconst 2, 1) := by decide +kernel
theorem dX13_tell_118 : decode cX13_tell 118 = .ok (.if_icmp .ne 9, 3) := by decide +kernel
theorem dX13_tell_121 : decode cX13_tell 121 = .ok (.ldc_w 337, 3) := by decide +kernel
theorem dX13_tell_124 : decode cX13_tell 124 = .ok (.goto 6, 3) := by decide +kernel
theorem dX13_tell_127 : decode cX13_tell 127 = .ok (.ldc_w 1020, 3) := by decide +kernel
theorem dX13_tell_130 : decode cX13_tell 130 = .ok (.invokevirtual 47, 3) := by decide +kernel
theorem dX13_tell_133 : decode cX13_tell 133 = .ok (.aload_n 0, 1) := by decide +kernel
theorem dX13_tell_134 : decode cX13_tell 134 = .ok (.aload_n 0, 1) := by decide +kernel
theorem dX13_tell_135 : decode cX13_tell 135 = .ok (.getfield 875, 3) := by decide +kernel
theorem dX13_tell_138 : decode cX13_tell 138 = .ok (.iload 4, 2) := by decide +kernel
theorem dX13_tell_140 : decode cX13_tell 140 = .ok (.laload, 1) := by decide +kernel
theorem dX13_tell_141 : decode cX13_tell 141 = .ok (.invokevirtual 53, 3) := by decide +kernel
theorem dX13_tell_144 : decode cX13_tell 144 = .ok (.aload_n 0, 1) := by decide +kernel
theorem dX13_tell_145 : decode cX13_tell 145 = .ok (.iload 4, 2) := by decide +kernel
theorem dX13_tell_147 : decode cX13_tell 147 = .ok (.iload 5, 2) := by decide +kernel
theorem dX13_tell_149 : decode cX13_tell 149 = .ok (.invokevirtual 1065, 3) := by decide +kernel
theorem dX13_tell_152 : decode cX13_tell 152 = .ok (.aload_n 0, 1) := by decide +kernel
theorem dX13_tell_153 : decode cX13_tell 153 = .ok (.getfield 15, 3) := by decide +kernel
theorem dX13_tell_156 : decode cX13_tell 156 = .ok (.ireturn, 1) := by decide +kernel
theorem dX13_outMember_0 : decode cX13_outMember 0 = .ok (.iload_n 2, 1) := by decide +kernel
theorem dX13_outMember_1 : decode cX13_outMember 1 = .ok (.bipush 16, 2) := by decide +kernel
theorem dX13_outMember_3 : decode cX13_outMember 3 = .ok (.if_icmp .ne 23, 3) := by decide +kernel
theorem dX13_outMember_6 : decode cX13_outMember 6 = .ok (.aload_n 0, 1) := by decide +kernel
theorem dX13_outMember_7 : decode cX13_outMember 7 = .ok (.bipush 61, 2) := by decide +kernel
theorem dX13_outMember_9 : decode cX13_outMember 9 = .ok (.invokevirtual 29, 3) := by decide +kernel
theorem dX13_outMember_12 : decode cX13_outMember 12 = .ok (.aload_n 0, 1) := by decide +kernel
theorem dX13_outMember_13 : decode cX13_outMember 13 = .ok (.aload_n 0, 1) := by decide +kernel
theorem dX13_outMember_14 : decode cX13_outMember 14 = .ok (.getfield 887, 3) := by decide +kernel
theorem dX13_outMember_17 : decode cX13_outMember 17 = .ok (.iload_n 1, 1) := by decide +kernel
theorem dX13_outMember_18 : decode cX13_outMember 18 = .ok (.iaload, 1) := by decide +kernel
theorem dX13_outMember_19 : decode cX13_outMember 19 = .ok (.i2l, 1) := by decide +kernel
theorem dX13_outMember_20 : decode cX13_outMember 20 = .ok (.invokevirtual 1059, 3) := by decide +kernel
theorem dX13_outMember_23 : decode cX13_outMember 23 = .ok (.goto 102, 3) := by decide +kernel
theorem dX13_outMember_26 : decode cX13_outMember 26 = .ok (.iload_n 2, 1) := by decide +kernel
theorem dX13_outMember_27 : decode cX13_outMember 27 = .ok (.iconst 3, 1) := by decide +kernel
theorem dX13_outMember_28 : decode cX13_outMember 28 = .ok (.if_icmp .lt 28, 3) := by decide +kernel
theorem dX13_outMember_31 : decode cX13_outMember 31 = .ok (.iload_n 2, 1) := by decide +kernel
theorem dX13_outMember_32 : decode cX13_outMember 32 = .ok (.bipush 6, 2) := by decide +kernel
theorem dX13_outMember_34 : decode cX13_outMember 34 = .ok (.if_icmp .gt 22, 3) := by decide +kernel
theorem dX13_outMember_37 : decode cX13_outMember 37 = .ok (.aload_n 0, 1) := by decide +kernel
theorem dX13_outMember_38 : decode cX13_outMember 38 = .ok (.bipush 58, 2) := by decide +kernel
theorem dX13_outMember_40 : decode cX13_outMember 40 = .ok (.invokevirtual 29, 3) := by decide +kernel
theorem dX13_outMember_43 : decode cX13_outMember 43 = .ok (.aload_n 0, 1) := by decide +kernel
theorem dX13_outMember_44 : decode cX13_outMember 44 = .ok (.aload_n 0, 1) := by decide +kernel
theorem dX13_outMember_45 : decode cX13_outMember 45 = .ok (.getfield 878, 3) := by decide +kernel
theorem dX13_outMember_48 : decode cX13_outMember 48 = .ok (.iload_n 1, 1) := by decide +kernel
theorem dX13_outMember_49 : decode cX13_outMember 49 = .ok (.laload, 1) := by decide +kernel
theorem dX13_outMember_50 : decode cX13_outMember 50 = .ok (.invokevirtual 1010, 3) := by decide +kernel
theorem dX13_outMember_53 : decode cX13_outMember 53 = .ok (.goto 72, 3) := by decide +kernel
theorem dX13_outMember_56 : decode cX13_outMember 56 = .ok (.aload_n 0, 1) := by decide +kernel
theorem dX13_outMember_57 : decode cX13_outMember 57 = .ok (.bipush 40, 2) := by decide +kernel
theorem dX13_outMember_59 : decode cX13_outMember 59 = .ok (.invokevirtual 29, 3) := by decide +kernel
theorem dX13_outMember_62 : decode cX13_outMember 62 = .ok (.iconst 0, 1) := by decide +kernel
theorem dX13_outMember_63 : decode cX13_outMember 63 = .ok (.istore_n 3, 1) := by decide +kernel
theorem dX13_outMember_64 : decode cX13_outMember 64 = .ok (.iload_n 3, 1) := by decide +kernel
theorem dX13_outMember_65 : decode cX13_outMember 65 = .ok (.aload_n 0, 1) := by decide +kernel
theorem dX13_outMember_66 : decode cX13_outMember 66 = .ok (.getfield 881, 3) := by decide +kernel
theorem dX13_outMember_69 : decode cX13_outMember 69 = .ok (.iload_n 1, 1) := by decide +kernel
theorem dX13_outMember_70 : decode cX13_outMember 70 = .ok (.iaload, 1) := by decide +kernel
theorem dX13_outMember_71 : decode cX13_outMember 71 = .ok (.if_icmp .ge 33, 3) := by decide +kernel
theorem dX13_outMember_74 : decode cX13_outMember 74 = .ok (.iload_n 3, 1) := by decide +kernel
theorem dX13_outMember_75 : decode cX13_outMember 75 = .ok (.ifCond .le 9, 3) := by decide +kernel
theorem dX13_outMember_78 : decode cX13_outMember 78 = .ok (.aload_n 0, 1) := by decide +kernel
theorem dX13_outMember_79 : decode cX13_outMember 79 = .ok (.bipush 44, 2) := by decide +kernel
theorem dX13_outMember_81 : decode cX13_outMember 81 = .ok (.invokevirtual 29, 3) := by decide +kernel
theorem dX13_outMember_84 : decode cX13_outMember 84 = .ok (.aload_n 0, 1) := by decide +kernel
theorem dX13_outMember_85 : decode cX13_outMember 85 = .ok (.aload_n 0, 1) := by decide +kernel
theorem dX13_outMember_86 : decode cX13_outMember 86 = .ok (.getfield 890, 3) := by decide +kernel
theorem dX13_outMember_89 : decode cX13_outMember 89 = .ok (.iconst 4, 1) := by decide +kernel
theorem dX13_outMember_90 : decode cX13_outMember 90 = .ok (.iload_n 1, 1) := by decide +kernel
theorem dX13_outMember_91 : decode cX13_outMember 91 = .ok (.imul, 1) := by decide +kernel
theorem dX13_outMember_92 : decode cX13_outMember 92 = .ok (.iload_n 3, 1) := by decide +kernel
theorem dX13_outMember_93 : decode cX13_outMember 93 = .ok (.iadd, 1) := by decide +kernel
theorem dX13_outMember_94 : decode cX13_outMember 94 = .ok (.laload, 1) := by decide +kernel
theorem dX13_outMember_95 : decode cX13_outMember 95 = .ok (.invokevirtual 1010, 3) := by decide +kernel
theorem dX13_outMember_98 : decode cX13_outMember 98 = .ok (.iinc 3 1, 3) := by decide +kernel
theorem dX13_outMember_101 : decode cX13_outMember 101 = .ok (.goto (-37), 3) := by decide +kernel
theorem dX13_outMember_104 : decode cX13_outMember 104 = .ok (.aload_n 0, 1) := by decide +kernel
theorem dX13_outMember_105 : decode cX13_outMember 105 = .ok (.bipush 41, 2) := by decide +kernel
theorem dX13_outMember_107 : decode cX13_outMember 107 = .ok (.invokevirtual 29, 3) := by decide +kernel
theorem dX13_outMember_110 : decode cX13_outMember 110 = .ok (.iload_n 2, 1) := by decide +kernel
theorem dX13_outMember_111 : decode cX13_outMember 111 = .ok (.iconst 2, 1) := by decide +kernel
theorem dX13_outMember_112 : decode cX13_outMember 112 = .ok (.if_icmp .eq 13, 3) := by decide +kernel
theorem dX13_outMember_115 : decode cX13_outMember 115 = .ok (.aload_n 0, 1) := by decide +kernel
theorem dX13_outMember_116 : decode cX13_outMember 116 = .ok (.aload_n 0, 1) := by decide +kernel
theorem dX13_outMember_117 : decode cX13_outMember 117 = .ok (.getfield 878, 3) := by decide +kernel
theorem dX13_outMember_120 : decode cX13_outMember 120 = .ok (.iload_n 1, 1) := by decide +kernel
theorem dX13_outMember_121 : decode cX13_outMember 121 = .ok (.laload, 1) := by decide +kernel
theorem dX13_outMember_122 : decode cX13_outMember 122 = .ok (.invokevirtual 1010, 3) := by decide +kernel
theorem dX13_outMember_125 : decode cX13_outMember 125 = .ok (.return_, 1) := by decide +kernel
theorem dX13_numberWorld_0 : decode cX13_numberWorld 0 = .ok (.iconst 0, 1) := by decide +kernel
theorem dX13_numberWorld_1 : decode cX13_numberWorld 1 = .ok (.istore_n 1, 1) := by decide +kernel
theorem dX13_numberWorld_2 : decode cX13_numberWorld 2 = .ok (.iload_n 1, 1) := by decide +kernel
theorem dX13_numberWorld_3 : decode cX13_numberWorld 3 = .ok (.sipush 216, 3) := by decide +kernel
theorem dX13_numberWorld_6 : decode cX13_numberWorld 6 = .ok (.if_icmp .ge 17, 3) := by decide +kernel
theorem dX13_numberWorld_9 : decode cX13_numberWorld 9 = .ok (.aload_n 0, 1) := by decide +kernel
theorem dX13_numberWorld_10 : decode cX13_numberWorld 10 = .ok (.getfield 1068, 3) := by decide +kernel
theorem dX13_numberWorld_13 : decode cX13_numberWorld 13 = .ok (.iload_n 1, 1) := by decide +kernel
theorem dX13_numberWorld_14 : decode cX13_numberWorld 14 = .ok (.bipush (-2), 2) := by decide +kernel
theorem dX13_numberWorld_16 : decode cX13_numberWorld 16 = .ok (.iastore, 1) := by decide +kernel
theorem dX13_numberWorld_17 : decode cX13_numberWorld 17 = .ok (.iinc 1 1, 3) := by decide +kernel
theorem dX13_numberWorld_20 : decode cX13_numberWorld 20 = .ok (.goto (-18), 3) := by decide +kernel
theorem dX13_numberWorld_23 : decode cX13_numberWorld 23 = .ok (.aload_n 0, 1) := by decide +kernel
theorem dX13_numberWorld_24 : decode cX13_numberWorld 24 = .ok (.iconst 0, 1) := by decide +kernel
theorem dX13_numberWorld_25 : decode cX13_numberWorld 25 = .ok (.putfield 1071, 3) := by decide +kernel
theorem dX13_numberWorld_28 : decode cX13_numberWorld 28 = .ok (.aload_n 0, 1) := by decide +kernel
theorem dX13_numberWorld_29 : decode cX13_numberWorld 29 = .ok (.sipush 204, 3) := by decide +kernel
theorem dX13_numberWorld_32 : decode cX13_numberWorld 32 = .ok (.invokevirtual 1074, 3) := by decide +kernel
theorem dX13_numberWorld_35 : decode cX13_numberWorld 35 = .ok (.aload_n 0, 1) := by decide +kernel
theorem dX13_numberWorld_36 : decode cX13_numberWorld 36 = .ok (.sipush 205, 3) := by decide +kernel
theorem dX13_numberWorld_39 : decode cX13_numberWorld 39 = .ok (.invokevirtual 1074, 3) := by decide +kernel
theorem dX13_numberWorld_42 : decode cX13_numberWorld 42 = .ok (.iconst 0, 1) := by decide +kernel
theorem dX13_numberWorld_43 : decode cX13_numberWorld 43 = .ok (.istore_n 1, 1) := by decide +kernel
theorem dX13_numberWorld_44 : decode cX13_numberWorld 44 = .ok (.iload_n 1, 1) := by decide +kernel
theorem dX13_numberWorld_45 : decode cX13_numberWorld 45 = .ok (.iconst 5, 1) := by decide +kernel
theorem dX13_numberWorld_46 : decode cX13_numberWorld 46 = .ok (.if_icmp .ge 74, 3) := by decide +kernel
theorem dX13_numberWorld_49 : decode cX13_numberWorld 49 = .ok (.iconst 0, 1) := by decide +kernel
theorem dX13_numberWorld_50 : decode cX13_numberWorld 50 = .ok (.istore_n 2, 1) := by decide +kernel
theorem dX13_numberWorld_51 : decode cX13_numberWorld 51 = .ok (.aload_n 0, 1) := by decide +kernel
theorem dX13_numberWorld_52 : decode cX13_numberWorld 52 = .ok (.getfield 535, 3) := by decide +kernel
theorem dX13_numberWorld_55 : decode cX13_numberWorld 55 = .ok (.iload_n 1, 1) := by decide +kernel
theorem dX13_numberWorld_56 : decode cX13_numberWorld 56 = .ok (.iaload, 1) := by decide +kernel
theorem dX13_numberWorld_57 : decode cX13_numberWorld 57 = .ok (.bipush (-2), 2) := by decide +kernel
theorem dX13_numberWorld_59 : decode cX13_numberWorld 59 = .ok (.if_icmp .eq 55, 3) := by decide +kernel
theorem dX13_numberWorld_62 : decode cX13_numberWorld 62 = .ok (.iload_n 2, 1) := by decide +kernel
theorem dX13_numberWorld_63 : decode cX13_numberWorld 63 = .ok (.aload_n 0, 1) := by decide +kernel
theorem dX13_numberWorld_64 : decode cX13_numberWorld 64 = .ok (.getfield 230, 3) := by decide +kernel
theorem dX13_numberWorld_67 : decode cX13_numberWorld 67 = .ok (.aload_n 0, 1) := by decide +kernel
theorem dX13_numberWorld_68 : decode cX13_numberWorld 68 = .ok (.getfield 535, 3) := by decide +kernel
theorem dX13_numberWorld_71 : decode cX13_numberWorld 71 = .ok (.iload_n 1, 1) := by decide +kernel
theorem dX13_numberWorld_72 : decode cX13_numberWorld 72 = .ok (.iaload, 1) := by decide +kernel
theorem dX13_numberWorld_73 : decode cX13_numberWorld 73 = .ok (.iaload, 1) := by decide +kernel
theorem dX13_numberWorld_74 : decode cX13_numberWorld 74 = .ok (.if_icmp .ge 40, 3) := by decide +kernel
theorem dX13_numberWorld_77 : decode cX13_numberWorld 77 = .ok (.aload_n 0, 1) := by decide +kernel
theorem dX13_numberWorld_78 : decode cX13_numberWorld 78 = .ok (.getfield 535, 3) := by decide +kernel
theorem dX13_numberWorld_81 : decode cX13_numberWorld 81 = .ok (.iload_n 1, 1) := by decide +kernel
theorem dX13_numberWorld_82 : decode cX13_numberWorld 82 = .ok (.iaload, 1) := by decide +kernel
theorem dX13_numberWorld_83 : decode cX13_numberWorld 83 = .ok (.bipush 12, 2) := by decide +kernel
theorem dX13_numberWorld_85 : decode cX13_numberWorld 85 = .ok (.imul, 1) := by decide +kernel
theorem dX13_numberWorld_86 : decode cX13_numberWorld 86 = .ok (.iload_n 2, 1) := by decide +kernel
theorem dX13_numberWorld_87 : decode cX13_numberWorld 87 = .ok (.iadd, 1) := by decide +kernel
theorem dX13_numberWorld_88 : decode cX13_numberWorld 88 = .ok (.istore_n 3, 1) := by decide +kernel
theorem dX13_numberWorld_89 : decode cX13_numberWorld 89 = .ok (.aload_n 0, 1) := by decide +kernel
theorem dX13_numberWorld_90 : decode cX13_numberWorld 90 = .ok (.aload_n 0, 1) := by decide +kernel
theorem dX13_numberWorld_91 : decode cX13_numberWorld 91 = .ok (.getfield 256, 3) := by decide +kernel
theorem dX13_numberWorld_94 : decode cX13_numberWorld 94 = .ok (.iload_n 3, 1) := by decide +kernel
theorem dX13_numberWorld_95 : decode cX13_numberWorld 95 = .ok (.laload, 1) := by decide +kernel
theorem dX13_numberWorld_96 : decode cX13_numberWorld 96 = .ok (.invokevirtual 551, 3) := by decide +kernel
theorem dX13_numberWorld_99 : decode cX13_numberWorld 99 = .ok (.iload_n 3, 1) := by decide +kernel
theorem dX13_numberWorld_100 : decode cX13_numberWorld 100 = .ok (.if_icmp .ne 8, 3) := by decide +kernel
theorem dX13_numberWorld_103 : decode cX13_numberWorld 103 = .ok (.aload_n 0, 1) := by decide +kernel
theorem dX13_numberWorld_104 : decode cX13_numberWorld 104 = .ok (.iload_n 3, 1) := by decide +kernel
theorem dX13_numberWorld_105 : decode cX13_numberWorld 105 = .ok (.invokevirtual 1074, 3) := by decide +kernel
theorem dX13_numberWorld_108 : decode cX13_numberWorld 108 = .ok (.iinc 2 1, 3) := by decide +kernel
theorem dX13_numberWorld_111 : decode cX13_numberWorld 111 = .ok (.goto (-60), 3) := by decide +kernel
theorem dX13_numberWorld_114 : decode cX13_numberWorld 114 = .ok (.iinc 1 1, 3) := by decide +kernel
theorem dX13_numberWorld_117 : decode cX13_numberWorld 117 = .ok (.goto (-73), 3) := by decide +kernel
theorem dX13_numberWorld_120 : decode cX13_numberWorld 120 = .ok (.return_, 1) := by decide +kernel
theorem dX13_intoWorld_0 : decode cX13_intoWorld 0 = .ok (.aload_n 0, 1) := by decide +kernel
theorem dX13_intoWorld_1 : decode cX13_intoWorld 1 = .ok (.getfield 1077, 3) := by decide +kernel
theorem dX13_intoWorld_4 : decode cX13_intoWorld 4 = .ok (.aload_n 0, 1) := by decide +kernel
theorem dX13_intoWorld_5 : decode cX13_intoWorld 5 = .ok (.getfield 1071, 3) := by decide +kernel
theorem dX13_intoWorld_8 : decode cX13_intoWorld 8 = .ok (.iload_n 1, 1) := by decide +kernel
theorem dX13_intoWorld_9 : decode cX13_intoWorld 9 = .ok (.iastore, 1) := by decide +kernel
theorem dX13_intoWorld_10 : decode cX13_intoWorld 10 = .ok (.aload_n 0, 1) := by decide +kernel
theorem dX13_intoWorld_11 : decode cX13_intoWorld 11 = .ok (.getfield 1068, 3) := by decide +kernel
theorem dX13_intoWorld_14 : decode cX13_intoWorld 14 = .ok (.iload_n 1, 1) := by decide +kernel
theorem dX13_intoWorld_15 : decode cX13_intoWorld 15 = .ok (.aload_n 0, 1) := by decide +kernel
theorem dX13_intoWorld_16 : decode cX13_intoWorld 16 = .ok (.getfield 1071, 3) := by decide +kernel
theorem dX13_intoWorld_19 : decode cX13_intoWorld 19 = .ok (.iastore, 1) := by decide +kernel
theorem dX13_intoWorld_20 : decode cX13_intoWorld 20 = .ok (.aload_n 0, 1) := by decide +kernel
theorem dX13_intoWorld_21 : decode cX13_intoWorld 21 = .ok (.dup, 1) := by decide +kernel
theorem dX13_intoWorld_22 : decode cX13_intoWorld 22 = .ok (.getfield 1071, 3) := by decide +kernel
theorem dX13_intoWorld_25 : decode cX13_intoWorld 25 = .ok (.iconst 1, 1) := by decide +kernel
theorem dX13_intoWorld_26 : decode cX13_intoWorld 26 = .ok (.iadd, 1) := by decide +kernel
theorem dX13_intoWorld_27 : decode cX13_intoWorld 27 = .ok (.putfield 1071, 3) := by decide +kernel
theorem dX13_intoWorld_30 : decode cX13_intoWorld 30 = .ok (.return_, 1) := by decide +kernel
theorem dX13_event_0 : decode cX13_event 0 = .ok (.aload_n 0, 1) := by decide +kernel
theorem dX13_event_1 : decode cX13_event 1 = .ok (.getfield 1080, 3) := by decide +kernel
theorem dX13_event_4 : decode cX13_event 4 = .ok (.ifCond .ne 39, 3) := by decide +kernel
theorem dX13_event_7 : decode cX13_event 7 = .ok (.iload_n 2, 1) := by decide +kernel
theorem dX13_event_8 : decode cX13_event 8 = .ok (.bipush 8, 2) := by decide +kernel
theorem dX13_event_10 : decode cX13_event 10 = .ok (.if_icmp .eq 33, 3) := by decide +kernel
theorem dX13_event_13 : decode cX13_event 13 = .ok (.aload_n 0, 1) := by decide +kernel
theorem dX13_event_14 : decode cX13_event 14 = .ok (.getfield 1083, 3) := by decide +kernel
theorem dX13_event_17 : decode cX13_event 17 = .ok (.aload_n 0, 1) := by decide +kernel
theorem dX13_event_18 : decode cX13_event 18 = .ok (.getfield 1086, 3) := by decide +kernel
theorem dX13_event_21 : decode cX13_event 21 = .ok (.bipush 100, 2) := by decide +kernel
theorem dX13_event_23 : decode cX13_event 23 = .ok (.aload_n 0, 1) := by decide +kernel
theorem dX13_event_24 : decode cX13_event 24 = .ok (.getfield 1068, 3) := by decide +kernel
theorem dX13_event_27 : decode cX13_event 27 = .ok (.iload_n 1, 1) := by decide +kernel
theorem dX13_event_28 : decode cX13_event 28 = .ok (.iaload, 1) := by decide +kernel
theorem dX13_event_29 : decode cX13_event 29 = .ok (.imul, 1) := by decide +kernel
theorem dX13_event_30 : decode cX13_event 30 = .ok (.iload_n 2, 1) := by decide +kernel
theorem dX13_event_31 : decode cX13_event 31 = .ok (.iadd, 1) := by decide +kernel
theorem dX13_event_32 : decode cX13_event 32 = .ok (.iastore, 1) := by decide +kernel
theorem dX13_event_33 : decode cX13_event 33 = .ok (.aload_n 0, 1) := by decide +kernel
theorem dX13_event_34 : decode cX13_event 34 = .ok (.dup, 1) := by decide +kernel
theorem dX13_event_35 : decode cX13_event 35 = .ok (.getfield 1086, 3) := by decide +kernel
theorem dX13_event_38 : decode cX13_event 38 = .ok (.iconst 1, 1) := by decide +kernel
theorem dX13_event_39 : decode cX13_event 39 = .ok (.iadd, 1) := by decide +kernel
theorem dX13_event_40 : decode cX13_event 40 = .ok (.putfield 1086, 3) := by decide +kernel
theorem dX13_event_43 : decode cX13_event 43 = .ok (.return_, 1) := by decide +kernel
theorem dX13_becomes_0 : decode cX13_becomes 0 = .ok (.aload_n 0, 1) := by decide +kernel
theorem dX13_becomes_1 : decode cX13_becomes 1 = .ok (.getfield 1089, 3) := by decide +kernel
theorem dX13_becomes_4 : decode cX13_becomes 4 = .ok (.aload_n 0, 1) := by decide +kernel
theorem dX13_becomes_5 : decode cX13_becomes 5 = .ok (.getfield 1080, 3) := by decide +kernel
theorem dX13_becomes_8 : decode cX13_becomes 8 = .ok (.aload_n 0, 1) := by decide +kernel
theorem dX13_becomes_9 : decode cX13_becomes 9 = .ok (.getfield 1068, 3) := by decide +kernel
theorem dX13_becomes_12 : decode cX13_becomes 12 = .ok (.iload_n 1, 1) := by decide +kernel
theorem dX13_becomes_13 : decode cX13_becomes 13 = .ok (.iaload, 1) := by decide +kernel
theorem dX13_becomes_14 : decode cX13_becomes 14 = .ok (.iadd, 1) := by decide +kernel
theorem dX13_becomes_15 : decode cX13_becomes 15 = .ok (.iload_n 2, 1) := by decide +kernel
theorem dX13_becomes_16 : decode cX13_becomes 16 = .ok (.iastore, 1) := by decide +kernel
theorem dX13_becomes_17 : decode cX13_becomes 17 = .ok (.aload_n 0, 1) := by decide +kernel
theorem dX13_becomes_18 : decode cX13_becomes 18 = .ok (.getfield 1092, 3) := by decide +kernel
theorem dX13_becomes_21 : decode cX13_becomes 21 = .ok (.aload_n 0, 1) := by decide +kernel
theorem dX13_becomes_22 : decode cX13_becomes 22 = .ok (.getfield 1080, 3) := by decide +kernel
theorem dX13_becomes_25 : decode cX13_becomes 25 = .ok (.aload_n 0, 1) := by decide +kernel
theorem dX13_becomes_26 : decode cX13_becomes 26 = .ok (.getfield 1068, 3) := by decide +kernel
theorem dX13_becomes_29 : decode cX13_becomes 29 = .ok (.iload_n 1, 1) := by decide +kernel
theorem dX13_becomes_30 : decode cX13_becomes 30 = .ok (.iaload, 1) := by decide +kernel
theorem dX13_becomes_31 : decode cX13_becomes 31 = .ok (.iadd, 1) := by decide +kernel
theorem dX13_becomes_32 : decode cX13_becomes 32 = .ok (.iload_n 3, 1) := by decide +kernel
theorem dX13_becomes_33 : decode cX13_becomes 33 = .ok (.iastore, 1) := by decide +kernel
theorem dX13_becomes_34 : decode cX13_becomes 34 = .ok (.aload_n 0, 1) := by decide +kernel
theorem dX13_becomes_35 : decode cX13_becomes 35 = .ok (.iload_n 1, 1) := by decide +kernel
theorem dX13_becomes_36 : decode cX13_becomes 36 = .ok (.iload_n 2, 1) := by decide +kernel
theorem dX13_becomes_37 : decode cX13_becomes 37 = .ok (.invokevirtual 1095, 3) := by decide +kernel
theorem dX13_becomes_40 : decode cX13_becomes 40 = .ok (.return_, 1) := by decide +kernel
theorem dX13_clearSet_0 : decode cX13_clearSet 0 = .ok (.iconst 0, 1) := by decide +kernel
theorem dX13_clearSet_1 : decode cX13_clearSet 1 = .ok (.istore_n 2, 1) := by decide +kernel
theorem dX13_clearSet_2 : decode cX13_clearSet 2 = .ok (.iload_n 2, 1) := by decide +kernel
theorem dX13_clearSet_3 : decode cX13_clearSet 3 = .ok (.bipush 64, 2) := by decide +kernel
theorem dX13_clearSet_5 : decode cX13_clearSet 5 = .ok (.if_icmp .ge 36, 3) := by decide +kernel
theorem dX13_clearSet_8 : decode cX13_clearSet 8 = .ok (.aload_n 0, 1) := by decide +kernel
theorem dX13_clearSet_9 : decode cX13_clearSet 9 = .ok (.getfield 1089, 3) := by decide +kernel
theorem dX13_clearSet_12 : decode cX13_clearSet 12 = .ok (.iload_n 1, 1) := by decide +kernel
theorem dX13_clearSet_13 : decode cX13_clearSet 13 = .ok (.iload_n 2, 1) := by decide +kernel
theorem dX13_clearSet_14 : decode cX13_clearSet 14 = .ok (.iadd, 1) := by decide +kernel
theorem dX13_clearSet_15 : decode cX13_clearSet 15 = .ok (.iload_n 2, 1) := by decide +kernel
theorem dX13_clearSet_16 : decode cX13_clearSet 16 = .ok (.iconst 2, 1) := by decide +kernel
theorem dX13_clearSet_17 : decode cX13_clearSet 17 = .ok (.if_icmp .ge 7, 3) := by decide +kernel
theorem dX13_clearSet_20 : decode cX13_clearSet 20 = .ok (.iconst 4, 1) := by decide +kernel
theorem dX13_clearSet_21 : decode cX13_clearSet 21 = .ok (.goto 4, 3) := by decide +kernel
theorem dX13_clearSet_24 : decode cX13_clearSet 24 = .ok (.iconst 0, 1) := by decide +kernel
theorem dX13_clearSet_25 : decode cX13_clearSet 25 = .ok (.iastore, 1) := by decide +kernel
theorem dX13_clearSet_26 : decode cX13_clearSet 26 = .ok (.aload_n 0, 1) := by decide +kernel
theorem dX13_clearSet_27 : decode cX13_clearSet 27 = .ok (.getfield 1092, 3) := by decide +kernel
theorem dX13_clearSet_30 : decode cX13_clearSet 30 = .ok (.iload_n 1, 1) := by decide +kernel
theorem dX13_clearSet_31 : decode cX13_clearSet 31 = .ok (.iload_n 2, 1) := by decide +kernel
theorem dX13_clearSet_32 : decode cX13_clearSet 32 = .ok (.iadd, 1) := by decide +kernel
theorem dX13_clearSet_33 : decode cX13_clearSet 33 = .ok (.iconst 0, 1) := by decide +kernel
theorem dX13_clearSet_34 : decode cX13_clearSet 34 = .ok (.iastore, 1) := by decide +kernel
theorem dX13_clearSet_35 : decode cX13_clearSet 35 = .ok (.iinc 2 1, 3) := by decide +kernel
theorem dX13_clearSet_38 : decode cX13_clearSet 38 = .ok (.goto (-36), 3) := by decide +kernel
theorem dX13_clearSet_41 : decode cX13_clearSet 41 = .ok (.return_, 1) := by decide +kernel
theorem dX13_stateOf_0 : decode cX13_stateOf 0 = .ok (.aload_n 0, 1) := by decide +kernel
theorem dX13_stateOf_1 : decode cX13_stateOf 1 = .ok (.getfield 1089, 3) := by decide +kernel
theorem dX13_stateOf_4 : decode cX13_stateOf 4 = .ok (.aload_n 0, 1) := by decide +kernel
theorem dX13_stateOf_5 : decode cX13_stateOf 5 = .ok (.getfield 1080, 3) := by decide +kernel
theorem dX13_stateOf_8 : decode cX13_stateOf 8 = .ok (.aload_n 0, 1) := by decide +kernel
theorem dX13_stateOf_9 : decode cX13_stateOf 9 = .ok (.getfield 1068, 3) := by decide +kernel
theorem dX13_stateOf_12 : decode cX13_stateOf 12 = .ok (.iload_n 1, 1) := by decide +kernel
theorem dX13_stateOf_13 : decode cX13_stateOf 13 = .ok (.iaload, 1) := by decide +kernel
theorem dX13_stateOf_14 : decode cX13_stateOf 14 = .ok (.iadd, 1) := by decide +kernel
theorem dX13_stateOf_15 : decode cX13_stateOf 15 = .ok (.iaload, 1) := by decide +kernel
theorem dX13_stateOf_16 : decode cX13_stateOf 16 = .ok (.ireturn, 1) := by decide +kernel
theorem dX13_load_0 : decode cX13_load 0 = .ok (.aload_n 0, 1) := by decide +kernel
theorem dX13_load_1 : decode cX13_load 1 = .ok (.iload_n 1, 1) := by decide +kernel
theorem dX13_load_2 : decode cX13_load 2 = .ok (.invokevirtual 1098, 3) := by decide +kernel
theorem dX13_load_5 : decode cX13_load 5 = .ok (.istore_n 2, 1) := by decide +kernel
theorem dX13_load_6 : decode cX13_load 6 = .ok (.iload_n 2, 1) := by decide +kernel
theorem dX13_load_7 : decode cX13_load 7 = .ok (.ifCond .ne 34, 3) := by decide +kernel
theorem dX13_load_10 : decode cX13_load 10 = .ok (.aload_n 0, 1) := by decide +kernel
theorem dX13_load_11 : decode cX13_load 11 = .ok (.iload_n 1, 1) := by decide +kernel
theorem dX13_load_12 : decode cX13_load 12 = .ok (.bipush 8, 2) := by decide +kernel
theorem dX13_load_14 : decode cX13_load 14 = .ok (.iconst 0, 1) := by decide +kernel
theorem dX13_load_15 : decode cX13_load 15 = .ok (.invokevirtual 1101, 3) := by decide +kernel
theorem dX13_load_18 : decode cX13_load 18 = .ok (.aload_n 0, 1) := by decide +kernel
theorem dX13_load_19 : decode cX13_load 19 = .ok (.iload_n 1, 1) := by decide +kernel
theorem dX13_load_20 : decode cX13_load 20 = .ok (.invokevirtual 1104, 3) := by decide +kernel
theorem dX13_load_23 : decode cX13_load 23 = .ok (.istore_n 3, 1) := by decide +kernel
theorem dX13_load_24 : decode cX13_load 24 = .ok (.aload_n 0, 1) := by decide +kernel
theorem dX13_load_25 : decode cX13_load 25 = .ok (.iload_n 1, 1) := by decide +kernel
theorem dX13_load_26 : decode cX13_load 26 = .ok (.iload_n 3, 1) := by decide +kernel
theorem dX13_load_27 : decode cX13_load 27 = .ok (.ifCond .ne 7, 3) := by decide +kernel
theorem dX13_load_30 : decode cX13_load 30 = .ok (.iconst 1, 1) := by decide +kernel
theorem dX13_load_31 : decode cX13_load 31 = .ok (.goto 4, 3) := by decide +kernel
theorem dX13_load_34 : decode cX13_load 34 = .ok (.iconst 5, 1) := by decide +kernel
theorem dX13_load_35 : decode cX13_load 35 = .ok (.iload_n 3, 1) := by decide +kernel
theorem dX13_load_36 : decode cX13_load 36 = .ok (.invokevirtual 1101, 3) := by decide +kernel
theorem dX13_load_39 : decode cX13_load 39 = .ok (.iload_n 3, 1) := by decide +kernel
theorem dX13_load_40 : decode cX13_load 40 = .ok (.ireturn, 1) := by decide +kernel
theorem dX13_load_41 : decode cX13_load 41 = .ok (.iload_n 2, 1) := by decide +kernel
theorem dX13_load_42 : decode cX13_load 42 = .ok (.bipush 8, 2) := by decide +kernel
theorem dX13_load_44 : decode cX13_load 44 = .ok (.if_icmp .ne 8, 3) := by decide +kernel
theorem dX13_load_47 : decode cX13_load 47 = .ok (.bipush 10, 2) := by decide +kernel
theorem dX13_load_49 : decode cX13_load 49 = .ok (.goto 28, 3) := by decide +kernel
theorem dX13_load_52 : decode cX13_load 52 = .ok (.iload_n 2, 1) := by decide +kernel
theorem dX13_load_53 : decode cX13_load 53 = .ok (.iconst 5, 1) := by decide +kernel
theorem dX13_load_54 : decode cX13_load 54 = .ok (.if_icmp .ne 22, 3) := by decide +kernel
theorem dX13_load_57 : decode cX13_load 57 = .ok (.aload_n 0, 1) := by decide +kernel
theorem dX13_load_58 : decode cX13_load 58 = .ok (.getfield 1092, 3) := by decide +kernel
theorem dX13_load_61 : decode cX13_load 61 = .ok (.aload_n 0, 1) := by decide +kernel
theorem dX13_load_62 : decode cX13_load 62 = .ok (.getfield 1080, 3) := by decide +kernel
theorem dX13_load_65 : decode cX13_load 65 = .ok (.aload_n 0, 1) := by decide +kernel
theorem dX13_load_66 : decode cX13_load 66 = .ok (.getfield 1068, 3) := by decide +kernel
theorem dX13_load_69 : decode cX13_load 69 = .ok (.iload_n 1, 1) := by decide +kernel
theorem dX13_load_70 : decode cX13_load 70 = .ok (.iaload, 1) := by decide +kernel
theorem dX13_load_71 : decode cX13_load 71 = .ok (.iadd, 1) := by decide +kernel
theorem dX13_load_72 : decode cX13_load 72 = .ok (.iaload, 1) := by decide +kernel
theorem dX13_load_73 : decode cX13_load 73 = .ok (.goto 4, 3) := by decide +kernel
theorem dX13_load_76 : decode cX13_load 76 = .ok (.iconst 0, 1) := by decide +kernel
theorem dX13_load_77 : decode cX13_load 77 = .ok (.ireturn, 1) := by decide +kernel
theorem dX13_loadAbove_0 : decode cX13_loadAbove 0 = .ok (.aload_n 0, 1) := by decide +kernel
theorem dX13_loadAbove_1 : decode cX13_loadAbove 1 = .ok (.iload_n 1, 1) := by decide +kernel
theorem dX13_loadAbove_2 : decode cX13_loadAbove 2 = .ok (.invokevirtual 548, 3) := by decide +kernel
theorem dX13_loadAbove_5 : decode cX13_loadAbove 5 = .ok (.ifCond .ne 73, 3) := by decide +kernel
theorem dX13_loadAbove_8 : decode cX13_loadAbove 8 = .ok (.aload_n 0, 1) := by decide +kernel
theorem dX13_loadAbove_9 : decode cX13_loadAbove 9 = .ok (.iload_n 1, 1) := by decide +kernel
theorem dX13_loadAbove_10 : decode cX13_loadAbove 10 = .ok (.invokevirtual 558, 3) := by decide +kernel
theorem dX13_loadAbove_13 : decode cX13_loadAbove 13 = .ok (.istore_n 2, 1) := by decide +kernel
theorem dX13_loadAbove_14 : decode cX13_loadAbove 14 = .ok (.iload_n 2, 1) := by decide +kernel
theorem dX13_loadAbove_15 : decode cX13_loadAbove 15 = .ok (.bipush (-2), 2) := by decide +kernel
theorem dX13_loadAbove_17 : decode cX13_loadAbove 17 = .ok (.if_icmp .ne 7, 3) := by decide +kernel
theorem dX13_loadAbove_20 : decode cX13_loadAbove 20 = .ok (.iconst 1, 1) := by decide +kernel
theorem dX13_loadAbove_21 : decode cX13_loadAbove 21 = .ok (.goto 8, 3) := by decide +kernel
theorem dX13_loadAbove_24 : decode cX13_loadAbove 24 = .ok (.aload_n 0, 1) := by decide +kernel
theorem dX13_loadAbove_25 : decode cX13_loadAbove 25 = .ok (.iload_n 2, 1) := by decide +kernel
theorem dX13_loadAbove_26 : decode cX13_loadAbove 26 = .ok (.invokevirtual 592, 3) := by decide +kernel
theorem dX13_loadAbove_29 : decode cX13_loadAbove 29 = .ok (.istore_n 3, 1) := by decide +kernel
theorem dX13_loadAbove_30 : decode cX13_loadAbove 30 = .ok (.iload_n 3, 1) := by decide +kernel
theorem dX13_loadAbove_31 : decode cX13_loadAbove 31 = .ok (.ifCond .eq 5, 3) := by decide +kernel
theorem dX13_loadAbove_34 : decode cX13_loadAbove 34 = .ok (.iload_n 3, 1) := by decide +kernel
theorem dX13_loadAbove_35 : decode cX13_loadAbove 35 = .ok (.ireturn, 1) := by decide +kernel
theorem dX13_loadAbove_36 : decode cX13_loadAbove 36 = .ok (.aload_n 0, 1) := by decide +kernel
theorem dX13_loadAbove_37 : decode cX13_loadAbove 37 = .ok (.iload_n 2, 1) := by decide +kernel
theorem dX13_loadAbove_38 : decode cX13_loadAbove 38 = .ok (.invokevirtual 548, 3) := by decide +kernel
theorem dX13_loadAbove_41 : decode cX13_loadAbove 41 = .ok (.ifCond .eq 5, 3) := by decide +kernel
theorem dX13_loadAbove_44 : decode cX13_loadAbove 44 = .ok (.iconst 3, 1) := by decide +kernel
theorem dX13_loadAbove_45 : decode cX13_loadAbove 45 = .ok (.ireturn, 1) := by decide +kernel
theorem dX13_loadAbove_46 : decode cX13_loadAbove 46 = .ok (.aload_n 0, 1) := by decide +kernel
theorem dX13_loadAbove_47 : decode cX13_loadAbove 47 = .ok (.iload_n 2, 1) := by decide +kernel
theorem dX13_loadAbove_48 : decode cX13_loadAbove 48 = .ok (.iload_n 1, 1) := by decide +kernel
theorem dX13_loadAbove_49 : decode cX13_loadAbove 49 = .ok (.invokevirtual 652, 3) := by decide +kernel
theorem dX13_loadAbove_52 : decode cX13_loadAbove 52 = .ok (.ifCond .ne 5, 3) := by decide +kernel
theorem dX13_loadAbove_55 : decode cX13_loadAbove 55 = .ok (.iconst 2, 1) := by decide +kernel
theorem dX13_loadAbove_56 : decode cX13_loadAbove 56 = .ok (.ireturn, 1) := by decide +kernel
theorem dX13_loadAbove_57 : decode cX13_loadAbove 57 = .ok (.aload_n 0, 1) := by decide +kernel
theorem dX13_loadAbove_58 : decode cX13_loadAbove 58 = .ok (.getfield 266, 3) := by decide +kernel
theorem dX13_loadAbove_61 : decode cX13_loadAbove 61 = .ok (.iload_n 2, 1) := by decide +kernel
theorem dX13_loadAbove_62 : decode cX13_loadAbove 62 = .ok (.iaload, 1) := by decide +kernel
theorem dX13_loadAbove_63 : decode cX13_loadAbove 63 = .ok (.iconst 1, 1) := by decide +kernel
theorem dX13_loadAbove_64 : decode cX13_loadAbove 64 = .ok (.if_icmp .eq 12, 3) := by decide +kernel
theorem dX13_loadAbove_67 : decode cX13_loadAbove 67 = .ok (.aload_n 0, 1) := by decide +kernel
theorem dX13_loadAbove_68 : decode cX13_loadAbove 68 = .ok (.iload_n 2, 1) := by decide +kernel
theorem dX13_loadAbove_69 : decode cX13_loadAbove 69 = .ok (.iload_n 1, 1) := by decide +kernel
theorem dX13_loadAbove_70 : decode cX13_loadAbove 70 = .ok (.invokevirtual 655, 3) := by decide +kernel
theorem dX13_loadAbove_73 : decode cX13_loadAbove 73 = .ok (.ifCond .ne 5, 3) := by decide +kernel
theorem dX13_loadAbove_76 : decode cX13_loadAbove 76 = .ok (.iconst 3, 1) := by decide +kernel
theorem dX13_loadAbove_77 : decode cX13_loadAbove 77 = .ok (.ireturn, 1) := by decide +kernel
theorem dX13_loadAbove_78 : decode cX13_loadAbove 78 = .ok (.iconst 0, 1) := by decide +kernel
theorem dX13_loadAbove_79 : decode cX13_loadAbove 79 = .ok (.istore_n 2, 1) := by decide +kernel
theorem dX13_loadAbove_80 : decode cX13_loadAbove 80 = .ok (.iload_n 2, 1) := by decide +kernel
theorem dX13_loadAbove_81 : decode cX13_loadAbove 81 = .ok (.aload_n 0, 1) := by decide +kernel
theorem dX13_loadAbove_82 : decode cX13_loadAbove 82 = .ok (.getfield 283, 3) := by decide +kernel
theorem dX13_loadAbove_85 : decode cX13_loadAbove 85 = .ok (.iload_n 1, 1) := by decide +kernel
theorem dX13_loadAbove_86 : decode cX13_loadAbove 86 = .ok (.iaload, 1) := by decide +kernel
theorem dX13_loadAbove_87 : decode cX13_loadAbove 87 = .ok (.if_icmp .ge 81, 3) := by decide +kernel
theorem dX13_loadAbove_90 : decode cX13_loadAbove 90 = .ok (.aload_n 0, 1) := by decide +kernel
theorem dX13_loadAbove_91 : decode cX13_loadAbove 91 = .ok (.aload_n 0, 1) := by decide +kernel
theorem dX13_loadAbove_92 : decode cX13_loadAbove 92 = .ok (.getfield 288, 3) := by decide +kernel
theorem dX13_loadAbove_95 : decode cX13_loadAbove 95 = .ok (.iconst 4, 1) := by decide +kernel
theorem dX13_loadAbove_96 : decode cX13_loadAbove 96 = .ok (.iload_n 1, 1) := by decide +kernel
theorem dX13_loadAbove_97 : decode cX13_loadAbove 97 = .ok (.imul, 1) := by decide +kernel
theorem dX13_loadAbove_98 : decode cX13_loadAbove 98 = .ok (.iload_n 2, 1) := by decide +kernel
theorem dX13_loadAbove_99 : decode cX13_loadAbove 99 = .ok (.iadd, 1) := by decide +kernel
theorem dX13_loadAbove_100 : decode cX13_loadAbove 100 = .ok (.laload, 1) := by decide +kernel
theorem dX13_loadAbove_101 : decode cX13_loadAbove 101 = .ok (.invokevirtual 551, 3) := by decide +kernel
theorem dX13_loadAbove_104 : decode cX13_loadAbove 104 = .ok (.istore_n 3, 1) := by decide +kernel
theorem dX13_loadAbove_105 : decode cX13_loadAbove 105 = .ok (.iload_n 3, 1) := by decide +kernel
theorem dX13_loadAbove_106 : decode cX13_loadAbove 106 = .ok (.bipush (-2), 2) := by decide +kernel
theorem dX13_loadAbove_108 : decode cX13_loadAbove 108 = .ok (.if_icmp .ne 7, 3) := by decide +kernel
theorem dX13_loadAbove_111 : decode cX13_loadAbove 111 = .ok (.iconst 1, 1) := by decide +kernel
theorem dX13_loadAbove_112 : decode cX13_loadAbove 112 = .ok (.goto 8, 3) := by decide +kernel
theorem dX13_loadAbove_115 : decode cX13_loadAbove 115 = .ok (.aload_n 0, 1) := by decide +kernel
theorem dX13_loadAbove_116 : decode cX13_loadAbove 116 = .ok (.iload_n 3, 1) := by decide +kernel
theorem dX13_loadAbove_117 : decode cX13_loadAbove 117 = .ok (.invokevirtual 592, 3) := by decide +kernel
theorem dX13_loadAbove_120 : decode cX13_loadAbove 120 = .ok (.istore 4, 2) := by decide +kernel
theorem dX13_loadAbove_122 : decode cX13_loadAbove 122 = .ok (.iload 4, 2) := by decide +kernel
theorem dX13_loadAbove_124 : decode cX13_loadAbove 124 = .ok (.ifCond .eq 6, 3) := by decide +kernel
theorem dX13_loadAbove_127 : decode cX13_loadAbove 127 = .ok (.iload 4, 2) := by decide +kernel
theorem dX13_loadAbove_129 : decode cX13_loadAbove 129 = .ok (.ireturn, 1) := by decide +kernel
theorem dX13_loadAbove_130 : decode cX13_loadAbove 130 = .ok (.aload_n 0, 1) := by decide +kernel
theorem dX13_loadAbove_131 : decode cX13_loadAbove 131 = .ok (.iload_n 3, 1) := by decide +kernel
theorem dX13_loadAbove_132 : decode cX13_loadAbove 132 = .ok (.invokevirtual 548, 3) := by decide +kernel
theorem dX13_loadAbove_135 : decode cX13_loadAbove 135 = .ok (.ifCond .ne 5, 3) := by decide +kernel
theorem dX13_loadAbove_138 : decode cX13_loadAbove 138 = .ok (.iconst 3, 1) := by decide +kernel
theorem dX13_loadAbove_139 : decode cX13_loadAbove 139 = .ok (.ireturn, 1) := by decide +kernel
theorem dX13_loadAbove_140 : decode cX13_loadAbove 140 = .ok (.aload_n 0, 1) := by decide +kernel
theorem dX13_loadAbove_141 : decode cX13_loadAbove 141 = .ok (.iload_n 3, 1) := by decide +kernel
theorem dX13_loadAbove_142 : decode cX13_loadAbove 142 = .ok (.iload_n 1, 1) := by decide +kernel
theorem dX13_loadAbove_143 : decode cX13_loadAbove 143 = .ok (.invokevirtual 652, 3) := by decide +kernel
theorem dX13_loadAbove_146 : decode cX13_loadAbove 146 = .ok (.ifCond .ne 5, 3) := by decide +kernel
theorem dX13_loadAbove_149 : decode cX13_loadAbove 149 = .ok (.iconst 2, 1) := by decide +kernel
theorem dX13_loadAbove_150 : decode cX13_loadAbove 150 = .ok (.ireturn, 1) := by decide +kernel
theorem dX13_loadAbove_151 : decode cX13_loadAbove 151 = .ok (.aload_n 0, 1) := by decide +kernel
theorem dX13_loadAbove_152 : decode cX13_loadAbove 152 = .ok (.iload_n 3, 1) := by decide +kernel
theorem dX13_loadAbove_153 : decode cX13_loadAbove 153 = .ok (.iload_n 1, 1) := by decide +kernel
theorem dX13_loadAbove_154 : decode cX13_loadAbove 154 = .ok (.invokevirtual 655, 3) := by decide +kernel
theorem dX13_loadAbove_157 : decode cX13_loadAbove 157 = .ok (.ifCond .ne 5, 3) := by decide +kernel
theorem dX13_loadAbove_160 : decode cX13_loadAbove 160 = .ok (.iconst 3, 1) := by decide +kernel
theorem dX13_loadAbove_161 : decode cX13_loadAbove 161 = .ok (.ireturn, 1) := by decide +kernel
theorem dX13_loadAbove_162 : decode cX13_loadAbove 162 = .ok (.iinc 2 1, 3) := by decide +kernel
theorem dX13_loadAbove_165 : decode cX13_loadAbove 165 = .ok (.goto (-85), 3) := by decide +kernel
theorem dX13_loadAbove_168 : decode cX13_loadAbove 168 = .ok (.iconst 0, 1) := by decide +kernel
theorem dX13_loadAbove_169 : decode cX13_loadAbove 169 = .ok (.ireturn, 1) := by decide +kernel
theorem dX13_link_0 : decode cX13_link 0 = .ok (.aload_n 0, 1) := by decide +kernel
theorem dX13_link_1 : decode cX13_link 1 = .ok (.iload_n 1, 1) := by decide +kernel
theorem dX13_link_2 : decode cX13_link 2 = .ok (.invokevirtual 592, 3) := by decide +kernel
theorem dX13_link_5 : decode cX13_link 5 = .ok (.istore_n 2, 1) := by decide +kernel
theorem dX13_link_6 : decode cX13_link 6 = .ok (.aload_n 0, 1) := by decide +kernel
theorem dX13_link_7 : decode cX13_link 7 = .ok (.iload_n 1, 1) := by decide +kernel
theorem dX13_link_8 : decode cX13_link 8 = .ok (.invokevirtual 1098, 3) := by decide +kernel
theorem dX13_link_11 : decode cX13_link 11 = .ok (.istore_n 3, 1) := by decide +kernel
theorem dX13_link_12 : decode cX13_link 12 = .ok (.iload_n 2, 1) := by decide +kernel
theorem dX13_link_13 : decode cX13_link 13 = .ok (.ifCond .ne 24, 3) := by decide +kernel
theorem dX13_link_16 : decode cX13_link 16 = .ok (.iload_n 3, 1) := by decide +kernel
theorem dX13_link_17 : decode cX13_link 17 = .ok (.iconst 2, 1) := by decide +kernel
theorem dX13_link_18 : decode cX13_link 18 = .ok (.if_icmp .eq 19, 3) := by decide +kernel
theorem dX13_link_21 : decode cX13_link 21 = .ok (.iload_n 3, 1) := by decide +kernel
theorem dX13_link_22 : decode cX13_link 22 = .ok (.iconst 3, 1) := by decide +kernel
theorem dX13_link_23 : decode cX13_link 23 = .ok (.if_icmp .eq 14, 3) := by decide +kernel
theorem dX13_link_26 : decode cX13_link 26 = .ok (.iload_n 3, 1) := by decide +kernel
theorem dX13_link_27 : decode cX13_link 27 = .ok (.iconst 4, 1) := by decide +kernel
theorem dX13_link_28 : decode cX13_link 28 = .ok (.if_icmp .eq 9, 3) := by decide +kernel
theorem dX13_link_31 : decode cX13_link 31 = .ok (.iload_n 3, 1) := by decide +kernel
theorem dX13_link_32 : decode cX13_link 32 = .ok (.bipush 7, 2) := by decide +kernel
theorem dX13_link_34 : decode cX13_link 34 = .ok (.if_icmp .ne 5, 3) := by decide +kernel
theorem dX13_link_37 : decode cX13_link 37 = .ok (.iload_n 2, 1) := by decide +kernel
theorem dX13_link_38 : decode cX13_link 38 = .ok (.ireturn, 1) := by decide +kernel
theorem dX13_link_39 : decode cX13_link 39 = .ok (.iload_n 3, 1) := by decide +kernel
theorem dX13_link_40 : decode cX13_link 40 = .ok (.bipush 6, 2) := by decide +kernel
theorem dX13_link_42 : decode cX13_link 42 = .ok (.if_icmp .ne 20, 3) := by decide +kernel
theorem dX13_link_45 : decode cX13_link 45 = .ok (.aload_n 0, 1) := by decide +kernel
theorem dX13_link_46 : decode cX13_link 46 = .ok (.getfield 1092, 3) := by decide +kernel
theorem dX13_link_49 : decode cX13_link 49 = .ok (.aload_n 0, 1) := by decide +kernel
theorem dX13_link_50 : decode cX13_link 50 = .ok (.getfield 1080, 3) := by decide +kernel
theorem dX13_link_53 : decode cX13_link 53 = .ok (.aload_n 0, 1) := by decide +kernel
theorem dX13_link_54 : decode cX13_link 54 = .ok (.getfield 1068, 3) := by decide +kernel
theorem dX13_link_57 : decode cX13_link 57 = .ok (.iload_n 1, 1) := by decide +kernel
theorem dX13_link_58 : decode cX13_link 58 = .ok (.iaload, 1) := by decide +kernel
theorem dX13_link_59 : decode cX13_link 59 = .ok (.iadd, 1) := by decide +kernel
theorem dX13_link_60 : decode cX13_link 60 = .ok (.iaload, 1) := by decide +kernel
theorem dX13_link_61 : decode cX13_link 61 = .ok (.ireturn, 1) := by decide +kernel
theorem dX13_link_62 : decode cX13_link 62 = .ok (.aload_n 0, 1) := by decide +kernel
theorem dX13_link_63 : decode cX13_link 63 = .ok (.iload_n 1, 1) := by decide +kernel
theorem dX13_link_64 : decode cX13_link 64 = .ok (.invokevirtual 1107, 3) := by decide +kernel
theorem dX13_link_67 : decode cX13_link 67 = .ok (.istore_n 2, 1) := by decide +kernel
theorem dX13_link_68 : decode cX13_link 68 = .ok (.aload_n 0, 1) := by decide +kernel
theorem dX13_link_69 : decode cX13_link 69 = .ok (.iload_n 1, 1) := by decide +kernel
theorem dX13_link_70 : decode cX13_link 70 = .ok (.iload_n 2, 1) := by decide +kernel
theorem dX13_link_71 : decode cX13_link 71 = .ok (.ifCond .ne 7, 3) := by decide +kernel
theorem dX13_link_74 : decode cX13_link 74 = .ok (.iconst 2, 1) := by decide +kernel
theorem dX13_link_75 : decode cX13_link 75 = .ok (.goto 5, 3) := by decide +kernel
theorem dX13_link_78 : decode cX13_link 78 = .ok (.bipush 6, 2) := by decide +kernel
theorem dX13_link_80 : decode cX13_link 80 = .ok (.iload_n 2, 1) := by decide +kernel
theorem dX13_link_81 : decode cX13_link 81 = .ok (.invokevirtual 1101, 3) := by decide +kernel
theorem dX13_link_84 : decode cX13_link 84 = .ok (.iload_n 2, 1) := by decide +kernel
theorem dX13_link_85 : decode cX13_link 85 = .ok (.ireturn, 1) := by decide +kernel
theorem dX13_linkWith_0 : decode cX13_linkWith 0 = .ok (.aload_n 0, 1) := by decide +kernel
theorem dX13_linkWith_1 : decode cX13_linkWith 1 = .ok (.iload_n 1, 1) := by decide +kernel
theorem dX13_linkWith_2 : decode cX13_linkWith 2 = .ok (.invokevirtual 558, 3) := by decide +kernel
theorem dX13_linkWith_5 : decode cX13_linkWith 5 = .ok (.istore_n 2, 1) := by decide +kernel
theorem dX13_linkWith_6 : decode cX13_linkWith 6 = .ok (.iload_n 2, 1) := by decide +kernel
theorem dX13_linkWith_7 : decode cX13_linkWith 7 = .ok (.bipush (-2), 2) := by decide +kernel
theorem dX13_linkWith_9 : decode cX13_linkWith 9 = .ok (.if_icmp .ne 7, 3) := by decide +kernel
theorem dX13_linkWith_12 : decode cX13_linkWith 12 = .ok (.iconst 0, 1) := by decide +kernel
theorem dX13_linkWith_13 : decode cX13_linkWith 13 = .ok (.goto 8, 3) := by decide +kernel
theorem dX13_linkWith_16 : decode cX13_linkWith 16 = .ok (.aload_n 0, 1) := by decide +kernel
theorem dX13_linkWith_17 : decode cX13_linkWith 17 = .ok (.iload_n 2, 1) := by decide +kernel
theorem dX13_linkWith_18 : decode cX13_linkWith 18 = .ok (.invokevirtual 1110, 3) := by decide +kernel
theorem dX13_linkWith_21 : decode cX13_linkWith 21 = .ok (.istore_n 3, 1) := by decide +kernel
theorem dX13_linkWith_22 : decode cX13_linkWith 22 = .ok (.iconst 0, 1) := by decide +kernel
theorem dX13_linkWith_23 : decode cX13_linkWith 23 = .ok (.istore 4, 2) := by decide +kernel
theorem dX13_linkWith_25 : decode cX13_linkWith 25 = .ok (.iload 4, 2) := by decide +kernel
theorem dX13_linkWith_27 : decode cX13_linkWith 27 = .ok (.aload_n 0, 1) := by decide +kernel
theorem dX13_linkWith_28 : decode cX13_linkWith 28 = .ok (.getfield 283, 3) := by decide +kernel
theorem dX13_linkWith_31 : decode cX13_linkWith 31 = .ok (.iload_n 1, 1) := by decide +kernel
theorem dX13_linkWith_32 : decode cX13_linkWith 32 = .ok (.iaload, 1) := by decide +kernel
theorem dX13_linkWith_33 : decode cX13_linkWith 33 = .ok (.if_icmp .ge 33, 3) := by decide +kernel
theorem dX13_linkWith_36 : decode cX13_linkWith 36 = .ok (.iload_n 3, 1) := by decide +kernel
theorem dX13_linkWith_37 : decode cX13_linkWith 37 = .ok (.ifCond .ne 29, 3) := by decide +kernel
theorem dX13_linkWith_40 : decode cX13_linkWith 40 = .ok (.aload_n 0, 1) := by decide +kernel
theorem dX13_linkWith_41 : decode cX13_linkWith 41 = .ok (.aload_n 0, 1) := by decide +kernel
theorem dX13_linkWith_42 : decode cX13_linkWith 42 = .ok (.aload_n 0, 1) := by decide +kernel
theorem dX13_linkWith_43 : decode cX13_linkWith 43 = .ok (.getfield 288, 3) := by decide +kernel
theorem dX13_linkWith_46 : decode cX13_linkWith 46 = .ok (.iconst 4, 1) := by decide +kernel
theorem dX13_linkWith_47 : decode cX13_linkWith 47 = .ok (.iload_n 1, 1) := by decide +kernel
theorem dX13_linkWith_48 : decode cX13_linkWith 48 = .ok (.imul, 1) := by decide +kernel
theorem dX13_linkWith_49 : decode cX13_linkWith 49 = .ok (.iload 4, 2) := by decide +kernel
theorem dX13_linkWith_51 : decode cX13_linkWith 51 = .ok (.iadd, 1) := by decide +kernel
theorem dX13_linkWith_52 : decode cX13_linkWith 52 = .ok (.laload, 1) := by decide +kernel
theorem dX13_linkWith_53 : decode cX13_linkWith 53 = .ok (.invokevirtual 551, 3) := by decide +kernel
theorem dX13_linkWith_56 : decode cX13_linkWith 56 = .ok (.invokevirtual 1110, 3) := by decide +kernel
theorem dX13_linkWith_59 : decode cX13_linkWith 59 = .ok (.istore_n 3, 1) := by decide +kernel
theorem dX13_linkWith_60 : decode cX13_linkWith 60 = .ok (.iinc 4 1, 3) := by decide +kernel
theorem dX13_linkWith_63 : decode cX13_linkWith 63 = .ok (.goto (-38), 3) := by decide +kernel
theorem dX13_linkWith_66 : decode cX13_linkWith 66 = .ok (.iload_n 3, 1) := by decide +kernel
theorem dX13_linkWith_67 : decode cX13_linkWith 67 = .ok (.ifCond .ne 13, 3) := by decide +kernel
theorem dX13_linkWith_70 : decode cX13_linkWith 70 = .ok (.aload_n 0, 1) := by decide +kernel
theorem dX13_linkWith_71 : decode cX13_linkWith 71 = .ok (.iload_n 1, 1) := by decide +kernel
theorem dX13_linkWith_72 : decode cX13_linkWith 72 = .ok (.invokevirtual 1113, 3) := by decide +kernel
theorem dX13_linkWith_75 : decode cX13_linkWith 75 = .ok (.ifCond .eq 5, 3) := by decide +kernel
theorem dX13_linkWith_78 : decode cX13_linkWith 78 = .ok (.iconst 3, 1) := by decide +kernel
theorem dX13_linkWith_79 : decode cX13_linkWith 79 = .ok (.istore_n 3, 1) := by decide +kernel
theorem dX13_linkWith_80 : decode cX13_linkWith 80 = .ok (.iload_n 1, 1) := by decide +kernel
theorem dX13_linkWith_81 : decode cX13_linkWith 81 = .ok (.bipush 12, 2) := by decide +kernel
theorem dX13_linkWith_83 : decode cX13_linkWith 83 = .ok (.idiv, 1) := by decide +kernel
theorem dX13_linkWith_84 : decode cX13_linkWith 84 = .ok (.istore 4, 2) := by decide +kernel
theorem dX13_linkWith_86 : decode cX13_linkWith 86 = .ok (.iload 4, 2) := by decide +kernel
theorem dX13_linkWith_88 : decode cX13_linkWith 88 = .ok (.sipush 1800, 3) := by decide +kernel
theorem dX13_linkWith_91 : decode cX13_linkWith 91 = .ok (.imul, 1) := by decide +kernel
theorem dX13_linkWith_92 : decode cX13_linkWith 92 = .ok (.istore 5, 2) := by decide +kernel
theorem dX13_linkWith_94 : decode cX13_linkWith 94 = .ok (.iload 4, 2) := by decide +kernel
theorem dX13_linkWith_96 : decode cX13_linkWith 96 = .ok (.bipush 16, 2) := by decide +kernel
theorem dX13_linkWith_98 : decode cX13_linkWith 98 = .ok (.if_icmp .ge 75, 3) := by decide +kernel
theorem dX13_linkWith_101 : decode cX13_linkWith 101 = .ok (.iload 5, 2) := by decide +kernel
theorem dX13_linkWith_103 : decode cX13_linkWith 103 = .ok (.iload 4, 2) := by decide +kernel
theorem dX13_linkWith_105 : decode cX13_linkWith 105 = .ok (.sipush 1800, 3) := by decide +kernel
theorem dX13_linkWith_108 : decode cX13_linkWith 108 = .ok (.imul, 1) := by decide +kernel
theorem dX13_linkWith_109 : decode cX13_linkWith 109 = .ok (.aload_n 0, 1) := by decide +kernel
theorem dX13_linkWith_110 : decode cX13_linkWith 110 = .ok (.getfield 863, 3) := by decide +kernel
theorem dX13_linkWith_113 : decode cX13_linkWith 113 = .ok (.iload 4, 2) := by decide +kernel
theorem dX13_linkWith_115 : decode cX13_linkWith 115 = .ok (.iaload, 1) := by decide +kernel
theorem dX13_linkWith_116 : decode cX13_linkWith 116 = .ok (.iadd, 1) := by decide +kernel
theorem dX13_linkWith_117 : decode cX13_linkWith 117 = .ok (.if_icmp .ge 56, 3) := by decide +kernel
theorem dX13_linkWith_120 : decode cX13_linkWith 120 = .ok (.iload_n 3, 1) := by decide +kernel
theorem dX13_linkWith_121 : decode cX13_linkWith 121 = .ok (.ifCond .ne 52, 3) := by decide +kernel
theorem dX13_linkWith_124 : decode cX13_linkWith 124 = .ok (.aload_n 0, 1) := by decide +kernel
theorem dX13_linkWith_125 : decode cX13_linkWith 125 = .ok (.getfield 869, 3) := by decide +kernel
theorem dX13_linkWith_128 : decode cX13_linkWith 128 = .ok (.iload 5, 2) := by decide +kernel
theorem dX13_linkWith_130 : decode cX13_linkWith 130 = .ok (.iaload, 1) := by decide +kernel
theorem dX13_linkWith_131 : decode cX13_linkWith 131 = .ok (.iload_n 1, 1) := by decide +kernel
theorem dX13_linkWith_132 : decode cX13_linkWith 132 = .ok (.if_icmp .ne 35, 3) := by decide +kernel
theorem dX13_linkWith_135 : decode cX13_linkWith 135 = .ok (.aload_n 0, 1) := by decide +kernel
theorem dX13_linkWith_136 : decode cX13_linkWith 136 = .ok (.getfield 866, 3) := by decide +kernel
theorem dX13_linkWith_139 : decode cX13_linkWith 139 = .ok (.iload 5, 2) := by decide +kernel
theorem dX13_linkWith_141 : decode cX13_linkWith 141 = .ok (.iaload, 1) := by decide +kernel
theorem dX13_linkWith_142 : decode cX13_linkWith 142 = .ok (.bipush 17, 2) := by decide +kernel
theorem dX13_linkWith_144 : decode cX13_linkWith 144 = .ok (.if_icmp .eq 15, 3) := by decide +kernel
theorem dX13_linkWith_147 : decode cX13_linkWith 147 = .ok (.aload_n 0, 1) := by decide +kernel
theorem dX13_linkWith_148 : decode cX13_linkWith 148 = .ok (.getfield 866, 3) := by decide +kernel
theorem dX13_linkWith_151 : decode cX13_linkWith 151 = .ok (.iload 5, 2) := by decide +kernel
theorem dX13_linkWith_153 : decode cX13_linkWith 153 = .ok (.iaload, 1) := by decide +kernel
theorem dX13_linkWith_154 : decode cX13_linkWith 154 = .ok (.bipush 15, 2) := by decide +kernel
theorem dX13_linkWith_156 : decode cX13_linkWith 156 = .ok (.if_icmp .ne 11, 3) := by decide +kernel
theorem dX13_linkWith_159 : decode cX13_linkWith 159 = .ok (.aload_n 0, 1) := by decide +kernel
theorem dX13_linkWith_160 : decode cX13_linkWith 160 = .ok (.iload 5, 2) := by decide +kernel
theorem dX13_linkWith_162 : decode cX13_linkWith 162 = .ok (.iconst 1, 1) := by decide +kernel
theorem dX13_linkWith_163 : decode cX13_linkWith 163 = .ok (.invokevirtual 1116, 3) := by decide +kernel
theorem dX13_linkWith_166 : decode cX13_linkWith 166 = .ok (.istore_n 3, 1) := by decide +kernel
theorem dX13_linkWith_167 : decode cX13_linkWith 167 = .ok (.iinc 5 1, 3) := by decide +kernel
theorem dX13_linkWith_170 : decode cX13_linkWith 170 = .ok (.goto (-76), 3) := by decide +kernel
theorem dX13_linkWith_173 : decode cX13_linkWith 173 = .ok (.iload_n 3, 1) := by decide +kernel
theorem dX13_linkWith_174 : decode cX13_linkWith 174 = .ok (.ireturn, 1) := by decide +kernel
theorem dX13_overridesFinal_0 : decode cX13_overridesFinal 0 = .ok (.iconst 0, 1) := by decide +kernel
theorem dX13_overridesFinal_1 : decode cX13_overridesFinal 1 = .ok (.istore_n 2, 1) := by decide +kernel
theorem dX13_overridesFinal_2 : decode cX13_overridesFinal 2 = .ok (.iconst 0, 1) := by decide +kernel
theorem dX13_overridesFinal_3 : decode cX13_overridesFinal 3 = .ok (.istore_n 3, 1) := by decide +kernel
theorem dX13_overridesFinal_4 : decode cX13_overridesFinal 4 = .ok (.iload_n 3, 1) := by decide +kernel
theorem dX13_overridesFinal_5 : decode cX13_overridesFinal 5 = .ok (.aload_n 0, 1) := by decide +kernel
theorem dX13_overridesFinal_6 : decode cX13_overridesFinal 6 = .ok (.getfield 275, 3) := by decide +kernel
theorem dX13_overridesFinal_9 : decode cX13_overridesFinal 9 = .ok (.iload_n 1, 1) := by decide +kernel
theorem dX13_overridesFinal_10 : decode cX13_overridesFinal 10 = .ok (.iaload, 1) := by decide +kernel
theorem dX13_overridesFinal_11 : decode cX13_overridesFinal 11 = .ok (.if_icmp .ge 115, 3) := by decide +kernel
theorem dX13_overridesFinal_14 : decode cX13_overridesFinal 14 = .ok (.iload_n 1, 1) := by decide +kernel
theorem dX13_overridesFinal_15 : decode cX13_overridesFinal 15 = .ok (.bipush 34, 2) := by decide +kernel
theorem dX13_overridesFinal_17 : decode cX13_overridesFinal 17 = .ok (.imul, 1) := by decide +kernel
theorem dX13_overridesFinal_18 : decode cX13_overridesFinal 18 = .ok (.iload_n 3, 1) := by decide +kernel
theorem dX13_overridesFinal_19 : decode cX13_overridesFinal 19 = .ok (.iadd, 1) := by decide +kernel
theorem dX13_overridesFinal_20 : decode cX13_overridesFinal 20 = .ok (.istore 4, 2) := by decide +kernel
theorem dX13_overridesFinal_22 : decode cX13_overridesFinal 22 = .ok (.aload_n 0, 1) := by decide +kernel
theorem dX13_overridesFinal_23 : decode cX13_overridesFinal 23 = .ok (.getfield 402, 3) := by decide +kernel
theorem dX13_overridesFinal_26 : decode cX13_overridesFinal 26 = .ok (.iload 4, 2) := by decide +kernel
theorem dX13_overridesFinal_28 : decode cX13_overridesFinal 28 = .ok (.iaload, 1) := by decide +kernel
theorem dX13_overridesFinal_29 : decode cX13_overridesFinal 29 = .ok (.iconst 1, 1) := by decide +kernel
theorem dX13_overridesFinal_30 : decode cX13_overridesFinal 30 = .ok (.if_icmp .ne 20, 3) := by decide +kernel
theorem dX13_overridesFinal_33 : decode cX13_overridesFinal 33 = .ok (.aload_n 0, 1) := by decide +kernel
theorem dX13_overridesFinal_34 : decode cX13_overridesFinal 34 = .ok (.iload 4, 2) := by decide +kernel
theorem dX13_overridesFinal_36 : decode cX13_overridesFinal 36 = .ok (.invokevirtual 624, 3) := by decide +kernel
theorem dX13_overridesFinal_39 : decode cX13_overridesFinal 39 = .ok (.ifCond .eq 11, 3) := by decide +kernel
theorem dX13_overridesFinal_42 : decode cX13_overridesFinal 42 = .ok (.aload_n 0, 1) := by decide +kernel
theorem dX13_overridesFinal_43 : decode cX13_overridesFinal 43 = .ok (.iload_n 1, 1) := by decide +kernel
theorem dX13_overridesFinal_44 : decode cX13_overridesFinal 44 = .ok (.invokevirtual 558, 3) := by decide +kernel
theorem dX13_overridesFinal_47 : decode cX13_overridesFinal 47 = .ok (.goto 5, 3) := by decide +kernel
theorem dX13_overridesFinal_50 : decode cX13_overridesFinal 50 = .ok (.bipush (-2), 2) := by decide +kernel
theorem dX13_overridesFinal_52 : decode cX13_overridesFinal 52 = .ok (.istore 5, 2) := by decide +kernel
theorem dX13_overridesFinal_54 : decode cX13_overridesFinal 54 = .ok (.iload 5, 2) := by decide +kernel
theorem dX13_overridesFinal_56 : decode cX13_overridesFinal 56 = .ok (.bipush (-2), 2) := by decide +kernel
theorem dX13_overridesFinal_58 : decode cX13_overridesFinal 58 = .ok (.if_icmp .eq 62, 3) := by decide +kernel
theorem dX13_overridesFinal_61 : decode cX13_overridesFinal 61 = .ok (.aload_n 0, 1) := by decide +kernel
theorem dX13_overridesFinal_62 : decode cX13_overridesFinal 62 = .ok (.iload 5, 2) := by decide +kernel
theorem dX13_overridesFinal_64 : decode cX13_overridesFinal 64 = .ok (.iload 4, 2) := by decide +kernel
theorem dX13_overridesFinal_66 : decode cX13_overridesFinal 66 = .ok (.invokevirtual 627, 3) := by decide +kernel
theorem dX13_overridesFinal_69 : decode cX13_overridesFinal 69 = .ok (.istore 6, 2) := by decide +kernel
theorem dX13_overridesFinal_71 : decode cX13_overridesFinal 71 = .ok (.iload_n 2, 1) := by decide +kernel
theorem dX13_overridesFinal_72 : decode cX13_overridesFinal 72 = .ok (.ifCond .ne 31, 3) := by decide +kernel
theorem dX13_overridesFinal_75 : decode cX13_overridesFinal 75 = .ok (.iload 6, 2) := by decide +kernel
theorem dX13_overridesFinal_77 : decode cX13_overridesFinal 77 = .ok (.bipush (-2), 2) := by decide +kernel
theorem dX13_overridesFinal_79 : decode cX13_overridesFinal 79 = .ok (.if_icmp .eq 28, 3) := by decide +kernel
theorem dX13_overridesFinal_82 : decode cX13_overridesFinal 82 = .ok (.aload_n 0, 1) := by decide +kernel
theorem dX13_overridesFinal_83 : decode cX13_overridesFinal 83 = .ok (.getfield 344, 3) := by decide +kernel
theorem dX13_overridesFinal_86 : decode cX13_overridesFinal 86 = .ok (.iload 6, 2) := by decide +kernel
theorem dX13_overridesFinal_88 : decode cX13_overridesFinal 88 = .ok (.baload, 1) := by decide +kernel
theorem dX13_overridesFinal_89 : decode cX13_overridesFinal 89 = .ok (.ifCond .eq 18, 3) := by decide +kernel
theorem dX13_overridesFinal_92 : decode cX13_overridesFinal 92 = .ok (.aload_n 0, 1) := by decide +kernel
theorem dX13_overridesFinal_93 : decode cX13_overridesFinal 93 = .ok (.iload 4, 2) := by decide +kernel
theorem dX13_overridesFinal_95 : decode cX13_overridesFinal 95 = .ok (.iload 6, 2) := by decide +kernel
theorem dX13_overridesFinal_97 : decode cX13_overridesFinal 97 = .ok (.invokevirtual 643, 3) := by decide +kernel
theorem dX13_overridesFinal_100 : decode cX13_overridesFinal 100 = .ok (.ifCond .eq 7, 3) := by decide +kernel
theorem dX13_overridesFinal_103 : decode cX13_overridesFinal 103 = .ok (.iconst 1, 1) := by decide +kernel
theorem dX13_overridesFinal_104 : decode cX13_overridesFinal 104 = .ok (.goto 4, 3) := by decide +kernel
theorem dX13_overridesFinal_107 : decode cX13_overridesFinal 107 = .ok (.iconst 0, 1) := by decide +kernel
theorem dX13_overridesFinal_108 : decode cX13_overridesFinal 108 = .ok (.istore_n 2, 1) := by decide +kernel
theorem dX13_overridesFinal_109 : decode cX13_overridesFinal 109 = .ok (.aload_n 0, 1) := by decide +kernel
theorem dX13_overridesFinal_110 : decode cX13_overridesFinal 110 = .ok (.iload 5, 2) := by decide +kernel
theorem dX13_overridesFinal_112 : decode cX13_overridesFinal 112 = .ok (.invokevirtual 558, 3) := by decide +kernel
theorem dX13_overridesFinal_115 : decode cX13_overridesFinal 115 = .ok (.istore 5, 2) := by decide +kernel
theorem dX13_overridesFinal_117 : decode cX13_overridesFinal 117 = .ok (.goto (-63), 3) := by decide +kernel
theorem dX13_overridesFinal_120 : decode cX13_overridesFinal 120 = .ok (.iinc 3 1, 3) := by decide +kernel
theorem dX13_overridesFinal_123 : decode cX13_overridesFinal 123 = .ok (.goto (-119), 3) := by decide +kernel
theorem dX13_overridesFinal_126 : decode cX13_overridesFinal 126 = .ok (.iload_n 2, 1) := by decide +kernel
theorem dX13_overridesFinal_127 : decode cX13_overridesFinal 127 = .ok (.ireturn, 1) := by decide +kernel
theorem dX13_see_0 : decode cX13_see 0 = .ok (.aload_n 0, 1) := by decide +kernel
theorem dX13_see_1 : decode cX13_see 1 = .ok (.getfield 1118, 3) := by decide +kernel
theorem dX13_see_4 : decode cX13_see 4 = .ok (.aload_n 0, 1) := by decide +kernel
theorem dX13_see_5 : decode cX13_see 5 = .ok (.getfield 1121, 3) := by decide +kernel
theorem dX13_see_8 : decode cX13_see 8 = .ok (.iload_n 1, 1) := by decide +kernel
theorem dX13_see_9 : decode cX13_see 9 = .ok (.iastore, 1) := by decide +kernel
theorem dX13_see_10 : decode cX13_see 10 = .ok (.aload_n 0, 1) := by decide +kernel
theorem dX13_see_11 : decode cX13_see 11 = .ok (.dup, 1) := by decide +kernel
theorem dX13_see_12 : decode cX13_see 12 = .ok (.getfield 1121, 3) := by decide +kernel
theorem dX13_see_15 : decode cX13_see 15 = .ok (.iconst 1, 1) := by decide +kernel
theorem dX13_see_16 : decode cX13_see 16 = .ok (.iadd, 1) := by decide +kernel
theorem dX13_see_17 : decode cX13_see 17 = .ok (.putfield 1121, 3) := by decide +kernel
theorem dX13_see_20 : decode cX13_see 20 = .ok (.return_, 1) := by decide +kernel
theorem dX13_ask_0 : decode cX13_ask 0 = .ok (.aload_n 0, 1) := by decide +kernel
theorem dX13_ask_1 : decode cX13_ask 1 = .ok (.bipush (-2), 2) := by decide +kernel
theorem dX13_ask_3 : decode cX13_ask 3 = .ok (.putfield 1124, 3) := by decide +kernel
theorem dX13_ask_6 : decode cX13_ask 6 = .ok (.aload_n 0, 1) := by decide +kernel
theorem dX13_ask_7 : decode cX13_ask 7 = .ok (.iconst 0, 1) := by decide +kernel
theorem dX13_ask_8 : decode cX13_ask 8 = .ok (.putfield 1121, 3) := by decide +kernel
theorem dX13_ask_11 : decode cX13_ask 11 = .ok (.aload_n 0, 1) := by decide +kernel
theorem dX13_ask_12 : decode cX13_ask 12 = .ok (.getfield 866, 3) := by decide +kernel
theorem dX13_ask_15 : decode cX13_ask 15 = .ok (.iload_n 1, 1) := by decide +kernel
theorem dX13_ask_16 : decode cX13_ask 16 = .ok (.iaload, 1) := by decide +kernel
theorem dX13_ask_17 : decode cX13_ask 17 = .ok (.istore_n 3, 1) := by decide +kernel
theorem dX13_ask_18 : decode cX13_ask 18 = .ok (.iload_n 3, 1) := by decide +kernel
theorem dX13_ask_19 : decode cX13_ask 19 = .ok (.bipush 16, 2) := by decide +kernel
theorem dX13_ask_21 : decode cX13_ask 21 = .ok (.if_icmp .ne 18, 3) := by decide +kernel
theorem dX13_ask_24 : decode cX13_ask 24 = .ok (.aload_n 0, 1) := by decide +kernel
theorem dX13_ask_25 : decode cX13_ask 25 = .ok (.iload_n 1, 1) := by decide +kernel
theorem dX13_ask_26 : decode cX13_ask 26 = .ok (.invokevirtual 1127, 3) := by decide +kernel
theorem dX13_ask_29 : decode cX13_ask 29 = .ok (.ifCond .eq 8, 3) := by decide +kernel
theorem dX13_ask_32 : decode cX13_ask 32 = .ok (.bipush 17, 2) := by decide +kernel
theorem dX13_ask_34 : decode cX13_ask 34 = .ok (.goto 4, 3) := by decide +kernel
theorem dX13_ask_37 : decode cX13_ask 37 = .ok (.iconst 0, 1) := by decide +kernel
theorem dX13_ask_38 : decode cX13_ask 38 = .ok (.ireturn, 1) := by decide +kernel
theorem dX13_ask_39 : decode cX13_ask 39 = .ok (.aload_n 0, 1) := by decide +kernel
theorem dX13_ask_40 : decode cX13_ask 40 = .ok (.getfield 588, 3) := by decide +kernel
theorem dX13_ask_43 : decode cX13_ask 43 = .ok (.istore 4, 2) := by decide +kernel
theorem dX13_ask_45 : decode cX13_ask 45 = .ok (.aload_n 0, 1) := by decide +kernel
theorem dX13_ask_46 : decode cX13_ask 46 = .ok (.iconst 1, 1) := by decide +kernel
theorem dX13_ask_47 : decode cX13_ask 47 = .ok (.putfield 588, 3) := by decide +kernel
theorem dX13_ask_50 : decode cX13_ask 50 = .ok (.aload_n 0, 1) := by decide +kernel
theorem dX13_ask_51 : decode cX13_ask 51 = .ok (.aload_n 0, 1) := by decide +kernel
theorem dX13_ask_52 : decode cX13_ask 52 = .ok (.getfield 869, 3) := by decide +kernel
theorem dX13_ask_55 : decode cX13_ask 55 = .ok (.iload_n 1, 1) := by decide +kernel
theorem dX13_ask_56 : decode cX13_ask 56 = .ok (.iaload, 1) := by decide +kernel
theorem dX13_ask_57 : decode cX13_ask 57 = .ok (.invokevirtual 592, 3) := by decide +kernel
theorem dX13_ask_60 : decode cX13_ask 60 = .ok (.istore 5, 2) := by decide +kernel
theorem dX13_ask_62 : decode cX13_ask 62 = .ok (.iload 5, 2) := by decide +kernel
theorem dX13_ask_64 : decode cX13_ask 64 = .ok (.ifCond .eq 8, 3) := by decide +kernel
theorem dX13_ask_67 : decode cX13_ask 67 = .ok (.iload 5, 2) := by decide +kernel
theorem dX13_ask_69 : decode cX13_ask 69 = .ok (.goto 23, 3) := by decide +kernel
theorem dX13_ask_72 : decode cX13_ask 72 = .ok (.iload_n 3, 1) := by decide +kernel
theorem dX13_ask_73 : decode cX13_ask 73 = .ok (.bipush 17, 2) := by decide +kernel
theorem dX13_ask_75 : decode cX13_ask 75 = .ok (.if_icmp .ne 11, 3) := by decide +kernel
theorem dX13_ask_78 : decode cX13_ask 78 = .ok (.aload_n 0, 1) := by decide +kernel
theorem dX13_ask_79 : decode cX13_ask 79 = .ok (.iload_n 1, 1) := by decide +kernel
theorem dX13_ask_80 : decode cX13_ask 80 = .ok (.invokevirtual 1130, 3) := by decide +kernel
theorem dX13_ask_83 : decode cX13_ask 83 = .ok (.goto 9, 3) := by decide +kernel
theorem dX13_ask_86 : decode cX13_ask 86 = .ok (.aload_n 0, 1) := by decide +kernel
theorem dX13_ask_87 : decode cX13_ask 87 = .ok (.iload_n 1, 1) := by decide +kernel
theorem dX13_ask_88 : decode cX13_ask 88 = .ok (.iload_n 2, 1) := by decide +kernel
theorem dX13_ask_89 : decode cX13_ask 89 = .ok (.invokevirtual 1133, 3) := by decide +kernel
theorem dX13_ask_92 : decode cX13_ask 92 = .ok (.istore 5, 2) := by decide +kernel
theorem dX13_ask_94 : decode cX13_ask 94 = .ok (.aload_n 0, 1) := by decide +kernel
theorem dX13_ask_95 : decode cX13_ask 95 = .ok (.iload 4, 2) := by decide +kernel
theorem dX13_ask_97 : decode cX13_ask 97 = .ok (.putfield 588, 3) := by decide +kernel
theorem dX13_ask_100 : decode cX13_ask 100 = .ok (.iload 5, 2) := by decide +kernel
theorem dX13_ask_102 : decode cX13_ask 102 = .ok (.ireturn, 1) := by decide +kernel
theorem dX13_isStale_0 : decode cX13_isStale 0 = .ok (.aload_n 0, 1) := by decide +kernel
theorem dX13_isStale_1 : decode cX13_isStale 1 = .ok (.aload_n 0, 1) := by decide +kernel
theorem dX13_isStale_2 : decode cX13_isStale 2 = .ok (.getfield 872, 3) := by decide +kernel
theorem dX13_isStale_5 : decode cX13_isStale 5 = .ok (.iload_n 1, 1) := by decide +kernel
theorem dX13_isStale_6 : decode cX13_isStale 6 = .ok (.laload, 1) := by decide +kernel
theorem dX13_isStale_7 : decode cX13_isStale 7 = .ok (.invokevirtual 551, 3) := by decide +kernel
theorem dX13_isStale_10 : decode cX13_isStale 10 = .ok (.istore_n 2, 1) := by decide +kernel
theorem dX13_isStale_11 : decode cX13_isStale 11 = .ok (.iload_n 2, 1) := by decide +kernel
theorem dX13_isStale_12 : decode cX13_isStale 12 = .ok (.bipush (-2), 2) := by decide +kernel
theorem dX13_isStale_14 : decode cX13_isStale 14 = .ok (.if_icmp .ne 8, 3) := by decide +kernel
theorem dX13_isStale_17 : decode cX13_isStale 17 = .ok (.bipush (-2), 2) := by decide +kernel
theorem dX13_isStale_19 : decode cX13_isStale 19 = .ok (.goto 17, 3) := by decide +kernel
theorem dX13_isStale_22 : decode cX13_isStale 22 = .ok (.aload_n 0, 1) := by decide +kernel
theorem dX13_isStale_23 : decode cX13_isStale 23 = .ok (.iload_n 2, 1) := by decide +kernel
theorem dX13_isStale_24 : decode cX13_isStale 24 = .ok (.aload_n 0, 1) := by decide +kernel
theorem dX13_isStale_25 : decode cX13_isStale 25 = .ok (.getfield 875, 3) := by decide +kernel
theorem dX13_isStale_28 : decode cX13_isStale 28 = .ok (.iload_n 1, 1) := by decide +kernel
theorem dX13_isStale_29 : decode cX13_isStale 29 = .ok (.laload, 1) := by decide +kernel
theorem dX13_isStale_30 : decode cX13_isStale 30 = .ok (.ldc2_w 43, 3) := by decide +kernel
theorem dX13_isStale_33 : decode cX13_isStale 33 = .ok (.invokevirtual 736, 3) := by decide +kernel
theorem dX13_isStale_36 : decode cX13_isStale 36 = .ok (.istore_n 3, 1) := by decide +kernel
theorem dX13_isStale_37 : decode cX13_isStale 37 = .ok (.iload_n 3, 1) := by decide +kernel
theorem dX13_isStale_38 : decode cX13_isStale 38 = .ok (.bipush (-2), 2) := by decide +kernel
theorem dX13_isStale_40 : decode cX13_isStale 40 = .ok (.if_icmp .eq 27, 3) := by decide +kernel
theorem dX13_isStale_43 : decode cX13_isStale 43 = .ok (.aload_n 0, 1) := by decide +kernel
theorem dX13_isStale_44 : decode cX13_isStale 44 = .ok (.getfield 377, 3) := by decide +kernel
theorem dX13_isStale_47 : decode cX13_isStale 47 = .ok (.iload_n 3, 1) := by decide +kernel
theorem dX13_isStale_48 : decode cX13_isStale 48 = .ok (.baload, 1) := by decide +kernel
theorem dX13_isStale_49 : decode cX13_isStale 49 = .ok (.ifCond .eq 18, 3) := by decide +kernel
theorem dX13_isStale_52 : decode cX13_isStale 52 = .ok (.aload_n 0, 1) := by decide +kernel
theorem dX13_isStale_53 : decode cX13_isStale 53 = .ok (.getfield 380, 3) := by decide +kernel
theorem dX13_isStale_56 : decode cX13_isStale 56 = .ok (.iload_n 3, 1) := by decide +kernel
theorem dX13_isStale_57 : decode cX13_isStale 57 = .ok (.iaload, 1) := by decide +kernel
theorem dX13_isStale_58 : decode cX13_isStale 58 = .ok (.aload_n 0, 1) := by decide +kernel
theorem dX13_isStale_59 : decode cX13_isStale 59 = .ok (.getfield 887, 3) := by decide +kernel
theorem dX13_isStale_62 : decode cX13_isStale 62 = .ok (.iload_n 1, 1) := by decide +kernel
theorem dX13_isStale_63 : decode cX13_isStale 63 = .ok (.iaload, 1) := by decide +kernel
theorem dX13_isStale_64 : decode cX13_isStale 64 = .ok (.if_icmp .eq 7, 3) := by decide +kernel
theorem dX13_isStale_67 : decode cX13_isStale 67 = .ok (.iconst 1, 1) := by decide +kernel
theorem dX13_isStale_68 : decode cX13_isStale 68 = .ok (.goto 4, 3) := by decide +kernel
theorem dX13_isStale_71 : decode cX13_isStale 71 = .ok (.iconst 0, 1) := by decide +kernel
theorem dX13_isStale_72 : decode cX13_isStale 72 = .ok (.ireturn, 1) := by decide +kernel
theorem dX13_askFit_0 : decode cX13_askFit 0 = .ok (.aload_n 0, 1) := by decide +kernel
theorem dX13_askFit_1 : decode cX13_askFit 1 = .ok (.aload_n 0, 1) := by decide +kernel
theorem dX13_askFit_2 : decode cX13_askFit 2 = .ok (.getfield 884, 3) := by decide +kernel
theorem dX13_askFit_5 : decode cX13_askFit 5 = .ok (.iload_n 1, 1) := by decide +kernel
theorem dX13_askFit_6 : decode cX13_askFit 6 = .ok (.laload, 1) := by decide +kernel
theorem dX13_askFit_7 : decode cX13_askFit 7 = .ok (.invokevirtual 551, 3) := by decide +kernel
theorem dX13_askFit_10 : decode cX13_askFit 10 = .ok (.istore_n 2, 1) := by decide +kernel
theorem dX13_askFit_11 : decode cX13_askFit 11 = .ok (.iload_n 2, 1) := by decide +kernel
theorem dX13_askFit_12 : decode cX13_askFit 12 = .ok (.bipush (-2), 2) := by decide +kernel
theorem dX13_askFit_14 : decode cX13_askFit 14 = .ok (.if_icmp .ne 7, 3) := by decide +kernel
theorem dX13_askFit_17 : decode cX13_askFit 17 = .ok (.iconst 1, 1) := by decide +kernel
theorem dX13_askFit_18 : decode cX13_askFit 18 = .ok (.goto 8, 3) := by decide +kernel
theorem dX13_askFit_21 : decode cX13_askFit 21 = .ok (.aload_n 0, 1) := by decide +kernel
theorem dX13_askFit_22 : decode cX13_askFit 22 = .ok (.iload_n 2, 1) := by decide +kernel
theorem dX13_askFit_23 : decode cX13_askFit 23 = .ok (.invokevirtual 592, 3) := by decide +kernel
theorem dX13_askFit_26 : decode cX13_askFit 26 = .ok (.istore_n 3, 1) := by decide +kernel
theorem dX13_askFit_27 : decode cX13_askFit 27 = .ok (.iload_n 3, 1) := by decide +kernel
theorem dX13_askFit_28 : decode cX13_askFit 28 = .ok (.ifCond .ne 11, 3) := by decide +kernel
theorem dX13_askFit_31 : decode cX13_askFit 31 = .ok (.aload_n 0, 1) := by decide +kernel
theorem dX13_askFit_32 : decode cX13_askFit 32 = .ok (.iload_n 2, 1) := by decide +kernel
theorem dX13_askFit_33 : decode cX13_askFit 33 = .ok (.invokevirtual 548, 3) := by decide +kernel
theorem dX13_askFit_36 : decode cX13_askFit 36 = .ok (.ifCond .eq 5, 3) := by decide +kernel
theorem dX13_askFit_39 : decode cX13_askFit 39 = .ok (.iload_n 3, 1) := by decide +kernel
theorem dX13_askFit_40 : decode cX13_askFit 40 = .ok (.ireturn, 1) := by decide +kernel
theorem dX13_askFit_41 : decode cX13_askFit 41 = .ok (.aload_n 0, 1) := by decide +kernel
theorem dX13_askFit_42 : decode cX13_askFit 42 = .ok (.aload_n 0, 1) := by decide +kernel
theorem dX13_askFit_43 : decode cX13_askFit 43 = .ok (.getfield 872, 3) := by decide +kernel
theorem dX13_askFit_46 : decode cX13_askFit 46 = .ok (.iload_n 1, 1) := by decide +kernel
theorem dX13_askFit_47 : decode cX13_askFit 47 = .ok (.laload, 1) := by decide +kernel
theorem dX13_askFit_48 : decode cX13_askFit 48 = .ok (.invokevirtual 551, 3) := by decide +kernel
theorem dX13_askFit_51 : decode cX13_askFit 51 = .ok (.istore 4, 2) := by decide +kernel
theorem dX13_askFit_53 : decode cX13_askFit 53 = .ok (.iload 4, 2) := by decide +kernel
theorem dX13_askFit_55 : decode cX13_askFit 55 = .ok (.bipush (-2), 2) := by decide +kernel
theorem dX13_askFit_57 : decode cX13_askFit 57 = .ok (.if_icmp .ne 7, 3) := by decide +kernel
theorem dX13_askFit_60 : decode cX13_askFit 60 = .ok (.iconst 1, 1) := by decide +kernel
theorem dX13_askFit_61 : decode cX13_askFit 61 = .ok (.goto 9, 3) := by decide +kernel
theorem dX13_askFit_64 : decode cX13_askFit 64 = .ok (.aload_n 0, 1) := by decide +kernel
theorem dX13_askFit_65 : decode cX13_askFit 65 = .ok (.iload 4, 2) := by decide +kernel
theorem dX13_askFit_67 : decode cX13_askFit 67 = .ok (.invokevirtual 592, 3) := by decide +kernel
theorem dX13_askFit_70 : decode cX13_askFit 70 = .ok (.istore_n 3, 1) := by decide +kernel
theorem dX13_askFit_71 : decode cX13_askFit 71 = .ok (.iload_n 3, 1) := by decide +kernel
theorem dX13_askFit_72 : decode cX13_askFit 72 = .ok (.ifCond .eq 7, 3) := by decide +kernel
theorem dX13_askFit_75 : decode cX13_askFit 75 = .ok (.iload_n 3, 1) := by decide +kernel
theorem dX13_askFit_76 : decode cX13_askFit 76 = .ok (.goto 25, 3) := by decide +kernel
theorem dX13_askFit_79 : decode cX13_askFit 79 = .ok (.iload 4, 2) := by decide +kernel
theorem dX13_askFit_81 : decode cX13_askFit 81 = .ok (.iload_n 2, 1) := by decide +kernel
theorem dX13_askFit_82 : decode cX13_askFit 82 = .ok (.if_icmp .eq 13, 3) := by decide +kernel
theorem dX13_askFit_85 : decode cX13_askFit 85 = .ok (.aload_n 0, 1) := by decide +kernel
theorem dX13_askFit_86 : decode cX13_askFit 86 = .ok (.iload 4, 2) := by decide +kernel
theorem dX13_askFit_88 : decode cX13_askFit 88 = .ok (.iload_n 2, 1) := by decide +kernel
theorem dX13_askFit_89 : decode cX13_askFit 89 = .ok (.invokevirtual 581, 3) := by decide +kernel
theorem dX13_askFit_92 : decode cX13_askFit 92 = .ok (.ifCond .eq 7, 3) := by decide +kernel
theorem dX13_askFit_95 : decode cX13_askFit 95 = .ok (.iconst 0, 1) := by decide +kernel
theorem dX13_askFit_96 : decode cX13_askFit 96 = .ok (.goto 5, 3) := by decide +kernel
theorem dX13_askFit_99 : decode cX13_askFit 99 = .ok (.bipush 11, 2) := by decide +kernel
theorem dX13_askFit_101 : decode cX13_askFit 101 = .ok (.ireturn, 1) := by decide +kernel
theorem dX13_askClass_0 : decode cX13_askClass 0 = .ok (.aload_n 0, 1) := by decide +kernel
theorem dX13_askClass_1 : decode cX13_askClass 1 = .ok (.getfield 869, 3) := by decide +kernel
theorem dX13_askClass_4 : decode cX13_askClass 4 = .ok (.iload_n 1, 1) := by decide +kernel
theorem dX13_askClass_5 : decode cX13_askClass 5 = .ok (.iaload, 1) := by decide +kernel
theorem dX13_askClass_6 : decode cX13_askClass 6 = .ok (.istore_n 3, 1) := by decide +kernel
theorem dX13_askClass_7 : decode cX13_askClass 7 = .ok (.aload_n 0, 1) := by decide +kernel
theorem dX13_askClass_8 : decode cX13_askClass 8 = .ok (.aload_n 0, 1) := by decide +kernel
theorem dX13_askClass_9 : decode cX13_askClass 9 = .ok (.getfield 872, 3) := by decide +kernel
theorem dX13_askClass_12 : decode cX13_askClass 12 = .ok (.iload_n 1, 1) := by decide +kernel
theorem dX13_askClass_13 : decode cX13_askClass 13 = .ok (.laload, 1) := by decide +kernel
theorem dX13_askClass_14 : decode cX13_askClass 14 = .ok (.invokevirtual 551, 3) := by decide +kernel
theorem dX13_askClass_17 : decode cX13_askClass 17 = .ok (.istore 4, 2) := by decide +kernel
theorem dX13_askClass_19 : decode cX13_askClass 19 = .ok (.iload 4, 2) := by decide +kernel
theorem dX13_askClass_21 : decode cX13_askClass 21 = .ok (.bipush (-2), 2) := by decide +kernel
theorem dX13_askClass_23 : decode cX13_askClass 23 = .ok (.if_icmp .ne 7, 3) := by decide +kernel
theorem dX13_askClass_26 : decode cX13_askClass 26 = .ok (.iconst 1, 1) := by decide +kernel
theorem dX13_askClass_27 : decode cX13_askClass 27 = .ok (.goto 9, 3) := by decide +kernel
theorem dX13_askClass_30 : decode cX13_askClass 30 = .ok (.aload_n 0, 1) := by decide +kernel
theorem dX13_askClass_31 : decode cX13_askClass 31 = .ok (.iload 4, 2) := by decide +kernel
theorem dX13_askClass_33 : decode cX13_askClass 33 = .ok (.invokevirtual 592, 3) := by decide +kernel
theorem dX13_askClass_36 : decode cX13_askClass 36 = .ok (.istore 5, 2) := by decide +kernel
theorem dX13_askClass_38 : decode cX13_askClass 38 = .ok (.iload 5, 2) := by decide +kernel
theorem dX13_askClass_40 : decode cX13_askClass 40 = .ok (.ifCond .eq 6, 3) := by decide +kernel
theorem dX13_askClass_43 : decode cX13_askClass 43 = .ok (.iload 5, 2) := by decide +kernel
theorem dX13_askClass_45 : decode cX13_askClass 45 = .ok (.ireturn, 1) := by decide +kernel
theorem dX13_askClass_46 : decode cX13_askClass 46 = .ok (.aload_n 0, 1) := by decide +kernel
theorem dX13_askClass_47 : decode cX13_askClass 47 = .ok (.getfield 866, 3) := by decide +kernel
theorem dX13_askClass_50 : decode cX13_askClass 50 = .ok (.iload_n 1, 1) := by decide +kernel
theorem dX13_askClass_51 : decode cX13_askClass 51 = .ok (.iaload, 1) := by decide +kernel
theorem dX13_askClass_52 : decode cX13_askClass 52 = .ok (.istore 6, 2) := by decide +kernel
theorem dX13_askClass_54 : decode cX13_askClass 54 = .ok (.iload 6, 2) := by decide +kernel
theorem dX13_askClass_56 : decode cX13_askClass 56 = .ok (.bipush 15, 2) := by decide +kernel
theorem dX13_askClass_58 : decode cX13_askClass 58 = .ok (.if_icmp .ne 26, 3) := by decide +kernel
theorem dX13_askClass_61 : decode cX13_askClass 61 = .ok (.iload 4, 2) := by decide +kernel
theorem dX13_askClass_63 : decode cX13_askClass 63 = .ok (.sipush 205, 3) := by decide +kernel
theorem dX13_askClass_66 : decode cX13_askClass 66 = .ok (.if_icmp .eq 18, 3) := by decide +kernel
theorem dX13_askClass_69 : decode cX13_askClass 69 = .ok (.aload_n 0, 1) := by decide +kernel
theorem dX13_askClass_70 : decode cX13_askClass 70 = .ok (.iload 4, 2) := by decide +kernel
theorem dX13_askClass_72 : decode cX13_askClass 72 = .ok (.sipush 205, 3) := by decide +kernel
theorem dX13_askClass_75 : decode cX13_askClass 75 = .ok (.invokevirtual 581, 3) := by decide +kernel
theorem dX13_askClass_78 : decode cX13_askClass 78 = .ok (.ifCond .ne 6, 3) := by decide +kernel
theorem dX13_askClass_81 : decode cX13_askClass 81 = .ok (.bipush 11, 2) := by decide +kernel
theorem dX13_askClass_83 : decode cX13_askClass 83 = .ok (.ireturn, 1) := by decide +kernel
theorem dX13_askClass_84 : decode cX13_askClass 84 = .ok (.iload_n 2, 1) := by decide +kernel
theorem dX13_askClass_85 : decode cX13_askClass 85 = .ok (.ifCond .ne 15, 3) := by decide +kernel
theorem dX13_askClass_88 : decode cX13_askClass 88 = .ok (.aload_n 0, 1) := by decide +kernel
theorem dX13_askClass_89 : decode cX13_askClass 89 = .ok (.iload 4, 2) := by decide +kernel
theorem dX13_askClass_91 : decode cX13_askClass 91 = .ok (.iload_n 3, 1) := by decide +kernel
theorem dX13_askClass_92 : decode cX13_askClass 92 = .ok (.invokevirtual 652, 3) := by decide +kernel
theorem dX13_askClass_95 : decode cX13_askClass 95 = .ok (.ifCond .ne 5, 3) := by decide +kernel
theorem dX13_askClass_98 : decode cX13_askClass 98 = .ok (.iconst 2, 1) := by decide +kernel
theorem dX13_askClass_99 : decode cX13_askClass 99 = .ok (.ireturn, 1) := by decide +kernel
theorem dX13_askClass_100 : decode cX13_askClass 100 = .ok (.iload 6, 2) := by decide +kernel
theorem dX13_askClass_102 : decode cX13_askClass 102 = .ok (.iconst 1, 1) := by decide +kernel
theorem dX13_askClass_103 : decode cX13_askClass 103 = .ok (.if_icmp .ne 30, 3) := by decide +kernel
theorem dX13_askClass_106 : decode cX13_askClass 106 = .ok (.aload_n 0, 1) := by decide +kernel
theorem dX13_askClass_107 : decode cX13_askClass 107 = .ok (.iload 4, 2) := by decide +kernel
theorem dX13_askClass_109 : decode cX13_askClass 109 = .ok (.invokevirtual 548, 3) := by decide +kernel
theorem dX13_askClass_112 : decode cX13_askClass 112 = .ok (.ifCond .ne 14, 3) := by decide +kernel
theorem dX13_askClass_115 : decode cX13_askClass 115 = .ok (.aload_n 0, 1) := by decide +kernel
theorem dX13_askClass_116 : decode cX13_askClass 116 = .ok (.getfield 266, 3) := by decide +kernel
theorem dX13_askClass_119 : decode cX13_askClass 119 = .ok (.iload 4, 2) := by decide +kernel
theorem dX13_askClass_121 : decode cX13_askClass 121 = .ok (.iaload, 1) := by decide +kernel
theorem dX13_askClass_122 : decode cX13_askClass 122 = .ok (.iconst 2, 1) := by decide +kernel
theorem dX13_askClass_123 : decode cX13_askClass 123 = .ok (.if_icmp .ne 8, 3) := by decide +kernel
theorem dX13_askClass_126 : decode cX13_askClass 126 = .ok (.bipush 7, 2) := by decide +kernel
theorem dX13_askClass_128 : decode cX13_askClass 128 = .ok (.goto 4, 3) := by decide +kernel
theorem dX13_askClass_131 : decode cX13_askClass 131 = .ok (.iconst 0, 1) := by decide +kernel
theorem dX13_askClass_132 : decode cX13_askClass 132 = .ok (.ireturn, 1) := by decide +kernel
theorem dX13_askClass_133 : decode cX13_askClass 133 = .ok (.iload 6, 2) := by decide +kernel
theorem dX13_askClass_135 : decode cX13_askClass 135 = .ok (.bipush 13, 2) := by decide +kernel
theorem dX13_askClass_137 : decode cX13_askClass 137 = .ok (.if_icmp .lt 5, 3) := by decide +kernel
theorem dX13_askClass_140 : decode cX13_askClass 140 = .ok (.iconst 0, 1) := by decide +kernel
theorem dX13_askClass_141 : decode cX13_askClass 141 = .ok (.ireturn, 1) := by decide +kernel
theorem dX13_askClass_142 : decode cX13_askClass 142 = .ok (.aload_n 0, 1) := by decide +kernel
theorem dX13_askClass_143 : decode cX13_askClass 143 = .ok (.getfield 356, 3) := by decide +kernel
theorem dX13_askClass_146 : decode cX13_askClass 146 = .ok (.sipush 7343, 3) := by decide +kernel
theorem dX13_askClass_149 : decode cX13_askClass 149 = .ok (.aload_n 0, 1) := by decide +kernel
theorem dX13_askClass_150 : decode cX13_askClass 150 = .ok (.getfield 875, 3) := by decide +kernel
theorem dX13_askClass_153 : decode cX13_askClass 153 = .ok (.iload_n 1, 1) := by decide +kernel
theorem dX13_askClass_154 : decode cX13_askClass 154 = .ok (.laload, 1) := by decide +kernel
theorem dX13_askClass_155 : decode cX13_askClass 155 = .ok (.lastore, 1) := by decide +kernel
theorem dX13_askClass_156 : decode cX13_askClass 156 = .ok (.aload_n 0, 1) := by decide +kernel
theorem dX13_askClass_157 : decode cX13_askClass 157 = .ok (.getfield 359, 3) := by decide +kernel
theorem dX13_askClass_160 : decode cX13_askClass 160 = .ok (.sipush 7343, 3) := by decide +kernel
theorem dX13_askClass_163 : decode cX13_askClass 163 = .ok (.aload_n 0, 1) := by decide +kernel
theorem dX13_askClass_164 : decode cX13_askClass 164 = .ok (.getfield 878, 3) := by decide +kernel
theorem dX13_askClass_167 : decode cX13_askClass 167 = .ok (.iload_n 1, 1) := by decide +kernel
theorem dX13_askClass_168 : decode cX13_askClass 168 = .ok (.laload, 1) := by decide +kernel
theorem dX13_askClass_169 : decode cX13_askClass 169 = .ok (.lastore, 1) := by decide +kernel
theorem dX13_askClass_170 : decode cX13_askClass 170 = .ok (.aload_n 0, 1) := by decide +kernel
theorem dX13_askClass_171 : decode cX13_askClass 171 = .ok (.getfield 362, 3) := by decide +kernel
theorem dX13_askClass_174 : decode cX13_askClass 174 = .ok (.sipush 7343, 3) := by decide +kernel
theorem dX13_askClass_177 : decode cX13_askClass 177 = .ok (.aload_n 0, 1) := by decide +kernel
theorem dX13_askClass_178 : decode cX13_askClass 178 = .ok (.getfield 881, 3) := by decide +kernel
theorem dX13_askClass_181 : decode cX13_askClass 181 = .ok (.iload_n 1, 1) := by decide +kernel
theorem dX13_askClass_182 : decode cX13_askClass 182 = .ok (.iaload, 1) := by decide +kernel
theorem dX13_askClass_183 : decode cX13_askClass 183 = .ok (.iastore, 1) := by decide +kernel
theorem dX13_askClass_184 : decode cX13_askClass 184 = .ok (.iconst 0, 1) := by decide +kernel
theorem dX13_askClass_185 : decode cX13_askClass 185 = .ok (.istore 7, 2) := by decide +kernel
theorem dX13_askClass_187 : decode cX13_askClass 187 = .ok (.iload 7, 2) := by decide +kernel
theorem dX13_askClass_189 : decode cX13_askClass 189 = .ok (.aload_n 0, 1) := by decide +kernel
theorem dX13_askClass_190 : decode cX13_askClass 190 = .ok (.getfield 881, 3) := by decide +kernel
theorem dX13_askClass_193 : decode cX13_askClass 193 = .ok (.iload_n 1, 1) := by decide +kernel
theorem dX13_askClass_194 : decode cX13_askClass 194 = .ok (.iaload, 1) := by decide +kernel
theorem dX13_askClass_195 : decode cX13_askClass 195 = .ok (.if_icmp .ge 31, 3) := by decide +kernel
theorem dX13_askClass_198 : decode cX13_askClass 198 = .ok (.aload_n 0, 1) := by decide +kernel
theorem dX13_askClass_199 : decode cX13_askClass 199 = .ok (.getfield 442, 3) := by decide +kernel
theorem dX13_askClass_202 : decode cX13_askClass 202 = .ok (.sipush 29372, 3) := by decide +kernel
theorem dX13_askClass_205 : decode cX13_askClass 205 = .ok (.iload 7, 2) := by decide +kernel
theorem dX13_askClass_207 : decode cX13_askClass 207 = .ok (.iadd, 1) := by decide +kernel
theorem dX13_askClass_208 : decode cX13_askClass 208 = .ok (.aload_n 0, 1) := by decide +kernel
theorem dX13_askClass_209 : decode cX13_askClass 209 = .ok (.getfield 890, 3) := by decide +kernel
theorem dX13_askClass_212 : decode cX13_askClass 212 = .ok (.iconst 4, 1) := by decide +kernel
theorem dX13_askClass_213 : decode cX13_askClass 213 = .ok (.iload_n 1, 1) := by decide +kernel
theorem dX13_askClass_214 : decode cX13_askClass 214 = .ok (.imul, 1) := by decide +kernel
theorem dX13_askClass_215 : decode cX13_askClass 215 = .ok (.iload 7, 2) := by decide +kernel
theorem dX13_askClass_217 : decode cX13_askClass 217 = .ok (.iadd, 1) := by decide +kernel
theorem dX13_askClass_218 : decode cX13_askClass 218 = .ok (.laload, 1) := by decide +kernel
theorem dX13_askClass_219 : decode cX13_askClass 219 = .ok (.lastore, 1) := by decide +kernel
theorem dX13_askClass_220 : decode cX13_askClass 220 = .ok (.iinc 7 1, 3) := by decide +kernel
theorem dX13_askClass_223 : decode cX13_askClass 223 = .ok (.goto (-36), 3) := by decide +kernel
theorem dX13_askClass_226 : decode cX13_askClass 226 = .ok (.iload 6, 2) := by decide +kernel
theorem dX13_askClass_228 : decode cX13_askClass 228 = .ok (.iconst 2, 1) := by decide +kernel
theorem dX13_askClass_229 : decode cX13_askClass 229 = .ok (.if_icmp .ne 13, 3) := by decide +kernel
theorem dX13_askClass_232 : decode cX13_askClass 232 = .ok (.aload_n 0, 1) := by decide +kernel
theorem dX13_askClass_233 : decode cX13_askClass 233 = .ok (.iload 4, 2) := by decide +kernel
theorem dX13_askClass_235 : decode cX13_askClass 235 = .ok (.iload_n 3, 1) := by decide +kernel
theorem dX13_askClass_236 : decode cX13_askClass 236 = .ok (.invokevirtual 1136, 3) := by decide +kernel
theorem dX13_askClass_239 : decode cX13_askClass 239 = .ok (.goto 30, 3) := by decide +kernel
theorem dX13_askClass_242 : decode cX13_askClass 242 = .ok (.iload 6, 2) := by decide +kernel
theorem dX13_askClass_244 : decode cX13_askClass 244 = .ok (.bipush 6, 2) := by decide +kernel
theorem dX13_askClass_246 : decode cX13_askClass 246 = .ok (.if_icmp .gt 14, 3) := by decide +kernel
theorem dX13_askClass_249 : decode cX13_askClass 249 = .ok (.aload_n 0, 1) := by decide +kernel
theorem dX13_askClass_250 : decode cX13_askClass 250 = .ok (.iload_n 1, 1) := by decide +kernel
theorem dX13_askClass_251 : decode cX13_askClass 251 = .ok (.iload 4, 2) := by decide +kernel
theorem dX13_askClass_253 : decode cX13_askClass 253 = .ok (.iload_n 3, 1) := by decide +kernel
theorem dX13_askClass_254 : decode cX13_askClass 254 = .ok (.invokevirtual 1139, 3) := by decide +kernel
theorem dX13_askClass_257 : decode cX13_askClass 257 = .ok (.goto 12, 3) := by decide +kernel
theorem dX13_askClass_260 : decode cX13_askClass 260 = .ok (.aload_n 0, 1) := by decide +kernel
theorem dX13_askClass_261 : decode cX13_askClass 261 = .ok (.iload 6, 2) := by decide +kernel
theorem dX13_askClass_263 : decode cX13_askClass 263 = .ok (.iload 4, 2) := by decide +kernel
theorem dX13_askClass_265 : decode cX13_askClass 265 = .ok (.iload_n 3, 1) := by decide +kernel
theorem dX13_askClass_266 : decode cX13_askClass 266 = .ok (.invokevirtual 1142, 3) := by decide +kernel
theorem dX13_askClass_269 : decode cX13_askClass 269 = .ok (.ireturn, 1) := by decide +kernel
theorem dX13_askMaker_0 : decode cX13_askMaker 0 = .ok (.aload_n 0, 1) := by decide +kernel
theorem dX13_askMaker_1 : decode cX13_askMaker 1 = .ok (.iload_n 1, 1) := by decide +kernel
theorem dX13_askMaker_2 : decode cX13_askMaker 2 = .ok (.invokevirtual 548, 3) := by decide +kernel
theorem dX13_askMaker_5 : decode cX13_askMaker 5 = .ok (.ifCond .eq 5, 3) := by decide +kernel
theorem dX13_askMaker_8 : decode cX13_askMaker 8 = .ok (.iconst 3, 1) := by decide +kernel
theorem dX13_askMaker_9 : decode cX13_askMaker 9 = .ok (.ireturn, 1) := by decide +kernel
theorem dX13_askMaker_10 : decode cX13_askMaker 10 = .ok (.aload_n 0, 1) := by decide +kernel
theorem dX13_askMaker_11 : decode cX13_askMaker 11 = .ok (.iload_n 1, 1) := by decide +kernel
theorem dX13_askMaker_12 : decode cX13_askMaker 12 = .ok (.invokevirtual 1145, 3) := by decide +kernel
theorem dX13_askMaker_15 : decode cX13_askMaker 15 = .ok (.iconst 0, 1) := by decide +kernel
theorem dX13_askMaker_16 : decode cX13_askMaker 16 = .ok (.istore_n 3, 1) := by decide +kernel
theorem dX13_askMaker_17 : decode cX13_askMaker 17 = .ok (.iload_n 3, 1) := by decide +kernel
theorem dX13_askMaker_18 : decode cX13_askMaker 18 = .ok (.aload_n 0, 1) := by decide +kernel
theorem dX13_askMaker_19 : decode cX13_askMaker 19 = .ok (.getfield 275, 3) := by decide +kernel
theorem dX13_askMaker_22 : decode cX13_askMaker 22 = .ok (.iload_n 1, 1) := by decide +kernel
theorem dX13_askMaker_23 : decode cX13_askMaker 23 = .ok (.iaload, 1) := by decide +kernel
theorem dX13_askMaker_24 : decode cX13_askMaker 24 = .ok (.if_icmp .ge 46, 3) := by decide +kernel
theorem dX13_askMaker_27 : decode cX13_askMaker 27 = .ok (.iload_n 1, 1) := by decide +kernel
theorem dX13_askMaker_28 : decode cX13_askMaker 28 = .ok (.bipush 34, 2) := by decide +kernel
theorem dX13_askMaker_30 : decode cX13_askMaker 30 = .ok (.imul, 1) := by decide +kernel
theorem dX13_askMaker_31 : decode cX13_askMaker 31 = .ok (.iload_n 3, 1) := by decide +kernel
theorem dX13_askMaker_32 : decode cX13_askMaker 32 = .ok (.iadd, 1) := by decide +kernel
theorem dX13_askMaker_33 : decode cX13_askMaker 33 = .ok (.istore 4, 2) := by decide +kernel
theorem dX13_askMaker_35 : decode cX13_askMaker 35 = .ok (.aload_n 0, 1) := by decide +kernel
theorem dX13_askMaker_36 : decode cX13_askMaker 36 = .ok (.getfield 402, 3) := by decide +kernel
theorem dX13_askMaker_39 : decode cX13_askMaker 39 = .ok (.iload 4, 2) := by decide +kernel
theorem dX13_askMaker_41 : decode cX13_askMaker 41 = .ok (.iaload, 1) := by decide +kernel
theorem dX13_askMaker_42 : decode cX13_askMaker 42 = .ok (.iconst 2, 1) := by decide +kernel
theorem dX13_askMaker_43 : decode cX13_askMaker 43 = .ok (.if_icmp .ne 21, 3) := by decide +kernel
theorem dX13_askMaker_46 : decode cX13_askMaker 46 = .ok (.aload_n 0, 1) := by decide +kernel
theorem dX13_askMaker_47 : decode cX13_askMaker 47 = .ok (.iload 4, 2) := by decide +kernel
theorem dX13_askMaker_49 : decode cX13_askMaker 49 = .ok (.sipush 7343, 3) := by decide +kernel
theorem dX13_askMaker_52 : decode cX13_askMaker 52 = .ok (.invokevirtual 618, 3) := by decide +kernel
theorem dX13_askMaker_55 : decode cX13_askMaker 55 = .ok (.ifCond .eq 9, 3) := by decide +kernel
theorem dX13_askMaker_58 : decode cX13_askMaker 58 = .ok (.aload_n 0, 1) := by decide +kernel
theorem dX13_askMaker_59 : decode cX13_askMaker 59 = .ok (.iload 4, 2) := by decide +kernel
theorem dX13_askMaker_61 : decode cX13_askMaker 61 = .ok (.putfield 1124, 3) := by decide +kernel
theorem dX13_askMaker_64 : decode cX13_askMaker 64 = .ok (.iinc 3 1, 3) := by decide +kernel
theorem dX13_askMaker_67 : decode cX13_askMaker 67 = .ok (.goto (-50), 3) := by decide +kernel
theorem dX13_askMaker_70 : decode cX13_askMaker 70 = .ok (.aload_n 0, 1) := by decide +kernel
theorem dX13_askMaker_71 : decode cX13_askMaker 71 = .ok (.getfield 1124, 3) := by decide +kernel
theorem dX13_askMaker_74 : decode cX13_askMaker 74 = .ok (.bipush (-2), 2) := by decide +kernel
theorem dX13_askMaker_76 : decode cX13_askMaker 76 = .ok (.if_icmp .ne 7, 3) := by decide +kernel
theorem dX13_askMaker_79 : decode cX13_askMaker 79 = .ok (.iconst 5, 1) := by decide +kernel
theorem dX13_askMaker_80 : decode cX13_askMaker 80 = .ok (.goto 21, 3) := by decide +kernel
theorem dX13_askMaker_83 : decode cX13_askMaker 83 = .ok (.aload_n 0, 1) := by decide +kernel
theorem dX13_askMaker_84 : decode cX13_askMaker 84 = .ok (.aload_n 0, 1) := by decide +kernel
theorem dX13_askMaker_85 : decode cX13_askMaker 85 = .ok (.getfield 1124, 3) := by decide +kernel
theorem dX13_askMaker_88 : decode cX13_askMaker 88 = .ok (.iload_n 1, 1) := by decide +kernel
theorem dX13_askMaker_89 : decode cX13_askMaker 89 = .ok (.iload_n 2, 1) := by decide +kernel
theorem dX13_askMaker_90 : decode cX13_askMaker 90 = .ok (.invokevirtual 739, 3) := by decide +kernel
theorem dX13_askMaker_93 : decode cX13_askMaker 93 = .ok (.ifCond .eq 7, 3) := by decide +kernel
theorem dX13_askMaker_96 : decode cX13_askMaker 96 = .ok (.iconst 0, 1) := by decide +kernel
theorem dX13_askMaker_97 : decode cX13_askMaker 97 = .ok (.goto 4, 3) := by decide +kernel
theorem dX13_askMaker_100 : decode cX13_askMaker 100 = .ok (.iconst 2, 1) := by decide +kernel
theorem dX13_askMaker_101 : decode cX13_askMaker 101 = .ok (.ireturn, 1) := by decide +kernel
theorem dX13_askField_0 : decode cX13_askField 0 = .ok (.aload_n 0, 1) := by decide +kernel
theorem dX13_askField_1 : decode cX13_askField 1 = .ok (.getfield 866, 3) := by decide +kernel
theorem dX13_askField_4 : decode cX13_askField 4 = .ok (.iload_n 1, 1) := by decide +kernel
theorem dX13_askField_5 : decode cX13_askField 5 = .ok (.iaload, 1) := by decide +kernel
theorem dX13_askField_6 : decode cX13_askField 6 = .ok (.istore 4, 2) := by decide +kernel
theorem dX13_askField_8 : decode cX13_askField 8 = .ok (.aload_n 0, 1) := by decide +kernel
theorem dX13_askField_9 : decode cX13_askField 9 = .ok (.iload_n 2, 1) := by decide +kernel
theorem dX13_askField_10 : decode cX13_askField 10 = .ok (.aload_n 0, 1) := by decide +kernel
theorem dX13_askField_11 : decode cX13_askField 11 = .ok (.getfield 875, 3) := by decide +kernel
theorem dX13_askField_14 : decode cX13_askField 14 = .ok (.iload_n 1, 1) := by decide +kernel
theorem dX13_askField_15 : decode cX13_askField 15 = .ok (.laload, 1) := by decide +kernel
theorem dX13_askField_16 : decode cX13_askField 16 = .ok (.aload_n 0, 1) := by decide +kernel
theorem dX13_askField_17 : decode cX13_askField 17 = .ok (.getfield 878, 3) := by decide +kernel
theorem dX13_askField_20 : decode cX13_askField 20 = .ok (.iload_n 1, 1) := by decide +kernel
theorem dX13_askField_21 : decode cX13_askField 21 = .ok (.laload, 1) := by decide +kernel
theorem dX13_askField_22 : decode cX13_askField 22 = .ok (.invokevirtual 736, 3) := by decide +kernel
theorem dX13_askField_25 : decode cX13_askField 25 = .ok (.istore 5, 2) := by decide +kernel
theorem dX13_askField_27 : decode cX13_askField 27 = .ok (.iconst 0, 1) := by decide +kernel
theorem dX13_askField_28 : decode cX13_askField 28 = .ok (.istore 6, 2) := by decide +kernel
theorem dX13_askField_30 : decode cX13_askField 30 = .ok (.iload 6, 2) := by decide +kernel
theorem dX13_askField_32 : decode cX13_askField 32 = .ok (.aload_n 0, 1) := by decide +kernel

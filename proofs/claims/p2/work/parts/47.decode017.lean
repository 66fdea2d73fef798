theorem dX13_statementWithin_495 : decode cX13_statementWithin 495 = .ok (.invokevirtual 427, 3) := by decide +kernel
theorem dX13_statementWithin_498 : decode cX13_statementWithin 498 = .ok (.iastore, 1) := by decide +kernel
theorem dX13_statementWithin_499 : decode cX13_statementWithin 499 = .ok (.aload_n 0, 1) := by decide +kernel
theorem dX13_statementWithin_500 : decode cX13_statementWithin 500 = .ok (.bipush 59, 2) := by decide +kernel
theorem dX13_statementWithin_502 : decode cX13_statementWithin 502 = .ok (.invokevirtual 325, 3) := by decide +kernel
theorem dX13_statementWithin_505 : decode cX13_statementWithin 505 = .ok (.iload_n 3, 1) := by decide +kernel
theorem dX13_statementWithin_506 : decode cX13_statementWithin 506 = .ok (.ireturn, 1) := by decide +kernel
theorem dX13_statementWithin_507 : decode cX13_statementWithin 507 = .ok (.aload_n 0, 1) := by decide +kernel
theorem dX13_statementWithin_508 : decode cX13_statementWithin 508 = .ok (.bipush 29, 2) := by decide +kernel
theorem dX13_statementWithin_510 : decode cX13_statementWithin 510 = .ok (.iload_n 1, 1) := by decide +kernel
theorem dX13_statementWithin_511 : decode cX13_statementWithin 511 = .ok (.invokevirtual 483, 3) := by decide +kernel
theorem dX13_statementWithin_514 : decode cX13_statementWithin 514 = .ok (.istore_n 3, 1) := by decide +kernel
theorem dX13_statementWithin_515 : decode cX13_statementWithin 515 = .ok (.aload_n 0, 1) := by decide +kernel
theorem dX13_statementWithin_516 : decode cX13_statementWithin 516 = .ok (.getfield 194, 3) := by decide +kernel
theorem dX13_statementWithin_519 : decode cX13_statementWithin 519 = .ok (.iload_n 3, 1) := by decide +kernel
theorem dX13_statementWithin_520 : decode cX13_statementWithin 520 = .ok (.iload_n 2, 1) := by decide +kernel
theorem dX13_statementWithin_521 : decode cX13_statementWithin 521 = .ok (.iastore, 1) := by decide +kernel
theorem dX13_statementWithin_522 : decode cX13_statementWithin 522 = .ok (.aload_n 0, 1) := by decide +kernel
theorem dX13_statementWithin_523 : decode cX13_statementWithin 523 = .ok (.bipush 59, 2) := by decide +kernel
theorem dX13_statementWithin_525 : decode cX13_statementWithin 525 = .ok (.invokevirtual 325, 3) := by decide +kernel
theorem dX13_statementWithin_528 : decode cX13_statementWithin 528 = .ok (.iload_n 3, 1) := by decide +kernel
theorem dX13_statementWithin_529 : decode cX13_statementWithin 529 = .ok (.ireturn, 1) := by decide +kernel
theorem dX13_block_0 : decode cX13_block 0 = .ok (.aload_n 0, 1) := by decide +kernel
theorem dX13_block_1 : decode cX13_block 1 = .ok (.bipush 20, 2) := by decide +kernel
theorem dX13_block_3 : decode cX13_block 3 = .ok (.iload_n 1, 1) := by decide +kernel
theorem dX13_block_4 : decode cX13_block 4 = .ok (.invokevirtual 483, 3) := by decide +kernel
theorem dX13_block_7 : decode cX13_block 7 = .ok (.istore_n 2, 1) := by decide +kernel
theorem dX13_block_8 : decode cX13_block 8 = .ok (.aload_n 0, 1) := by decide +kernel
theorem dX13_block_9 : decode cX13_block 9 = .ok (.bipush 123, 2) := by decide +kernel
theorem dX13_block_11 : decode cX13_block 11 = .ok (.invokevirtual 325, 3) := by decide +kernel
theorem dX13_block_14 : decode cX13_block 14 = .ok (.bipush (-2), 2) := by decide +kernel
theorem dX13_block_16 : decode cX13_block 16 = .ok (.istore_n 3, 1) := by decide +kernel
theorem dX13_block_17 : decode cX13_block 17 = .ok (.aload_n 0, 1) := by decide +kernel
theorem dX13_block_18 : decode cX13_block 18 = .ok (.getfield 129, 3) := by decide +kernel
theorem dX13_block_21 : decode cX13_block 21 = .ok (.ifCond .ne 67, 3) := by decide +kernel
theorem dX13_block_24 : decode cX13_block 24 = .ok (.aload_n 0, 1) := by decide +kernel
theorem dX13_block_25 : decode cX13_block 25 = .ok (.bipush 125, 2) := by decide +kernel
theorem dX13_block_27 : decode cX13_block 27 = .ok (.invokevirtual 156, 3) := by decide +kernel
theorem dX13_block_30 : decode cX13_block 30 = .ok (.ifCond .ne 58, 3) := by decide +kernel
theorem dX13_block_33 : decode cX13_block 33 = .ok (.aload_n 0, 1) := by decide +kernel
theorem dX13_block_34 : decode cX13_block 34 = .ok (.invokevirtual 430, 3) := by decide +kernel
theorem dX13_block_37 : decode cX13_block 37 = .ok (.istore 4, 2) := by decide +kernel
theorem dX13_block_39 : decode cX13_block 39 = .ok (.iload_n 3, 1) := by decide +kernel
theorem dX13_block_40 : decode cX13_block 40 = .ok (.bipush (-2), 2) := by decide +kernel
theorem dX13_block_42 : decode cX13_block 42 = .ok (.if_icmp .ne 14, 3) := by decide +kernel
theorem dX13_block_45 : decode cX13_block 45 = .ok (.aload_n 0, 1) := by decide +kernel
theorem dX13_block_46 : decode cX13_block 46 = .ok (.getfield 194, 3) := by decide +kernel
theorem dX13_block_49 : decode cX13_block 49 = .ok (.iload_n 2, 1) := by decide +kernel
theorem dX13_block_50 : decode cX13_block 50 = .ok (.iload 4, 2) := by decide +kernel
theorem dX13_block_52 : decode cX13_block 52 = .ok (.iastore, 1) := by decide +kernel
theorem dX13_block_53 : decode cX13_block 53 = .ok (.goto 18, 3) := by decide +kernel
theorem dX13_block_56 : decode cX13_block 56 = .ok (.iload 4, 2) := by decide +kernel
theorem dX13_block_58 : decode cX13_block 58 = .ok (.bipush (-2), 2) := by decide +kernel
theorem dX13_block_60 : decode cX13_block 60 = .ok (.if_icmp .eq 11, 3) := by decide +kernel
theorem dX13_block_63 : decode cX13_block 63 = .ok (.aload_n 0, 1) := by decide +kernel
theorem dX13_block_64 : decode cX13_block 64 = .ok (.getfield 203, 3) := by decide +kernel
theorem dX13_block_67 : decode cX13_block 67 = .ok (.iload_n 3, 1) := by decide +kernel
theorem dX13_block_68 : decode cX13_block 68 = .ok (.iload 4, 2) := by decide +kernel
theorem dX13_block_70 : decode cX13_block 70 = .ok (.iastore, 1) := by decide +kernel
theorem dX13_block_71 : decode cX13_block 71 = .ok (.iload 4, 2) := by decide +kernel
theorem dX13_block_73 : decode cX13_block 73 = .ok (.bipush (-2), 2) := by decide +kernel
theorem dX13_block_75 : decode cX13_block 75 = .ok (.if_icmp .ne 7, 3) := by decide +kernel
theorem dX13_block_78 : decode cX13_block 78 = .ok (.iload_n 3, 1) := by decide +kernel
theorem dX13_block_79 : decode cX13_block 79 = .ok (.goto 5, 3) := by decide +kernel
theorem dX13_block_82 : decode cX13_block 82 = .ok (.iload 4, 2) := by decide +kernel
theorem dX13_block_84 : decode cX13_block 84 = .ok (.istore_n 3, 1) := by decide +kernel
theorem dX13_block_85 : decode cX13_block 85 = .ok (.goto (-68), 3) := by decide +kernel
theorem dX13_block_88 : decode cX13_block 88 = .ok (.aload_n 0, 1) := by decide +kernel
theorem dX13_block_89 : decode cX13_block 89 = .ok (.bipush 125, 2) := by decide +kernel
theorem dX13_block_91 : decode cX13_block 91 = .ok (.invokevirtual 325, 3) := by decide +kernel
theorem dX13_block_94 : decode cX13_block 94 = .ok (.iload_n 2, 1) := by decide +kernel
theorem dX13_block_95 : decode cX13_block 95 = .ok (.ireturn, 1) := by decide +kernel
theorem dX13_tryOf_0 : decode cX13_tryOf 0 = .ok (.aload_n 0, 1) := by decide +kernel
theorem dX13_tryOf_1 : decode cX13_tryOf 1 = .ok (.bipush 26, 2) := by decide +kernel
theorem dX13_tryOf_3 : decode cX13_tryOf 3 = .ok (.iload_n 1, 1) := by decide +kernel
theorem dX13_tryOf_4 : decode cX13_tryOf 4 = .ok (.invokevirtual 483, 3) := by decide +kernel
theorem dX13_tryOf_7 : decode cX13_tryOf 7 = .ok (.istore_n 2, 1) := by decide +kernel
theorem dX13_tryOf_8 : decode cX13_tryOf 8 = .ok (.aload_n 0, 1) := by decide +kernel
theorem dX13_tryOf_9 : decode cX13_tryOf 9 = .ok (.getfield 194, 3) := by decide +kernel
theorem dX13_tryOf_12 : decode cX13_tryOf 12 = .ok (.iload_n 2, 1) := by decide +kernel
theorem dX13_tryOf_13 : decode cX13_tryOf 13 = .ok (.aload_n 0, 1) := by decide +kernel
theorem dX13_tryOf_14 : decode cX13_tryOf 14 = .ok (.invokevirtual 497, 3) := by decide +kernel
theorem dX13_tryOf_17 : decode cX13_tryOf 17 = .ok (.iastore, 1) := by decide +kernel
theorem dX13_tryOf_18 : decode cX13_tryOf 18 = .ok (.aload_n 0, 1) := by decide +kernel
theorem dX13_tryOf_19 : decode cX13_tryOf 19 = .ok (.ldc_w 500, 3) := by decide +kernel
theorem dX13_tryOf_22 : decode cX13_tryOf 22 = .ok (.invokevirtual 249, 3) := by decide +kernel
theorem dX13_tryOf_25 : decode cX13_tryOf 25 = .ok (.aload_n 0, 1) := by decide +kernel
theorem dX13_tryOf_26 : decode cX13_tryOf 26 = .ok (.bipush 40, 2) := by decide +kernel
theorem dX13_tryOf_28 : decode cX13_tryOf 28 = .ok (.invokevirtual 325, 3) := by decide +kernel
theorem dX13_tryOf_31 : decode cX13_tryOf 31 = .ok (.aload_n 0, 1) := by decide +kernel
theorem dX13_tryOf_32 : decode cX13_tryOf 32 = .ok (.iconst 1, 1) := by decide +kernel
theorem dX13_tryOf_33 : decode cX13_tryOf 33 = .ok (.iconst 0, 1) := by decide +kernel
theorem dX13_tryOf_34 : decode cX13_tryOf 34 = .ok (.invokevirtual 252, 3) := by decide +kernel
theorem dX13_tryOf_37 : decode cX13_tryOf 37 = .ok (.istore_n 3, 1) := by decide +kernel
theorem dX13_tryOf_38 : decode cX13_tryOf 38 = .ok (.aload_n 0, 1) := by decide +kernel
theorem dX13_tryOf_39 : decode cX13_tryOf 39 = .ok (.getfield 188, 3) := by decide +kernel
theorem dX13_tryOf_42 : decode cX13_tryOf 42 = .ok (.iload_n 2, 1) := by decide +kernel
theorem dX13_tryOf_43 : decode cX13_tryOf 43 = .ok (.aload_n 0, 1) := by decide +kernel
theorem dX13_tryOf_44 : decode cX13_tryOf 44 = .ok (.iload_n 3, 1) := by decide +kernel
theorem dX13_tryOf_45 : decode cX13_tryOf 45 = .ok (.invokevirtual 141, 3) := by decide +kernel
theorem dX13_tryOf_48 : decode cX13_tryOf 48 = .ok (.lastore, 1) := by decide +kernel
theorem dX13_tryOf_49 : decode cX13_tryOf 49 = .ok (.aload_n 0, 1) := by decide +kernel
theorem dX13_tryOf_50 : decode cX13_tryOf 50 = .ok (.getfield 182, 3) := by decide +kernel
theorem dX13_tryOf_53 : decode cX13_tryOf 53 = .ok (.iload_n 2, 1) := by decide +kernel
theorem dX13_tryOf_54 : decode cX13_tryOf 54 = .ok (.aload_n 0, 1) := by decide +kernel
theorem dX13_tryOf_55 : decode cX13_tryOf 55 = .ok (.iload_n 3, 1) := by decide +kernel
theorem dX13_tryOf_56 : decode cX13_tryOf 56 = .ok (.invokevirtual 149, 3) := by decide +kernel
theorem dX13_tryOf_59 : decode cX13_tryOf 59 = .ok (.iastore, 1) := by decide +kernel
theorem dX13_tryOf_60 : decode cX13_tryOf 60 = .ok (.aload_n 0, 1) := by decide +kernel
theorem dX13_tryOf_61 : decode cX13_tryOf 61 = .ok (.iconst 2, 1) := by decide +kernel
theorem dX13_tryOf_62 : decode cX13_tryOf 62 = .ok (.iconst 0, 1) := by decide +kernel
theorem dX13_tryOf_63 : decode cX13_tryOf 63 = .ok (.invokevirtual 252, 3) := by decide +kernel
theorem dX13_tryOf_66 : decode cX13_tryOf 66 = .ok (.istore_n 3, 1) := by decide +kernel
theorem dX13_tryOf_67 : decode cX13_tryOf 67 = .ok (.aload_n 0, 1) := by decide +kernel
theorem dX13_tryOf_68 : decode cX13_tryOf 68 = .ok (.getfield 185, 3) := by decide +kernel
theorem dX13_tryOf_71 : decode cX13_tryOf 71 = .ok (.iload_n 2, 1) := by decide +kernel
theorem dX13_tryOf_72 : decode cX13_tryOf 72 = .ok (.aload_n 0, 1) := by decide +kernel
theorem dX13_tryOf_73 : decode cX13_tryOf 73 = .ok (.iload_n 3, 1) := by decide +kernel
theorem dX13_tryOf_74 : decode cX13_tryOf 74 = .ok (.invokevirtual 141, 3) := by decide +kernel
theorem dX13_tryOf_77 : decode cX13_tryOf 77 = .ok (.lastore, 1) := by decide +kernel
theorem dX13_tryOf_78 : decode cX13_tryOf 78 = .ok (.aload_n 0, 1) := by decide +kernel
theorem dX13_tryOf_79 : decode cX13_tryOf 79 = .ok (.getfield 179, 3) := by decide +kernel
theorem dX13_tryOf_82 : decode cX13_tryOf 82 = .ok (.iload_n 2, 1) := by decide +kernel
theorem dX13_tryOf_83 : decode cX13_tryOf 83 = .ok (.aload_n 0, 1) := by decide +kernel
theorem dX13_tryOf_84 : decode cX13_tryOf 84 = .ok (.iload_n 3, 1) := by decide +kernel
theorem dX13_tryOf_85 : decode cX13_tryOf 85 = .ok (.invokevirtual 149, 3) := by decide +kernel
theorem dX13_tryOf_88 : decode cX13_tryOf 88 = .ok (.iastore, 1) := by decide +kernel
theorem dX13_tryOf_89 : decode cX13_tryOf 89 = .ok (.aload_n 0, 1) := by decide +kernel
theorem dX13_tryOf_90 : decode cX13_tryOf 90 = .ok (.bipush 41, 2) := by decide +kernel
theorem dX13_tryOf_92 : decode cX13_tryOf 92 = .ok (.invokevirtual 325, 3) := by decide +kernel
theorem dX13_tryOf_95 : decode cX13_tryOf 95 = .ok (.aload_n 0, 1) := by decide +kernel
theorem dX13_tryOf_96 : decode cX13_tryOf 96 = .ok (.getfield 197, 3) := by decide +kernel
theorem dX13_tryOf_99 : decode cX13_tryOf 99 = .ok (.iload_n 2, 1) := by decide +kernel
theorem dX13_tryOf_100 : decode cX13_tryOf 100 = .ok (.aload_n 0, 1) := by decide +kernel
theorem dX13_tryOf_101 : decode cX13_tryOf 101 = .ok (.invokevirtual 497, 3) := by decide +kernel
theorem dX13_tryOf_104 : decode cX13_tryOf 104 = .ok (.iastore, 1) := by decide +kernel
theorem dX13_tryOf_105 : decode cX13_tryOf 105 = .ok (.iload_n 2, 1) := by decide +kernel
theorem dX13_tryOf_106 : decode cX13_tryOf 106 = .ok (.ireturn, 1) := by decide +kernel
theorem dX13_blockOnly_0 : decode cX13_blockOnly 0 = .ok (.aload_n 0, 1) := by decide +kernel
theorem dX13_blockOnly_1 : decode cX13_blockOnly 1 = .ok (.getfield 129, 3) := by decide +kernel
theorem dX13_blockOnly_4 : decode cX13_blockOnly 4 = .ok (.ifCond .ne 16, 3) := by decide +kernel
theorem dX13_blockOnly_7 : decode cX13_blockOnly 7 = .ok (.aload_n 0, 1) := by decide +kernel
theorem dX13_blockOnly_8 : decode cX13_blockOnly 8 = .ok (.bipush 123, 2) := by decide +kernel
theorem dX13_blockOnly_10 : decode cX13_blockOnly 10 = .ok (.invokevirtual 156, 3) := by decide +kernel
theorem dX13_blockOnly_13 : decode cX13_blockOnly 13 = .ok (.ifCond .ne 7, 3) := by decide +kernel
theorem dX13_blockOnly_16 : decode cX13_blockOnly 16 = .ok (.aload_n 0, 1) := by decide +kernel
theorem dX13_blockOnly_17 : decode cX13_blockOnly 17 = .ok (.invokevirtual 163, 3) := by decide +kernel
theorem dX13_blockOnly_20 : decode cX13_blockOnly 20 = .ok (.aload_n 0, 1) := by decide +kernel
theorem dX13_blockOnly_21 : decode cX13_blockOnly 21 = .ok (.invokevirtual 430, 3) := by decide +kernel
theorem dX13_blockOnly_24 : decode cX13_blockOnly 24 = .ok (.ireturn, 1) := by decide +kernel
theorem dX13_expression_0 : decode cX13_expression 0 = .ok (.aload_n 0, 1) := by decide +kernel
theorem dX13_expression_1 : decode cX13_expression 1 = .ok (.getfield 129, 3) := by decide +kernel
theorem dX13_expression_4 : decode cX13_expression 4 = .ok (.ifCond .eq 6, 3) := by decide +kernel
theorem dX13_expression_7 : decode cX13_expression 7 = .ok (.bipush (-2), 2) := by decide +kernel
theorem dX13_expression_9 : decode cX13_expression 9 = .ok (.ireturn, 1) := by decide +kernel
theorem dX13_expression_10 : decode cX13_expression 10 = .ok (.aload_n 0, 1) := by decide +kernel
theorem dX13_expression_11 : decode cX13_expression 11 = .ok (.invokevirtual 457, 3) := by decide +kernel
theorem dX13_expression_14 : decode cX13_expression 14 = .ok (.ifCond .ne 10, 3) := by decide +kernel
theorem dX13_expression_17 : decode cX13_expression 17 = .ok (.aload_n 0, 1) := by decide +kernel
theorem dX13_expression_18 : decode cX13_expression 18 = .ok (.invokevirtual 163, 3) := by decide +kernel
theorem dX13_expression_21 : decode cX13_expression 21 = .ok (.bipush (-2), 2) := by decide +kernel
theorem dX13_expression_23 : decode cX13_expression 23 = .ok (.ireturn, 1) := by decide +kernel
theorem dX13_expression_24 : decode cX13_expression 24 = .ok (.aload_n 0, 1) := by decide +kernel
theorem dX13_expression_25 : decode cX13_expression 25 = .ok (.getfield 227, 3) := by decide +kernel
theorem dX13_expression_28 : decode cX13_expression 28 = .ok (.bipush 12, 2) := by decide +kernel
theorem dX13_expression_30 : decode cX13_expression 30 = .ok (.if_icmp .ne 19, 3) := by decide +kernel
theorem dX13_expression_33 : decode cX13_expression 33 = .ok (.aload_n 0, 1) := by decide +kernel
theorem dX13_expression_34 : decode cX13_expression 34 = .ok (.iconst 3, 1) := by decide +kernel
theorem dX13_expression_35 : decode cX13_expression 35 = .ok (.aload_n 0, 1) := by decide +kernel
theorem dX13_expression_36 : decode cX13_expression 36 = .ok (.aload_n 0, 1) := by decide +kernel
theorem dX13_expression_37 : decode cX13_expression 37 = .ok (.getfield 135, 3) := by decide +kernel
theorem dX13_expression_40 : decode cX13_expression 40 = .ok (.invokevirtual 149, 3) := by decide +kernel
theorem dX13_expression_43 : decode cX13_expression 43 = .ok (.invokevirtual 152, 3) := by decide +kernel
theorem dX13_expression_46 : decode cX13_expression 46 = .ok (.bipush (-2), 2) := by decide +kernel
theorem dX13_expression_48 : decode cX13_expression 48 = .ok (.ireturn, 1) := by decide +kernel
theorem dX13_expression_49 : decode cX13_expression 49 = .ok (.aload_n 0, 1) := by decide +kernel
theorem dX13_expression_50 : decode cX13_expression 50 = .ok (.dup, 1) := by decide +kernel
theorem dX13_expression_51 : decode cX13_expression 51 = .ok (.getfield 227, 3) := by decide +kernel
theorem dX13_expression_54 : decode cX13_expression 54 = .ok (.iconst 1, 1) := by decide +kernel
theorem dX13_expression_55 : decode cX13_expression 55 = .ok (.iadd, 1) := by decide +kernel
theorem dX13_expression_56 : decode cX13_expression 56 = .ok (.putfield 227, 3) := by decide +kernel
theorem dX13_expression_59 : decode cX13_expression 59 = .ok (.aload_n 0, 1) := by decide +kernel
theorem dX13_expression_60 : decode cX13_expression 60 = .ok (.invokevirtual 502, 3) := by decide +kernel
theorem dX13_expression_63 : decode cX13_expression 63 = .ok (.istore_n 1, 1) := by decide +kernel
theorem dX13_expression_64 : decode cX13_expression 64 = .ok (.aload_n 0, 1) := by decide +kernel
theorem dX13_expression_65 : decode cX13_expression 65 = .ok (.getfield 129, 3) := by decide +kernel
theorem dX13_expression_68 : decode cX13_expression 68 = .ok (.ifCond .ne 72, 3) := by decide +kernel
theorem dX13_expression_71 : decode cX13_expression 71 = .ok (.aload_n 0, 1) := by decide +kernel
theorem dX13_expression_72 : decode cX13_expression 72 = .ok (.bipush 60, 2) := by decide +kernel
theorem dX13_expression_74 : decode cX13_expression 74 = .ok (.invokevirtual 156, 3) := by decide +kernel
theorem dX13_expression_77 : decode cX13_expression 77 = .ok (.ifCond .ne 13, 3) := by decide +kernel
theorem dX13_expression_80 : decode cX13_expression 80 = .ok (.aload_n 0, 1) := by decide +kernel
theorem dX13_expression_81 : decode cX13_expression 81 = .ok (.sipush 256, 3) := by decide +kernel
theorem dX13_expression_84 : decode cX13_expression 84 = .ok (.invokevirtual 156, 3) := by decide +kernel
theorem dX13_expression_87 : decode cX13_expression 87 = .ok (.ifCond .eq 53, 3) := by decide +kernel
theorem dX13_expression_90 : decode cX13_expression 90 = .ok (.aload_n 0, 1) := by decide +kernel
theorem dX13_expression_91 : decode cX13_expression 91 = .ok (.aload_n 0, 1) := by decide +kernel
theorem dX13_expression_92 : decode cX13_expression 92 = .ok (.bipush 60, 2) := by decide +kernel
theorem dX13_expression_94 : decode cX13_expression 94 = .ok (.invokevirtual 156, 3) := by decide +kernel
theorem dX13_expression_97 : decode cX13_expression 97 = .ok (.ifCond .eq 8, 3) := by decide +kernel
theorem dX13_expression_100 : decode cX13_expression 100 = .ok (.bipush 18, 2) := by decide +kernel
theorem dX13_expression_102 : decode cX13_expression 102 = .ok (.goto 5, 3) := by decide +kernel
theorem dX13_expression_105 : decode cX13_expression 105 = .ok (.bipush 19, 2) := by decide +kernel
theorem dX13_expression_107 : decode cX13_expression 107 = .ok (.aload_n 0, 1) := by decide +kernel
theorem dX13_expression_108 : decode cX13_expression 108 = .ok (.getfield 176, 3) := by decide +kernel
theorem dX13_expression_111 : decode cX13_expression 111 = .ok (.iload_n 1, 1) := by decide +kernel
theorem dX13_expression_112 : decode cX13_expression 112 = .ok (.iaload, 1) := by decide +kernel
theorem dX13_expression_113 : decode cX13_expression 113 = .ok (.invokevirtual 483, 3) := by decide +kernel
theorem dX13_expression_116 : decode cX13_expression 116 = .ok (.istore_n 2, 1) := by decide +kernel
theorem dX13_expression_117 : decode cX13_expression 117 = .ok (.aload_n 0, 1) := by decide +kernel
theorem dX13_expression_118 : decode cX13_expression 118 = .ok (.invokevirtual 159, 3) := by decide +kernel
theorem dX13_expression_121 : decode cX13_expression 121 = .ok (.aload_n 0, 1) := by decide +kernel
theorem dX13_expression_122 : decode cX13_expression 122 = .ok (.getfield 194, 3) := by decide +kernel
theorem dX13_expression_125 : decode cX13_expression 125 = .ok (.iload_n 2, 1) := by decide +kernel
theorem dX13_expression_126 : decode cX13_expression 126 = .ok (.iload_n 1, 1) := by decide +kernel
theorem dX13_expression_127 : decode cX13_expression 127 = .ok (.iastore, 1) := by decide +kernel
theorem dX13_expression_128 : decode cX13_expression 128 = .ok (.aload_n 0, 1) := by decide +kernel
theorem dX13_expression_129 : decode cX13_expression 129 = .ok (.getfield 197, 3) := by decide +kernel
theorem dX13_expression_132 : decode cX13_expression 132 = .ok (.iload_n 2, 1) := by decide +kernel
theorem dX13_expression_133 : decode cX13_expression 133 = .ok (.aload_n 0, 1) := by decide +kernel
theorem dX13_expression_134 : decode cX13_expression 134 = .ok (.invokevirtual 502, 3) := by decide +kernel
theorem dX13_expression_137 : decode cX13_expression 137 = .ok (.iastore, 1) := by decide +kernel
theorem dX13_expression_138 : decode cX13_expression 138 = .ok (.iload_n 2, 1) := by decide +kernel
theorem dX13_expression_139 : decode cX13_expression 139 = .ok (.istore_n 1, 1) := by decide +kernel
theorem dX13_expression_140 : decode cX13_expression 140 = .ok (.aload_n 0, 1) := by decide +kernel
theorem dX13_expression_141 : decode cX13_expression 141 = .ok (.dup, 1) := by decide +kernel
theorem dX13_expression_142 : decode cX13_expression 142 = .ok (.getfield 227, 3) := by decide +kernel
theorem dX13_expression_145 : decode cX13_expression 145 = .ok (.iconst 1, 1) := by decide +kernel
theorem dX13_expression_146 : decode cX13_expression 146 = .ok (.isub, 1) := by decide +kernel
theorem dX13_expression_147 : decode cX13_expression 147 = .ok (.putfield 227, 3) := by decide +kernel
theorem dX13_expression_150 : decode cX13_expression 150 = .ok (.aload_n 0, 1) := by decide +kernel
theorem dX13_expression_151 : decode cX13_expression 151 = .ok (.getfield 129, 3) := by decide +kernel
theorem dX13_expression_154 : decode cX13_expression 154 = .ok (.ifCond .ne 7, 3) := by decide +kernel
theorem dX13_expression_157 : decode cX13_expression 157 = .ok (.iload_n 1, 1) := by decide +kernel
theorem dX13_expression_158 : decode cX13_expression 158 = .ok (.goto 5, 3) := by decide +kernel
theorem dX13_expression_161 : decode cX13_expression 161 = .ok (.bipush (-2), 2) := by decide +kernel
theorem dX13_expression_163 : decode cX13_expression 163 = .ok (.ireturn, 1) := by decide +kernel
theorem dX13_sum_0 : decode cX13_sum 0 = .ok (.aload_n 0, 1) := by decide +kernel
theorem dX13_sum_1 : decode cX13_sum 1 = .ok (.invokevirtual 505, 3) := by decide +kernel
theorem dX13_sum_4 : decode cX13_sum 4 = .ok (.istore_n 1, 1) := by decide +kernel
theorem dX13_sum_5 : decode cX13_sum 5 = .ok (.aload_n 0, 1) := by decide +kernel
theorem dX13_sum_6 : decode cX13_sum 6 = .ok (.getfield 129, 3) := by decide +kernel
theorem dX13_sum_9 : decode cX13_sum 9 = .ok (.ifCond .ne 74, 3) := by decide +kernel
theorem dX13_sum_12 : decode cX13_sum 12 = .ok (.aload_n 0, 1) := by decide +kernel
theorem dX13_sum_13 : decode cX13_sum 13 = .ok (.bipush 43, 2) := by decide +kernel
theorem dX13_sum_15 : decode cX13_sum 15 = .ok (.invokevirtual 156, 3) := by decide +kernel
theorem dX13_sum_18 : decode cX13_sum 18 = .ok (.ifCond .ne 12, 3) := by decide +kernel
theorem dX13_sum_21 : decode cX13_sum 21 = .ok (.aload_n 0, 1) := by decide +kernel
theorem dX13_sum_22 : decode cX13_sum 22 = .ok (.bipush 45, 2) := by decide +kernel
theorem dX13_sum_24 : decode cX13_sum 24 = .ok (.invokevirtual 156, 3) := by decide +kernel
theorem dX13_sum_27 : decode cX13_sum 27 = .ok (.ifCond .eq 56, 3) := by decide +kernel
theorem dX13_sum_30 : decode cX13_sum 30 = .ok (.aload_n 0, 1) := by decide +kernel
theorem dX13_sum_31 : decode cX13_sum 31 = .ok (.aload_n 0, 1) := by decide +kernel
theorem dX13_sum_32 : decode cX13_sum 32 = .ok (.bipush 43, 2) := by decide +kernel
theorem dX13_sum_34 : decode cX13_sum 34 = .ok (.invokevirtual 156, 3) := by decide +kernel
theorem dX13_sum_37 : decode cX13_sum 37 = .ok (.ifCond .eq 8, 3) := by decide +kernel
theorem dX13_sum_40 : decode cX13_sum 40 = .ok (.bipush 15, 2) := by decide +kernel
theorem dX13_sum_42 : decode cX13_sum 42 = .ok (.goto 5, 3) := by decide +kernel
theorem dX13_sum_45 : decode cX13_sum 45 = .ok (.bipush 16, 2) := by decide +kernel
theorem dX13_sum_47 : decode cX13_sum 47 = .ok (.aload_n 0, 1) := by decide +kernel
theorem dX13_sum_48 : decode cX13_sum 48 = .ok (.getfield 176, 3) := by decide +kernel
theorem dX13_sum_51 : decode cX13_sum 51 = .ok (.iload_n 1, 1) := by decide +kernel
theorem dX13_sum_52 : decode cX13_sum 52 = .ok (.iaload, 1) := by decide +kernel
theorem dX13_sum_53 : decode cX13_sum 53 = .ok (.invokevirtual 483, 3) := by decide +kernel
theorem dX13_sum_56 : decode cX13_sum 56 = .ok (.istore_n 2, 1) := by decide +kernel
theorem dX13_sum_57 : decode cX13_sum 57 = .ok (.aload_n 0, 1) := by decide +kernel
theorem dX13_sum_58 : decode cX13_sum 58 = .ok (.invokevirtual 159, 3) := by decide +kernel
theorem dX13_sum_61 : decode cX13_sum 61 = .ok (.aload_n 0, 1) := by decide +kernel
theorem dX13_sum_62 : decode cX13_sum 62 = .ok (.getfield 194, 3) := by decide +kernel
theorem dX13_sum_65 : decode cX13_sum 65 = .ok (.iload_n 2, 1) := by decide +kernel
theorem dX13_sum_66 : decode cX13_sum 66 = .ok (.iload_n 1, 1) := by decide +kernel
theorem dX13_sum_67 : decode cX13_sum 67 = .ok (.iastore, 1) := by decide +kernel
theorem dX13_sum_68 : decode cX13_sum 68 = .ok (.aload_n 0, 1) := by decide +kernel
theorem dX13_sum_69 : decode cX13_sum 69 = .ok (.getfield 197, 3) := by decide +kernel
theorem dX13_sum_72 : decode cX13_sum 72 = .ok (.iload_n 2, 1) := by decide +kernel
theorem dX13_sum_73 : decode cX13_sum 73 = .ok (.aload_n 0, 1) := by decide +kernel
theorem dX13_sum_74 : decode cX13_sum 74 = .ok (.invokevirtual 505, 3) := by decide +kernel
theorem dX13_sum_77 : decode cX13_sum 77 = .ok (.iastore, 1) := by decide +kernel
theorem dX13_sum_78 : decode cX13_sum 78 = .ok (.iload_n 2, 1) := by decide +kernel
theorem dX13_sum_79 : decode cX13_sum 79 = .ok (.istore_n 1, 1) := by decide +kernel
theorem dX13_sum_80 : decode cX13_sum 80 = .ok (.goto (-75), 3) := by decide +kernel
theorem dX13_sum_83 : decode cX13_sum 83 = .ok (.iload_n 1, 1) := by decide +kernel
theorem dX13_sum_84 : decode cX13_sum 84 = .ok (.ireturn, 1) := by decide +kernel
theorem dX13_product_0 : decode cX13_product 0 = .ok (.aload_n 0, 1) := by decide +kernel
theorem dX13_product_1 : decode cX13_product 1 = .ok (.invokevirtual 508, 3) := by decide +kernel
theorem dX13_product_4 : decode cX13_product 4 = .ok (.istore_n 1, 1) := by decide +kernel
theorem dX13_product_5 : decode cX13_product 5 = .ok (.aload_n 0, 1) := by decide +kernel
theorem dX13_product_6 : decode cX13_product 6 = .ok (.getfield 129, 3) := by decide +kernel
theorem dX13_product_9 : decode cX13_product 9 = .ok (.ifCond .ne 51, 3) := by decide +kernel
theorem dX13_product_12 : decode cX13_product 12 = .ok (.aload_n 0, 1) := by decide +kernel
theorem dX13_product_13 : decode cX13_product 13 = .ok (.bipush 42, 2) := by decide +kernel
theorem dX13_product_15 : decode cX13_product 15 = .ok (.invokevirtual 156, 3) := by decide +kernel
theorem dX13_product_18 : decode cX13_product 18 = .ok (.ifCond .eq 42, 3) := by decide +kernel
theorem dX13_product_21 : decode cX13_product 21 = .ok (.aload_n 0, 1) := by decide +kernel
theorem dX13_product_22 : decode cX13_product 22 = .ok (.bipush 17, 2) := by decide +kernel
theorem dX13_product_24 : decode cX13_product 24 = .ok (.aload_n 0, 1) := by decide +kernel
theorem dX13_product_25 : decode cX13_product 25 = .ok (.getfield 176, 3) := by decide +kernel
theorem dX13_product_28 : decode cX13_product 28 = .ok (.iload_n 1, 1) := by decide +kernel
theorem dX13_product_29 : decode cX13_product 29 = .ok (.iaload, 1) := by decide +kernel
theorem dX13_product_30 : decode cX13_product 30 = .ok (.invokevirtual 483, 3) := by decide +kernel
theorem dX13_product_33 : decode cX13_product 33 = .ok (.istore_n 2, 1) := by decide +kernel
theorem dX13_product_34 : decode cX13_product 34 = .ok (.aload_n 0, 1) := by decide +kernel
theorem dX13_product_35 : decode cX13_product 35 = .ok (.invokevirtual 159, 3) := by decide +kernel
theorem dX13_product_38 : decode cX13_product 38 = .ok (.aload_n 0, 1) := by decide +kernel
theorem dX13_product_39 : decode cX13_product 39 = .ok (.getfield 194, 3) := by decide +kernel
theorem dX13_product_42 : decode cX13_product 42 = .ok (.iload_n 2, 1) := by decide +kernel
theorem dX13_product_43 : decode cX13_product 43 = .ok (.iload_n 1, 1) := by decide +kernel
theorem dX13_product_44 : decode cX13_product 44 = .ok (.iastore, 1) := by decide +kernel
theorem dX13_product_45 : decode cX13_product 45 = .ok (.aload_n 0, 1) := by decide +kernel
theorem dX13_product_46 : decode cX13_product 46 = .ok (.getfield 197, 3) := by decide +kernel
theorem dX13_product_49 : decode cX13_product 49 = .ok (.iload_n 2, 1) := by decide +kernel
theorem dX13_product_50 : decode cX13_product 50 = .ok (.aload_n 0, 1) := by decide +kernel
theorem dX13_product_51 : decode cX13_product 51 = .ok (.invokevirtual 508, 3) := by decide +kernel
theorem dX13_product_54 : decode cX13_product 54 = .ok (.iastore, 1) := by decide +kernel
theorem dX13_product_55 : decode cX13_product 55 = .ok (.iload_n 2, 1) := by decide +kernel
theorem dX13_product_56 : decode cX13_product 56 = .ok (.istore_n 1, 1) := by decide +kernel
theorem dX13_product_57 : decode cX13_product 57 = .ok (.goto (-52), 3) := by decide +kernel
theorem dX13_product_60 : decode cX13_product 60 = .ok (.iload_n 1, 1) := by decide +kernel
theorem dX13_product_61 : decode cX13_product 61 = .ok (.ireturn, 1) := by decide +kernel
theorem dX13_unit_0 : decode cX13_unit 0 = .ok (.aload_n 0, 1) := by decide +kernel
theorem dX13_unit_1 : decode cX13_unit 1 = .ok (.getfield 129, 3) := by decide +kernel
theorem dX13_unit_4 : decode cX13_unit 4 = .ok (.ifCond .ne 14, 3) := by decide +kernel
theorem dX13_unit_7 : decode cX13_unit 7 = .ok (.aload_n 0, 1) := by decide +kernel
theorem dX13_unit_8 : decode cX13_unit 8 = .ok (.invokevirtual 457, 3) := by decide +kernel
theorem dX13_unit_11 : decode cX13_unit 11 = .ok (.ifCond .ne 7, 3) := by decide +kernel
theorem dX13_unit_14 : decode cX13_unit 14 = .ok (.aload_n 0, 1) := by decide +kernel
theorem dX13_unit_15 : decode cX13_unit 15 = .ok (.invokevirtual 163, 3) := by decide +kernel
theorem dX13_unit_18 : decode cX13_unit 18 = .ok (.aload_n 0, 1) := by decide +kernel
theorem dX13_unit_19 : decode cX13_unit 19 = .ok (.getfield 129, 3) := by decide +kernel
theorem dX13_unit_22 : decode cX13_unit 22 = .ok (.ifCond .ne 10, 3) := by decide +kernel
theorem dX13_unit_25 : decode cX13_unit 25 = .ok (.aload_n 0, 1) := by decide +kernel
theorem dX13_unit_26 : decode cX13_unit 26 = .ok (.invokevirtual 511, 3) := by decide +kernel
theorem dX13_unit_29 : decode cX13_unit 29 = .ok (.goto 5, 3) := by decide +kernel
theorem dX13_unit_32 : decode cX13_unit 32 = .ok (.bipush (-2), 2) := by decide +kernel
theorem dX13_unit_34 : decode cX13_unit 34 = .ok (.istore_n 1, 1) := by decide +kernel
theorem dX13_unit_35 : decode cX13_unit 35 = .ok (.aload_n 0, 1) := by decide +kernel
theorem dX13_unit_36 : decode cX13_unit 36 = .ok (.getfield 129, 3) := by decide +kernel
theorem dX13_unit_39 : decode cX13_unit 39 = .ok (.ifCond .ne 7, 3) := by decide +kernel
theorem dX13_unit_42 : decode cX13_unit 42 = .ok (.iconst 1, 1) := by decide +kernel
theorem dX13_unit_43 : decode cX13_unit 43 = .ok (.goto 4, 3) := by decide +kernel
theorem dX13_unit_46 : decode cX13_unit 46 = .ok (.iconst 0, 1) := by decide +kernel
theorem dX13_unit_47 : decode cX13_unit 47 = .ok (.istore_n 2, 1) := by decide +kernel
theorem dX13_unit_48 : decode cX13_unit 48 = .ok (.iload_n 2, 1) := by decide +kernel
theorem dX13_unit_49 : decode cX13_unit 49 = .ok (.ifCond .eq 224, 3) := by decide +kernel
theorem dX13_unit_52 : decode cX13_unit 52 = .ok (.aload_n 0, 1) := by decide +kernel
theorem dX13_unit_53 : decode cX13_unit 53 = .ok (.bipush 46, 2) := by decide +kernel
theorem dX13_unit_55 : decode cX13_unit 55 = .ok (.invokevirtual 156, 3) := by decide +kernel
theorem dX13_unit_58 : decode cX13_unit 58 = .ok (.ifCond .eq 120, 3) := by decide +kernel
theorem dX13_unit_61 : decode cX13_unit 61 = .ok (.aload_n 0, 1) := by decide +kernel
theorem dX13_unit_62 : decode cX13_unit 62 = .ok (.invokevirtual 159, 3) := by decide +kernel
theorem dX13_unit_65 : decode cX13_unit 65 = .ok (.aload_n 0, 1) := by decide +kernel
theorem dX13_unit_66 : decode cX13_unit 66 = .ok (.iconst 2, 1) := by decide +kernel
theorem dX13_unit_67 : decode cX13_unit 67 = .ok (.iconst 0, 1) := by decide +kernel
theorem dX13_unit_68 : decode cX13_unit 68 = .ok (.invokevirtual 252, 3) := by decide +kernel
theorem dX13_unit_71 : decode cX13_unit 71 = .ok (.istore_n 3, 1) := by decide +kernel
theorem dX13_unit_72 : decode cX13_unit 72 = .ok (.aload_n 0, 1) := by decide +kernel
theorem dX13_unit_73 : decode cX13_unit 73 = .ok (.getfield 129, 3) := by decide +kernel
theorem dX13_unit_76 : decode cX13_unit 76 = .ok (.ifCond .ne 16, 3) := by decide +kernel
theorem dX13_unit_79 : decode cX13_unit 79 = .ok (.aload_n 0, 1) := by decide +kernel
theorem dX13_unit_80 : decode cX13_unit 80 = .ok (.bipush 40, 2) := by decide +kernel
theorem dX13_unit_82 : decode cX13_unit 82 = .ok (.invokevirtual 156, 3) := by decide +kernel
theorem dX13_unit_85 : decode cX13_unit 85 = .ok (.ifCond .eq 7, 3) := by decide +kernel
theorem dX13_unit_88 : decode cX13_unit 88 = .ok (.iconst 1, 1) := by decide +kernel
theorem dX13_unit_89 : decode cX13_unit 89 = .ok (.goto 4, 3) := by decide +kernel
theorem dX13_unit_92 : decode cX13_unit 92 = .ok (.iconst 0, 1) := by decide +kernel
theorem dX13_unit_93 : decode cX13_unit 93 = .ok (.istore 4, 2) := by decide +kernel
theorem dX13_unit_95 : decode cX13_unit 95 = .ok (.aload_n 0, 1) := by decide +kernel
theorem dX13_unit_96 : decode cX13_unit 96 = .ok (.iload 4, 2) := by decide +kernel
theorem dX13_unit_98 : decode cX13_unit 98 = .ok (.ifCond .eq 8, 3) := by decide +kernel
theorem dX13_unit_101 : decode cX13_unit 101 = .ok (.bipush 13, 2) := by decide +kernel
theorem dX13_unit_103 : decode cX13_unit 103 = .ok (.goto 5, 3) := by decide +kernel
theorem dX13_unit_106 : decode cX13_unit 106 = .ok (.bipush 12, 2) := by decide +kernel
theorem dX13_unit_108 : decode cX13_unit 108 = .ok (.aload_n 0, 1) := by decide +kernel
theorem dX13_unit_109 : decode cX13_unit 109 = .ok (.getfield 176, 3) := by decide +kernel
theorem dX13_unit_112 : decode cX13_unit 112 = .ok (.iload_n 1, 1) := by decide +kernel
theorem dX13_unit_113 : decode cX13_unit 113 = .ok (.iaload, 1) := by decide +kernel
theorem dX13_unit_114 : decode cX13_unit 114 = .ok (.invokevirtual 483, 3) := by decide +kernel
theorem dX13_unit_117 : decode cX13_unit 117 = .ok (.istore 5, 2) := by decide +kernel
theorem dX13_unit_119 : decode cX13_unit 119 = .ok (.aload_n 0, 1) := by decide +kernel
theorem dX13_unit_120 : decode cX13_unit 120 = .ok (.getfield 185, 3) := by decide +kernel
theorem dX13_unit_123 : decode cX13_unit 123 = .ok (.iload 5, 2) := by decide +kernel
theorem dX13_unit_125 : decode cX13_unit 125 = .ok (.aload_n 0, 1) := by decide +kernel
theorem dX13_unit_126 : decode cX13_unit 126 = .ok (.iload_n 3, 1) := by decide +kernel
theorem dX13_unit_127 : decode cX13_unit 127 = .ok (.invokevirtual 141, 3) := by decide +kernel
theorem dX13_unit_130 : decode cX13_unit 130 = .ok (.lastore, 1) := by decide +kernel
theorem dX13_unit_131 : decode cX13_unit 131 = .ok (.aload_n 0, 1) := by decide +kernel
theorem dX13_unit_132 : decode cX13_unit 132 = .ok (.getfield 179, 3) := by decide +kernel
theorem dX13_unit_135 : decode cX13_unit 135 = .ok (.iload 5, 2) := by decide +kernel
theorem dX13_unit_137 : decode cX13_unit 137 = .ok (.aload_n 0, 1) := by decide +kernel
theorem dX13_unit_138 : decode cX13_unit 138 = .ok (.iload_n 3, 1) := by decide +kernel
theorem dX13_unit_139 : decode cX13_unit 139 = .ok (.invokevirtual 149, 3) := by decide +kernel
theorem dX13_unit_142 : decode cX13_unit 142 = .ok (.iastore, 1) := by decide +kernel
theorem dX13_unit_143 : decode cX13_unit 143 = .ok (.aload_n 0, 1) := by decide +kernel
theorem dX13_unit_144 : decode cX13_unit 144 = .ok (.getfield 194, 3) := by decide +kernel
theorem dX13_unit_147 : decode cX13_unit 147 = .ok (.iload 5, 2) := by decide +kernel
theorem dX13_unit_149 : decode cX13_unit 149 = .ok (.iload_n 1, 1) := by decide +kernel
theorem dX13_unit_150 : decode cX13_unit 150 = .ok (.iastore, 1) := by decide +kernel
theorem dX13_unit_151 : decode cX13_unit 151 = .ok (.aload_n 0, 1) := by decide +kernel
theorem dX13_unit_152 : decode cX13_unit 152 = .ok (.getfield 197, 3) := by decide +kernel
theorem dX13_unit_155 : decode cX13_unit 155 = .ok (.iload 5, 2) := by decide +kernel
theorem dX13_unit_157 : decode cX13_unit 157 = .ok (.iload 4, 2) := by decide +kernel
theorem dX13_unit_159 : decode cX13_unit 159 = .ok (.ifCond .eq 10, 3) := by decide +kernel
theorem dX13_unit_162 : decode cX13_unit 162 = .ok (.aload_n 0, 1) := by decide +kernel
theorem dX13_unit_163 : decode cX13_unit 163 = .ok (.invokevirtual 494, 3) := by decide +kernel
theorem dX13_unit_166 : decode cX13_unit 166 = .ok (.goto 5, 3) := by decide +kernel
theorem dX13_unit_169 : decode cX13_unit 169 = .ok (.bipush (-2), 2) := by decide +kernel
theorem dX13_unit_171 : decode cX13_unit 171 = .ok (.iastore, 1) := by decide +kernel
theorem dX13_unit_172 : decode cX13_unit 172 = .ok (.iload 5, 2) := by decide +kernel
theorem dX13_unit_174 : decode cX13_unit 174 = .ok (.istore_n 1, 1) := by decide +kernel
theorem dX13_unit_175 : decode cX13_unit 175 = .ok (.goto 78, 3) := by decide +kernel
theorem dX13_unit_178 : decode cX13_unit 178 = .ok (.aload_n 0, 1) := by decide +kernel
theorem dX13_unit_179 : decode cX13_unit 179 = .ok (.ldc_w 514, 3) := by decide +kernel
theorem dX13_unit_182 : decode cX13_unit 182 = .ok (.invokevirtual 166, 3) := by decide +kernel
theorem dX13_unit_185 : decode cX13_unit 185 = .ok (.ifCond .eq 66, 3) := by decide +kernel
theorem dX13_unit_188 : decode cX13_unit 188 = .ok (.aload_n 0, 1) := by decide +kernel
theorem dX13_unit_189 : decode cX13_unit 189 = .ok (.invokevirtual 159, 3) := by decide +kernel
theorem dX13_unit_192 : decode cX13_unit 192 = .ok (.aload_n 0, 1) := by decide +kernel
theorem dX13_unit_193 : decode cX13_unit 193 = .ok (.iconst 1, 1) := by decide +kernel
theorem dX13_unit_194 : decode cX13_unit 194 = .ok (.iconst 0, 1) := by decide +kernel
theorem dX13_unit_195 : decode cX13_unit 195 = .ok (.invokevirtual 252, 3) := by decide +kernel
theorem dX13_unit_198 : decode cX13_unit 198 = .ok (.istore_n 3, 1) := by decide +kernel
theorem dX13_unit_199 : decode cX13_unit 199 = .ok (.aload_n 0, 1) := by decide +kernel
theorem dX13_unit_200 : decode cX13_unit 200 = .ok (.bipush 14, 2) := by decide +kernel
theorem dX13_unit_202 : decode cX13_unit 202 = .ok (.aload_n 0, 1) := by decide +kernel
theorem dX13_unit_203 : decode cX13_unit 203 = .ok (.getfield 176, 3) := by decide +kernel
theorem dX13_unit_206 : decode cX13_unit 206 = .ok (.iload_n 1, 1) := by decide +kernel
theorem dX13_unit_207 : decode cX13_unit 207 = .ok (.iaload, 1) := by decide +kernel
theorem dX13_unit_208 : decode cX13_unit 208 = .ok (.invokevirtual 483, 3) := by decide +kernel
theorem dX13_unit_211 : decode cX13_unit 211 = .ok (.istore 4, 2) := by decide +kernel
theorem dX13_unit_213 : decode cX13_unit 213 = .ok (.aload_n 0, 1) := by decide +kernel
theorem dX13_unit_214 : decode cX13_unit 214 = .ok (.getfield 188, 3) := by decide +kernel
theorem dX13_unit_217 : decode cX13_unit 217 = .ok (.iload 4, 2) := by decide +kernel
theorem dX13_unit_219 : decode cX13_unit 219 = .ok (.aload_n 0, 1) := by decide +kernel
theorem dX13_unit_220 : decode cX13_unit 220 = .ok (.iload_n 3, 1) := by decide +kernel
theorem dX13_unit_221 : decode cX13_unit 221 = .ok (.invokevirtual 141, 3) := by decide +kernel
theorem dX13_unit_224 : decode cX13_unit 224 = .ok (.lastore, 1) := by decide +kernel
theorem dX13_unit_225 : decode cX13_unit 225 = .ok (.aload_n 0, 1) := by decide +kernel
theorem dX13_unit_226 : decode cX13_unit 226 = .ok (.getfield 182, 3) := by decide +kernel
theorem dX13_unit_229 : decode cX13_unit 229 = .ok (.iload 4, 2) := by decide +kernel
theorem dX13_unit_231 : decode cX13_unit 231 = .ok (.aload_n 0, 1) := by decide +kernel
theorem dX13_unit_232 : decode cX13_unit 232 = .ok (.iload_n 3, 1) := by decide +kernel
theorem dX13_unit_233 : decode cX13_unit 233 = .ok (.invokevirtual 149, 3) := by decide +kernel
theorem dX13_unit_236 : decode cX13_unit 236 = .ok (.iastore, 1) := by decide +kernel
theorem dX13_unit_237 : decode cX13_unit 237 = .ok (.aload_n 0, 1) := by decide +kernel
theorem dX13_unit_238 : decode cX13_unit 238 = .ok (.getfield 194, 3) := by decide +kernel
theorem dX13_unit_241 : decode cX13_unit 241 = .ok (.iload 4, 2) := by decide +kernel
theorem dX13_unit_243 : decode cX13_unit 243 = .ok (.iload_n 1, 1) := by decide +kernel
theorem dX13_unit_244 : decode cX13_unit 244 = .ok (.iastore, 1) := by decide +kernel
theorem dX13_unit_245 : decode cX13_unit 245 = .ok (.iload 4, 2) := by decide +kernel
theorem dX13_unit_247 : decode cX13_unit 247 = .ok (.istore_n 1, 1) := by decide +kernel
theorem dX13_unit_248 : decode cX13_unit 248 = .ok (.goto 5, 3) := by decide +kernel
theorem dX13_unit_251 : decode cX13_unit 251 = .ok (.iconst 0, 1) := by decide +kernel
theorem dX13_unit_252 : decode cX13_unit 252 = .ok (.istore_n 2, 1) := by decide +kernel
theorem dX13_unit_253 : decode cX13_unit 253 = .ok (.iload_n 2, 1) := by decide +kernel
theorem dX13_unit_254 : decode cX13_unit 254 = .ok (.ifCond .eq 14, 3) := by decide +kernel
theorem dX13_unit_257 : decode cX13_unit 257 = .ok (.aload_n 0, 1) := by decide +kernel
theorem dX13_unit_258 : decode cX13_unit 258 = .ok (.getfield 129, 3) := by decide +kernel
theorem dX13_unit_261 : decode cX13_unit 261 = .ok (.ifCond .ne 7, 3) := by decide +kernel
theorem dX13_unit_264 : decode cX13_unit 264 = .ok (.iconst 1, 1) := by decide +kernel
theorem dX13_unit_265 : decode cX13_unit 265 = .ok (.goto 4, 3) := by decide +kernel
theorem dX13_unit_268 : decode cX13_unit 268 = .ok (.iconst 0, 1) := by decide +kernel
theorem dX13_unit_269 : decode cX13_unit 269 = .ok (.istore_n 2, 1) := by decide +kernel
theorem dX13_unit_270 : decode cX13_unit 270 = .ok (.goto (-222), 3) := by decide +kernel
theorem dX13_unit_273 : decode cX13_unit 273 = .ok (.iload_n 1, 1) := by decide +kernel
theorem dX13_unit_274 : decode cX13_unit 274 = .ok (.ireturn, 1) := by decide +kernel
theorem dX13_arguments_0 : decode cX13_arguments 0 = .ok (.aload_n 0, 1) := by decide +kernel
theorem dX13_arguments_1 : decode cX13_arguments 1 = .ok (.bipush 40, 2) := by decide +kernel
theorem dX13_arguments_3 : decode cX13_arguments 3 = .ok (.invokevirtual 325, 3) := by decide +kernel
theorem dX13_arguments_6 : decode cX13_arguments 6 = .ok (.bipush (-2), 2) := by decide +kernel
theorem dX13_arguments_8 : decode cX13_arguments 8 = .ok (.istore_n 1, 1) := by decide +kernel
theorem dX13_arguments_9 : decode cX13_arguments 9 = .ok (.aload_n 0, 1) := by decide +kernel
theorem dX13_arguments_10 : decode cX13_arguments 10 = .ok (.getfield 129, 3) := by decide +kernel
theorem dX13_arguments_13 : decode cX13_arguments 13 = .ok (.ifCond .ne 18, 3) := by decide +kernel
theorem dX13_arguments_16 : decode cX13_arguments 16 = .ok (.aload_n 0, 1) := by decide +kernel
theorem dX13_arguments_17 : decode cX13_arguments 17 = .ok (.bipush 41, 2) := by decide +kernel
theorem dX13_arguments_19 : decode cX13_arguments 19 = .ok (.invokevirtual 156, 3) := by decide +kernel
theorem dX13_arguments_22 : decode cX13_arguments 22 = .ok (.ifCond .eq 9, 3) := by decide +kernel
theorem dX13_arguments_25 : decode cX13_arguments 25 = .ok (.aload_n 0, 1) := by decide +kernel
theorem dX13_arguments_26 : decode cX13_arguments 26 = .ok (.invokevirtual 159, 3) := by decide +kernel
theorem dX13_arguments_29 : decode cX13_arguments 29 = .ok (.iload_n 1, 1) := by decide +kernel
theorem dX13_arguments_30 : decode cX13_arguments 30 = .ok (.ireturn, 1) := by decide +kernel
theorem dX13_arguments_31 : decode cX13_arguments 31 = .ok (.bipush (-2), 2) := by decide +kernel
theorem dX13_arguments_33 : decode cX13_arguments 33 = .ok (.istore_n 2, 1) := by decide +kernel
theorem dX13_arguments_34 : decode cX13_arguments 34 = .ok (.aload_n 0, 1) := by decide +kernel
theorem dX13_arguments_35 : decode cX13_arguments 35 = .ok (.getfield 129, 3) := by decide +kernel
theorem dX13_arguments_38 : decode cX13_arguments 38 = .ok (.ifCond .ne 7, 3) := by decide +kernel
theorem dX13_arguments_41 : decode cX13_arguments 41 = .ok (.iconst 1, 1) := by decide +kernel
theorem dX13_arguments_42 : decode cX13_arguments 42 = .ok (.goto 4, 3) := by decide +kernel
theorem dX13_arguments_45 : decode cX13_arguments 45 = .ok (.iconst 0, 1) := by decide +kernel
theorem dX13_arguments_46 : decode cX13_arguments 46 = .ok (.istore_n 3, 1) := by decide +kernel
theorem dX13_arguments_47 : decode cX13_arguments 47 = .ok (.iload_n 3, 1) := by decide +kernel
theorem dX13_arguments_48 : decode cX13_arguments 48 = .ok (.ifCond .eq 72, 3) := by decide +kernel
theorem dX13_arguments_51 : decode cX13_arguments 51 = .ok (.aload_n 0, 1) := by decide +kernel
theorem dX13_arguments_52 : decode cX13_arguments 52 = .ok (.invokevirtual 427, 3) := by decide +kernel
theorem dX13_arguments_55 : decode cX13_arguments 55 = .ok (.istore 4, 2) := by decide +kernel
theorem dX13_arguments_57 : decode cX13_arguments 57 = .ok (.iload_n 2, 1) := by decide +kernel
theorem dX13_arguments_58 : decode cX13_arguments 58 = .ok (.bipush (-2), 2) := by decide +kernel
theorem dX13_arguments_60 : decode cX13_arguments 60 = .ok (.if_icmp .ne 9, 3) := by decide +kernel
theorem dX13_arguments_63 : decode cX13_arguments 63 = .ok (.iload 4, 2) := by decide +kernel
theorem dX13_arguments_65 : decode cX13_arguments 65 = .ok (.istore_n 1, 1) := by decide +kernel
theorem dX13_arguments_66 : decode cX13_arguments 66 = .ok (.goto 18, 3) := by decide +kernel
theorem dX13_arguments_69 : decode cX13_arguments 69 = .ok (.iload 4, 2) := by decide +kernel
theorem dX13_arguments_71 : decode cX13_arguments 71 = .ok (.bipush (-2), 2) := by decide +kernel
theorem dX13_arguments_73 : decode cX13_arguments 73 = .ok (.if_icmp .eq 11, 3) := by decide +kernel
theorem dX13_arguments_76 : decode cX13_arguments 76 = .ok (.aload_n 0, 1) := by decide +kernel
theorem dX13_arguments_77 : decode cX13_arguments 77 = .ok (.getfield 203, 3) := by decide +kernel
theorem dX13_arguments_80 : decode cX13_arguments 80 = .ok (.iload_n 2, 1) := by decide +kernel
theorem dX13_arguments_81 : decode cX13_arguments 81 = .ok (.iload 4, 2) := by decide +kernel
theorem dX13_arguments_83 : decode cX13_arguments 83 = .ok (.iastore, 1) := by decide +kernel
theorem dX13_arguments_84 : decode cX13_arguments 84 = .ok (.iload 4, 2) := by decide +kernel
theorem dX13_arguments_86 : decode cX13_arguments 86 = .ok (.istore_n 2, 1) := by decide +kernel
theorem dX13_arguments_87 : decode cX13_arguments 87 = .ok (.aload_n 0, 1) := by decide +kernel
theorem dX13_arguments_88 : decode cX13_arguments 88 = .ok (.getfield 129, 3) := by decide +kernel
theorem dX13_arguments_91 : decode cX13_arguments 91 = .ok (.ifCond .ne 16, 3) := by decide +kernel
theorem dX13_arguments_94 : decode cX13_arguments 94 = .ok (.aload_n 0, 1) := by decide +kernel
theorem dX13_arguments_95 : decode cX13_arguments 95 = .ok (.bipush 44, 2) := by decide +kernel
theorem dX13_arguments_97 : decode cX13_arguments 97 = .ok (.invokevirtual 156, 3) := by decide +kernel
theorem dX13_arguments_100 : decode cX13_arguments 100 = .ok (.ifCond .eq 7, 3) := by decide +kernel
theorem dX13_arguments_103 : decode cX13_arguments 103 = .ok (.iconst 1, 1) := by decide +kernel
theorem dX13_arguments_104 : decode cX13_arguments 104 = .ok (.goto 4, 3) := by decide +kernel
theorem dX13_arguments_107 : decode cX13_arguments 107 = .ok (.iconst 0, 1) := by decide +kernel
theorem dX13_arguments_108 : decode cX13_arguments 108 = .ok (.istore_n 3, 1) := by decide +kernel
theorem dX13_arguments_109 : decode cX13_arguments 109 = .ok (.iload_n 3, 1) := by decide +kernel
theorem dX13_arguments_110 : decode cX13_arguments 110 = .ok (.ifCond .eq 7, 3) := by decide +kernel
theorem dX13_arguments_113 : decode cX13_arguments 113 = .ok (.aload_n 0, 1) := by decide +kernel
theorem dX13_arguments_114 : decode cX13_arguments 114 = .ok (.invokevirtual 159, 3) := by decide +kernel
theorem dX13_arguments_117 : decode cX13_arguments 117 = .ok (.goto (-70), 3) := by decide +kernel
theorem dX13_arguments_120 : decode cX13_arguments 120 = .ok (.aload_n 0, 1) := by decide +kernel
theorem dX13_arguments_121 : decode cX13_arguments 121 = .ok (.bipush 41, 2) := by decide +kernel
theorem dX13_arguments_123 : decode cX13_arguments 123 = .ok (.invokevirtual 325, 3) := by decide +kernel
theorem dX13_arguments_126 : decode cX13_arguments 126 = .ok (.iload_n 1, 1) := by decide +kernel
theorem dX13_arguments_127 : decode cX13_arguments 127 = .ok (.ireturn, 1) := by decide +kernel
theorem dX13_first_0 : decode cX13_first 0 = .ok (.aload_n 0, 1) := by decide +kernel
theorem dX13_first_1 : decode cX13_first 1 = .ok (.aload_n 0, 1) := by decide +kernel
theorem dX13_first_2 : decode cX13_first 2 = .ok (.getfield 135, 3) := by decide +kernel
theorem dX13_first_5 : decode cX13_first 5 = .ok (.invokevirtual 149, 3) := by decide +kernel
theorem dX13_first_8 : decode cX13_first 8 = .ok (.istore_n 1, 1) := by decide +kernel
theorem dX13_first_9 : decode cX13_first 9 = .ok (.aload_n 0, 1) := by decide +kernel
theorem dX13_first_10 : decode cX13_first 10 = .ok (.aload_n 0, 1) := by decide +kernel
theorem dX13_first_11 : decode cX13_first 11 = .ok (.getfield 135, 3) := by decide +kernel
theorem dX13_first_14 : decode cX13_first 14 = .ok (.invokevirtual 138, 3) := by decide +kernel
theorem dX13_first_17 : decode cX13_first 17 = .ok (.istore_n 2, 1) := by decide +kernel
theorem dX13_first_18 : decode cX13_first 18 = .ok (.iload_n 2, 1) := by decide +kernel
theorem dX13_first_19 : decode cX13_first 19 = .ok (.iconst 4, 1) := by decide +kernel
theorem dX13_first_20 : decode cX13_first 20 = .ok (.if_icmp .ne 40, 3) := by decide +kernel
theorem dX13_first_23 : decode cX13_first 23 = .ok (.aload_n 0, 1) := by decide +kernel
theorem dX13_first_24 : decode cX13_first 24 = .ok (.iconst 0, 1) := by decide +kernel
theorem dX13_first_25 : decode cX13_first 25 = .ok (.iload_n 1, 1) := by decide +kernel
theorem dX13_first_26 : decode cX13_first 26 = .ok (.invokevirtual 483, 3) := by decide +kernel
theorem dX13_first_29 : decode cX13_first 29 = .ok (.istore_n 3, 1) := by decide +kernel
theorem dX13_first_30 : decode cX13_first 30 = .ok (.aload_n 0, 1) := by decide +kernel
theorem dX13_first_31 : decode cX13_first 31 = .ok (.getfield 206, 3) := by decide +kernel
theorem dX13_first_34 : decode cX13_first 34 = .ok (.iload_n 3, 1) := by decide +kernel
theorem dX13_first_35 : decode cX13_first 35 = .ok (.aload_n 0, 1) := by decide +kernel
theorem dX13_first_36 : decode cX13_first 36 = .ok (.getfield 100, 3) := by decide +kernel
theorem dX13_first_39 : decode cX13_first 39 = .ok (.aload_n 0, 1) := by decide +kernel
theorem dX13_first_40 : decode cX13_first 40 = .ok (.getfield 84, 3) := by decide +kernel
theorem dX13_first_43 : decode cX13_first 43 = .ok (.sipush 702, 3) := by decide +kernel
theorem dX13_first_46 : decode cX13_first 46 = .ok (.imul, 1) := by decide +kernel
theorem dX13_first_47 : decode cX13_first 47 = .ok (.aload_n 0, 1) := by decide +kernel
theorem dX13_first_48 : decode cX13_first 48 = .ok (.getfield 135, 3) := by decide +kernel
theorem dX13_first_51 : decode cX13_first 51 = .ok (.iadd, 1) := by decide +kernel
theorem dX13_first_52 : decode cX13_first 52 = .ok (.iaload, 1) := by decide +kernel
theorem dX13_first_53 : decode cX13_first 53 = .ok (.iastore, 1) := by decide +kernel
theorem dX13_first_54 : decode cX13_first 54 = .ok (.aload_n 0, 1) := by decide +kernel
theorem dX13_first_55 : decode cX13_first 55 = .ok (.invokevirtual 159, 3) := by decide +kernel
theorem dX13_first_58 : decode cX13_first 58 = .ok (.iload_n 3, 1) := by decide +kernel
theorem dX13_first_59 : decode cX13_first 59 = .ok (.ireturn, 1) := by decide +kernel
theorem dX13_first_60 : decode cX13_first 60 = .ok (.aload_n 0, 1) := by decide +kernel
theorem dX13_first_61 : decode cX13_first 61 = .ok (.ldc_w 451, 3) := by decide +kernel
theorem dX13_first_64 : decode cX13_first 64 = .ok (.invokevirtual 166, 3) := by decide +kernel
theorem dX13_first_67 : decode cX13_first 67 = .ok (.ifCond .ne 13, 3) := by decide +kernel
theorem dX13_first_70 : decode cX13_first 70 = .ok (.aload_n 0, 1) := by decide +kernel
theorem dX13_first_71 : decode cX13_first 71 = .ok (.ldc_w 453, 3) := by decide +kernel
theorem dX13_first_74 : decode cX13_first 74 = .ok (.invokevirtual 166, 3) := by decide +kernel
theorem dX13_first_77 : decode cX13_first 77 = .ok (.ifCond .eq 30, 3) := by decide +kernel
theorem dX13_first_80 : decode cX13_first 80 = .ok (.aload_n 0, 1) := by decide +kernel
theorem dX13_first_81 : decode cX13_first 81 = .ok (.aload_n 0, 1) := by decide +kernel
theorem dX13_first_82 : decode cX13_first 82 = .ok (.ldc_w 451, 3) := by decide +kernel
theorem dX13_first_85 : decode cX13_first 85 = .ok (.invokevirtual 166, 3) := by decide +kernel
theorem dX13_first_88 : decode cX13_first 88 = .ok (.ifCond .eq 7, 3) := by decide +kernel
theorem dX13_first_91 : decode cX13_first 91 = .ok (.iconst 1, 1) := by decide +kernel
theorem dX13_first_92 : decode cX13_first 92 = .ok (.goto 4, 3) := by decide +kernel
theorem dX13_first_95 : decode cX13_first 95 = .ok (.iconst 2, 1) := by decide +kernel
theorem dX13_first_96 : decode cX13_first 96 = .ok (.iload_n 1, 1) := by decide +kernel
theorem dX13_first_97 : decode cX13_first 97 = .ok (.invokevirtual 483, 3) := by decide +kernel
theorem dX13_first_100 : decode cX13_first 100 = .ok (.istore_n 3, 1) := by decide +kernel
theorem dX13_first_101 : decode cX13_first 101 = .ok (.aload_n 0, 1) := by decide +kernel
theorem dX13_first_102 : decode cX13_first 102 = .ok (.invokevirtual 159, 3) := by decide +kernel
theorem dX13_first_105 : decode cX13_first 105 = .ok (.iload_n 3, 1) := by decide +kernel
theorem dX13_first_106 : decode cX13_first 106 = .ok (.ireturn, 1) := by decide +kernel
theorem dX13_first_107 : decode cX13_first 107 = .ok (.iload_n 2, 1) := by decide +kernel
theorem dX13_first_108 : decode cX13_first 108 = .ok (.iconst 2, 1) := by decide +kernel
theorem dX13_first_109 : decode cX13_first 109 = .ok (.if_icmp .ne 88, 3) := by decide +kernel
theorem dX13_first_112 : decode cX13_first 112 = .ok (.aload_n 0, 1) := by decide +kernel
theorem dX13_first_113 : decode cX13_first 113 = .ok (.aload_n 0, 1) := by decide +kernel
theorem dX13_first_114 : decode cX13_first 114 = .ok (.getfield 135, 3) := by decide +kernel
theorem dX13_first_117 : decode cX13_first 117 = .ok (.invokevirtual 141, 3) := by decide +kernel
theorem dX13_first_120 : decode cX13_first 120 = .ok (.lstore_n 3, 1) := by decide +kernel
theorem dX13_first_121 : decode cX13_first 121 = .ok (.aload_n 0, 1) := by decide +kernel
theorem dX13_first_122 : decode cX13_first 122 = .ok (.invokevirtual 159, 3) := by decide +kernel
theorem dX13_first_125 : decode cX13_first 125 = .ok (.aload_n 0, 1) := by decide +kernel
theorem dX13_first_126 : decode cX13_first 126 = .ok (.getfield 129, 3) := by decide +kernel
theorem dX13_first_129 : decode cX13_first 129 = .ok (.ifCond .ne 16, 3) := by decide +kernel
theorem dX13_first_132 : decode cX13_first 132 = .ok (.aload_n 0, 1) := by decide +kernel
theorem dX13_first_133 : decode cX13_first 133 = .ok (.bipush 40, 2) := by decide +kernel
theorem dX13_first_135 : decode cX13_first 135 = .ok (.invokevirtual 156, 3) := by decide +kernel
theorem dX13_first_138 : decode cX13_first 138 = .ok (.ifCond .eq 7, 3) := by decide +kernel
theorem dX13_first_141 : decode cX13_first 141 = .ok (.iconst 1, 1) := by decide +kernel
theorem dX13_first_142 : decode cX13_first 142 = .ok (.goto 4, 3) := by decide +kernel
theorem dX13_first_145 : decode cX13_first 145 = .ok (.iconst 0, 1) := by decide +kernel
theorem dX13_first_146 : decode cX13_first 146 = .ok (.istore 5, 2) := by decide +kernel
theorem dX13_first_148 : decode cX13_first 148 = .ok (.aload_n 0, 1) := by decide +kernel
theorem dX13_first_149 : decode cX13_first 149 = .ok (.iload 5, 2) := by decide +kernel
theorem dX13_first_151 : decode cX13_first 151 = .ok (.ifCond .eq 7, 3) := by decide +kernel
theorem dX13_first_154 : decode cX13_first 154 = .ok (.iconst 4, 1) := by decide +kernel
theorem dX13_first_155 : decode cX13_first 155 = .ok (.goto 4, 3) := by decide +kernel
theorem dX13_first_158 : decode cX13_first 158 = .ok (.iconst 3, 1) := by decide +kernel
theorem dX13_first_159 : decode cX13_first 159 = .ok (.iload_n 1, 1) := by decide +kernel
theorem dX13_first_160 : decode cX13_first 160 = .ok (.invokevirtual 483, 3) := by decide +kernel
theorem dX13_first_163 : decode cX13_first 163 = .ok (.istore 6, 2) := by decide +kernel
theorem dX13_first_165 : decode cX13_first 165 = .ok (.aload_n 0, 1) := by decide +kernel
theorem dX13_first_166 : decode cX13_first 166 = .ok (.getfield 185, 3) := by decide +kernel
theorem dX13_first_169 : decode cX13_first 169 = .ok (.iload 6, 2) := by decide +kernel
theorem dX13_first_171 : decode cX13_first 171 = .ok (.lload_n 3, 1) := by decide +kernel
theorem dX13_first_172 : decode cX13_first 172 = .ok (.lastore, 1) := by decide +kernel
theorem dX13_first_173 : decode cX13_first 173 = .ok (.aload_n 0, 1) := by decide +kernel
theorem dX13_first_174 : decode cX13_first 174 = .ok (.getfield 197, 3) := by decide +kernel
theorem dX13_first_177 : decode cX13_first 177 = .ok (.iload 6, 2) := by decide +kernel
theorem dX13_first_179 : decode cX13_first 179 = .ok (.iload 5, 2) := by decide +kernel
theorem dX13_first_181 : decode cX13_first 181 = .ok (.ifCond .eq 10, 3) := by decide +kernel
theorem dX13_first_184 : decode cX13_first 184 = .ok (.aload_n 0, 1) := by decide +kernel
theorem dX13_first_185 : decode cX13_first 185 = .ok (.invokevirtual 494, 3) := by decide +kernel
theorem dX13_first_188 : decode cX13_first 188 = .ok (.goto 5, 3) := by decide +kernel
theorem dX13_first_191 : decode cX13_first 191 = .ok (.bipush (-2), 2) := by decide +kernel
theorem dX13_first_193 : decode cX13_first 193 = .ok (.iastore, 1) := by decide +kernel
theorem dX13_first_194 : decode cX13_first 194 = .ok (.iload 6, 2) := by decide +kernel
theorem dX13_first_196 : decode cX13_first 196 = .ok (.ireturn, 1) := by decide +kernel
theorem dX13_first_197 : decode cX13_first 197 = .ok (.iload_n 2, 1) := by decide +kernel
theorem dX13_first_198 : decode cX13_first 198 = .ok (.iconst 1, 1) := by decide +kernel
theorem dX13_first_199 : decode cX13_first 199 = .ok (.if_icmp .ne 9, 3) := by decide +kernel
theorem dX13_first_202 : decode cX13_first 202 = .ok (.aload_n 0, 1) := by decide +kernel
theorem dX13_first_203 : decode cX13_first 203 = .ok (.iload_n 1, 1) := by decide +kernel
theorem dX13_first_204 : decode cX13_first 204 = .ok (.invokevirtual 516, 3) := by decide +kernel
theorem dX13_first_207 : decode cX13_first 207 = .ok (.ireturn, 1) := by decide +kernel
theorem dX13_first_208 : decode cX13_first 208 = .ok (.aload_n 0, 1) := by decide +kernel
theorem dX13_first_209 : decode cX13_first 209 = .ok (.ldc_w 455, 3) := by decide +kernel
theorem dX13_first_212 : decode cX13_first 212 = .ok (.invokevirtual 238, 3) := by decide +kernel
theorem dX13_first_215 : decode cX13_first 215 = .ok (.ifCond .eq 61, 3) := by decide +kernel
theorem dX13_first_218 : decode cX13_first 218 = .ok (.aload_n 0, 1) := by decide +kernel
theorem dX13_first_219 : decode cX13_first 219 = .ok (.bipush 8, 2) := by decide +kernel
theorem dX13_first_221 : decode cX13_first 221 = .ok (.iload_n 1, 1) := by decide +kernel
theorem dX13_first_222 : decode cX13_first 222 = .ok (.invokevirtual 483, 3) := by decide +kernel
theorem dX13_first_225 : decode cX13_first 225 = .ok (.istore_n 3, 1) := by decide +kernel
theorem dX13_first_226 : decode cX13_first 226 = .ok (.aload_n 0, 1) := by decide +kernel
theorem dX13_first_227 : decode cX13_first 227 = .ok (.bipush 46, 2) := by decide +kernel
theorem dX13_first_229 : decode cX13_first 229 = .ok (.invokevirtual 325, 3) := by decide +kernel
theorem dX13_first_232 : decode cX13_first 232 = .ok (.aload_n 0, 1) := by decide +kernel
theorem dX13_first_233 : decode cX13_first 233 = .ok (.iconst 2, 1) := by decide +kernel
theorem dX13_first_234 : decode cX13_first 234 = .ok (.iconst 0, 1) := by decide +kernel
theorem dX13_first_235 : decode cX13_first 235 = .ok (.invokevirtual 252, 3) := by decide +kernel
theorem dX13_first_238 : decode cX13_first 238 = .ok (.istore 4, 2) := by decide +kernel
theorem dX13_first_240 : decode cX13_first 240 = .ok (.aload_n 0, 1) := by decide +kernel
theorem dX13_first_241 : decode cX13_first 241 = .ok (.getfield 185, 3) := by decide +kernel
theorem dX13_first_244 : decode cX13_first 244 = .ok (.iload_n 3, 1) := by decide +kernel
theorem dX13_first_245 : decode cX13_first 245 = .ok (.aload_n 0, 1) := by decide +kernel
theorem dX13_first_246 : decode cX13_first 246 = .ok (.iload 4, 2) := by decide +kernel
theorem dX13_first_248 : decode cX13_first 248 = .ok (.invokevirtual 141, 3) := by decide +kernel
theorem dX13_first_251 : decode cX13_first 251 = .ok (.lastore, 1) := by decide +kernel
theorem dX13_first_252 : decode cX13_first 252 = .ok (.aload_n 0, 1) := by decide +kernel
theorem dX13_first_253 : decode cX13_first 253 = .ok (.getfield 179, 3) := by decide +kernel
theorem dX13_first_256 : decode cX13_first 256 = .ok (.iload_n 3, 1) := by decide +kernel
theorem dX13_first_257 : decode cX13_first 257 = .ok (.aload_n 0, 1) := by decide +kernel
theorem dX13_first_258 : decode cX13_first 258 = .ok (.iload 4, 2) := by decide +kernel
theorem dX13_first_260 : decode cX13_first 260 = .ok (.invokevirtual 149, 3) := by decide +kernel
theorem dX13_first_263 : decode cX13_first 263 = .ok (.iastore, 1) := by decide +kernel
theorem dX13_first_264 : decode cX13_first 264 = .ok (.aload_n 0, 1) := by decide +kernel
theorem dX13_first_265 : decode cX13_first 265 = .ok (.getfield 197, 3) := by decide +kernel
theorem dX13_first_268 : decode cX13_first 268 = .ok (.iload_n 3, 1) := by decide +kernel
theorem dX13_first_269 : decode cX13_first 269 = .ok (.aload_n 0, 1) := by decide +kernel
theorem dX13_first_270 : decode cX13_first 270 = .ok (.invokevirtual 494, 3) := by decide +kernel
theorem dX13_first_273 : decode cX13_first 273 = .ok (.iastore, 1) := by decide +kernel
theorem dX13_first_274 : decode cX13_first 274 = .ok (.iload_n 3, 1) := by decide +kernel
theorem dX13_first_275 : decode cX13_first 275 = .ok (.ireturn, 1) := by decide +kernel
theorem dX13_first_276 : decode cX13_first 276 = .ok (.aload_n 0, 1) := by decide +kernel
theorem dX13_first_277 : decode cX13_first 277 = .ok (.ldc_w 337, 3) := by decide +kernel
theorem dX13_first_280 : decode cX13_first 280 = .ok (.invokevirtual 238, 3) := by decide +kernel
theorem dX13_first_283 : decode cX13_first 283 = .ok (.ifCond .eq 55, 3) := by decide +kernel
theorem dX13_first_286 : decode cX13_first 286 = .ok (.aload_n 0, 1) := by decide +kernel
theorem dX13_first_287 : decode cX13_first 287 = .ok (.bipush 9, 2) := by decide +kernel
theorem dX13_first_289 : decode cX13_first 289 = .ok (.iload_n 1, 1) := by decide +kernel
theorem dX13_first_290 : decode cX13_first 290 = .ok (.invokevirtual 483, 3) := by decide +kernel
theorem dX13_first_293 : decode cX13_first 293 = .ok (.istore_n 3, 1) := by decide +kernel
theorem dX13_first_294 : decode cX13_first 294 = .ok (.aload_n 0, 1) := by decide +kernel
theorem dX13_first_295 : decode cX13_first 295 = .ok (.iconst 1, 1) := by decide +kernel
theorem dX13_first_296 : decode cX13_first 296 = .ok (.iconst 0, 1) := by decide +kernel
theorem dX13_first_297 : decode cX13_first 297 = .ok (.invokevirtual 252, 3) := by decide +kernel
theorem dX13_first_300 : decode cX13_first 300 = .ok (.istore 4, 2) := by decide +kernel
theorem dX13_first_302 : decode cX13_first 302 = .ok (.aload_n 0, 1) := by decide +kernel
theorem dX13_first_303 : decode cX13_first 303 = .ok (.getfield 188, 3) := by decide +kernel
theorem dX13_first_306 : decode cX13_first 306 = .ok (.iload_n 3, 1) := by decide +kernel
theorem dX13_first_307 : decode cX13_first 307 = .ok (.aload_n 0, 1) := by decide +kernel
theorem dX13_first_308 : decode cX13_first 308 = .ok (.iload 4, 2) := by decide +kernel
theorem dX13_first_310 : decode cX13_first 310 = .ok (.invokevirtual 141, 3) := by decide +kernel
theorem dX13_first_313 : decode cX13_first 313 = .ok (.lastore, 1) := by decide +kernel
theorem dX13_first_314 : decode cX13_first 314 = .ok (.aload_n 0, 1) := by decide +kernel
theorem dX13_first_315 : decode cX13_first 315 = .ok (.getfield 182, 3) := by decide +kernel
theorem dX13_first_318 : decode cX13_first 318 = .ok (.iload_n 3, 1) := by decide +kernel
theorem dX13_first_319 : decode cX13_first 319 = .ok (.aload_n 0, 1) := by decide +kernel
theorem dX13_first_320 : decode cX13_first 320 = .ok (.iload 4, 2) := by decide +kernel
theorem dX13_first_322 : decode cX13_first 322 = .ok (.invokevirtual 149, 3) := by decide +kernel
theorem dX13_first_325 : decode cX13_first 325 = .ok (.iastore, 1) := by decide +kernel
theorem dX13_first_326 : decode cX13_first 326 = .ok (.aload_n 0, 1) := by decide +kernel
theorem dX13_first_327 : decode cX13_first 327 = .ok (.getfield 197, 3) := by decide +kernel
theorem dX13_first_330 : decode cX13_first 330 = .ok (.iload_n 3, 1) := by decide +kernel
theorem dX13_first_331 : decode cX13_first 331 = .ok (.aload_n 0, 1) := by decide +kernel
theorem dX13_first_332 : decode cX13_first 332 = .ok (.invokevirtual 494, 3) := by decide +kernel
theorem dX13_first_335 : decode cX13_first 335 = .ok (.iastore, 1) := by decide +kernel
theorem dX13_first_336 : decode cX13_first 336 = .ok (.iload_n 3, 1) := by decide +kernel
theorem dX13_first_337 : decode cX13_first 337 = .ok (.ireturn, 1) := by decide +kernel
theorem dX13_first_338 : decode cX13_first 338 = .ok (.aload_n 0, 1) := by decide +kernel
theorem dX13_first_339 : decode cX13_first 339 = .ok (.getfield 129, 3) := by decide +kernel
theorem dX13_first_342 : decode cX13_first 342 = .ok (.ifCond .ne 11, 3) := by decide +kernel
theorem dX13_first_345 : decode cX13_first 345 = .ok (.aload_n 0, 1) := by decide +kernel
theorem dX13_first_346 : decode cX13_first 346 = .ok (.iload_n 1, 1) := by decide +kernel
theorem dX13_first_347 : decode cX13_first 347 = .ok (.invokevirtual 519, 3) := by decide +kernel
theorem dX13_first_350 : decode cX13_first 350 = .ok (.goto 5, 3) := by decide +kernel
theorem dX13_first_353 : decode cX13_first 353 = .ok (.bipush (-2), 2) := by decide +kernel
theorem dX13_first_355 : decode cX13_first 355 = .ok (.ireturn, 1) := by decide +kernel
theorem dX13_ofClass_0 : decode cX13_ofClass 0 = .ok (.aload_n 0, 1) := by decide +kernel
theorem dX13_ofClass_1 : decode cX13_ofClass 1 = .ok (.aload_n 0, 1) := by decide +kernel
theorem dX13_ofClass_2 : decode cX13_ofClass 2 = .ok (.getfield 135, 3) := by decide +kernel
theorem dX13_ofClass_5 : decode cX13_ofClass 5 = .ok (.invokevirtual 141, 3) := by decide +kernel
theorem dX13_ofClass_8 : decode cX13_ofClass 8 = .ok (.lstore_n 2, 1) := by decide +kernel
theorem dX13_ofClass_9 : decode cX13_ofClass 9 = .ok (.aload_n 0, 1) := by decide +kernel
theorem dX13_ofClass_10 : decode cX13_ofClass 10 = .ok (.invokevirtual 159, 3) := by decide +kernel
theorem dX13_ofClass_13 : decode cX13_ofClass 13 = .ok (.aload_n 0, 1) := by decide +kernel
theorem dX13_ofClass_14 : decode cX13_ofClass 14 = .ok (.bipush 46, 2) := by decide +kernel
theorem dX13_ofClass_16 : decode cX13_ofClass 16 = .ok (.invokevirtual 325, 3) := by decide +kernel
theorem dX13_ofClass_19 : decode cX13_ofClass 19 = .ok (.aload_n 0, 1) := by decide +kernel
theorem dX13_ofClass_20 : decode cX13_ofClass 20 = .ok (.ldc_w 455, 3) := by decide +kernel
theorem dX13_ofClass_23 : decode cX13_ofClass 23 = .ok (.invokevirtual 238, 3) := by decide +kernel
theorem dX13_ofClass_26 : decode cX13_ofClass 26 = .ok (.ifCond .eq 108, 3) := by decide +kernel
theorem dX13_ofClass_29 : decode cX13_ofClass 29 = .ok (.aload_n 0, 1) := by decide +kernel
theorem dX13_ofClass_30 : decode cX13_ofClass 30 = .ok (.bipush 7, 2) := by decide +kernel
theorem dX13_ofClass_32 : decode cX13_ofClass 32 = .ok (.iload_n 1, 1) := by decide +kernel
theorem dX13_ofClass_33 : decode cX13_ofClass 33 = .ok (.invokevirtual 483, 3) := by decide +kernel
theorem dX13_ofClass_36 : decode cX13_ofClass 36 = .ok (.istore 4, 2) := by decide +kernel
theorem dX13_ofClass_38 : decode cX13_ofClass 38 = .ok (.aload_n 0, 1) := by decide +kernel
theorem dX13_ofClass_39 : decode cX13_ofClass 39 = .ok (.getfield 188, 3) := by decide +kernel
theorem dX13_ofClass_42 : decode cX13_ofClass 42 = .ok (.iload 4, 2) := by decide +kernel
theorem dX13_ofClass_44 : decode cX13_ofClass 44 = .ok (.lload_n 2, 1) := by decide +kernel
theorem dX13_ofClass_45 : decode cX13_ofClass 45 = .ok (.lastore, 1) := by decide +kernel
theorem dX13_ofClass_46 : decode cX13_ofClass 46 = .ok (.aload_n 0, 1) := by decide +kernel
theorem dX13_ofClass_47 : decode cX13_ofClass 47 = .ok (.getfield 179, 3) := by decide +kernel
theorem dX13_ofClass_50 : decode cX13_ofClass 50 = .ok (.iload 4, 2) := by decide +kernel
theorem dX13_ofClass_52 : decode cX13_ofClass 52 = .ok (.aload_n 0, 1) := by decide +kernel
theorem dX13_ofClass_53 : decode cX13_ofClass 53 = .ok (.aload_n 0, 1) := by decide +kernel
theorem dX13_ofClass_54 : decode cX13_ofClass 54 = .ok (.getfield 135, 3) := by decide +kernel
theorem dX13_ofClass_57 : decode cX13_ofClass 57 = .ok (.iconst 1, 1) := by decide +kernel
theorem dX13_ofClass_58 : decode cX13_ofClass 58 = .ok (.isub, 1) := by decide +kernel
theorem dX13_ofClass_59 : decode cX13_ofClass 59 = .ok (.invokevirtual 149, 3) := by decide +kernel
theorem dX13_ofClass_62 : decode cX13_ofClass 62 = .ok (.iastore, 1) := by decide +kernel
theorem dX13_ofClass_63 : decode cX13_ofClass 63 = .ok (.aload_n 0, 1) := by decide +kernel
theorem dX13_ofClass_64 : decode cX13_ofClass 64 = .ok (.getfield 200, 3) := by decide +kernel
theorem dX13_ofClass_67 : decode cX13_ofClass 67 = .ok (.iload 4, 2) := by decide +kernel
theorem dX13_ofClass_69 : decode cX13_ofClass 69 = .ok (.aload_n 0, 1) := by decide +kernel
theorem dX13_ofClass_70 : decode cX13_ofClass 70 = .ok (.aload_n 0, 1) := by decide +kernel
theorem dX13_ofClass_71 : decode cX13_ofClass 71 = .ok (.getfield 135, 3) := by decide +kernel
theorem dX13_ofClass_74 : decode cX13_ofClass 74 = .ok (.iconst 1, 1) := by decide +kernel
theorem dX13_ofClass_75 : decode cX13_ofClass 75 = .ok (.isub, 1) := by decide +kernel
theorem dX13_ofClass_76 : decode cX13_ofClass 76 = .ok (.invokevirtual 149, 3) := by decide +kernel
theorem dX13_ofClass_79 : decode cX13_ofClass 79 = .ok (.iastore, 1) := by decide +kernel
theorem dX13_ofClass_80 : decode cX13_ofClass 80 = .ok (.aload_n 0, 1) := by decide +kernel
theorem dX13_ofClass_81 : decode cX13_ofClass 81 = .ok (.bipush 46, 2) := by decide +kernel
theorem dX13_ofClass_83 : decode cX13_ofClass 83 = .ok (.invokevirtual 325, 3) := by decide +kernel
theorem dX13_ofClass_86 : decode cX13_ofClass 86 = .ok (.aload_n 0, 1) := by decide +kernel
theorem dX13_ofClass_87 : decode cX13_ofClass 87 = .ok (.iconst 2, 1) := by decide +kernel
theorem dX13_ofClass_88 : decode cX13_ofClass 88 = .ok (.iconst 0, 1) := by decide +kernel
theorem dX13_ofClass_89 : decode cX13_ofClass 89 = .ok (.invokevirtual 252, 3) := by decide +kernel
theorem dX13_ofClass_92 : decode cX13_ofClass 92 = .ok (.istore 5, 2) := by decide +kernel
theorem dX13_ofClass_94 : decode cX13_ofClass 94 = .ok (.aload_n 0, 1) := by decide +kernel
theorem dX13_ofClass_95 : decode cX13_ofClass 95 = .ok (.getfield 185, 3) := by decide +kernel
theorem dX13_ofClass_98 : decode cX13_ofClass 98 = .ok (.iload 4, 2) := by decide +kernel
theorem dX13_ofClass_100 : decode cX13_ofClass 100 = .ok (.aload_n 0, 1) := by decide +kernel
theorem dX13_ofClass_101 : decode cX13_ofClass 101 = .ok (.iload 5, 2) := by decide +kernel
theorem dX13_ofClass_103 : decode cX13_ofClass 103 = .ok (.invokevirtual 141, 3) := by decide +kernel
theorem dX13_ofClass_106 : decode cX13_ofClass 106 = .ok (.lastore, 1) := by decide +kernel
theorem dX13_ofClass_107 : decode cX13_ofClass 107 = .ok (.aload_n 0, 1) := by decide +kernel
theorem dX13_ofClass_108 : decode cX13_ofClass 108 = .ok (.getfield 179, 3) := by decide +kernel
theorem dX13_ofClass_111 : decode cX13_ofClass 111 = .ok (.iload 4, 2) := by decide +kernel
theorem dX13_ofClass_113 : decode cX13_ofClass 113 = .ok (.aload_n 0, 1) := by decide +kernel
theorem dX13_ofClass_114 : decode cX13_ofClass 114 = .ok (.iload 5, 2) := by decide +kernel
theorem dX13_ofClass_116 : decode cX13_ofClass 116 = .ok (.invokevirtual 149, 3) := by decide +kernel
theorem dX13_ofClass_119 : decode cX13_ofClass 119 = .ok (.iastore, 1) := by decide +kernel
theorem dX13_ofClass_120 : decode cX13_ofClass 120 = .ok (.aload_n 0, 1) := by decide +kernel
theorem dX13_ofClass_121 : decode cX13_ofClass 121 = .ok (.getfield 197, 3) := by decide +kernel
theorem dX13_ofClass_124 : decode cX13_ofClass 124 = .ok (.iload 4, 2) := by decide +kernel
theorem dX13_ofClass_126 : decode cX13_ofClass 126 = .ok (.aload_n 0, 1) := by decide +kernel
theorem dX13_ofClass_127 : decode cX13_ofClass 127 = .ok (.invokevirtual 494, 3) := by decide +kernel
theorem dX13_ofClass_130 : decode cX13_ofClass 130 = .ok (.iastore, 1) := by decide +kernel
theorem dX13_ofClass_131 : decode cX13_ofClass 131 = .ok (.iload 4, 2) := by decide +kernel
theorem dX13_ofClass_133 : decode cX13_ofClass 133 = .ok (.ireturn, 1) := by decide +kernel
theorem dX13_ofClass_134 : decode cX13_ofClass 134 = .ok (.aload_n 0, 1) := by decide +kernel
theorem dX13_ofClass_135 : decode cX13_ofClass 135 = .ok (.iconst 2, 1) := by decide +kernel
theorem dX13_ofClass_136 : decode cX13_ofClass 136 = .ok (.iconst 0, 1) := by decide +kernel
theorem dX13_ofClass_137 : decode cX13_ofClass 137 = .ok (.invokevirtual 252, 3) := by decide +kernel
theorem dX13_ofClass_140 : decode cX13_ofClass 140 = .ok (.istore 4, 2) := by decide +kernel
theorem dX13_ofClass_142 : decode cX13_ofClass 142 = .ok (.aload_n 0, 1) := by decide +kernel
theorem dX13_ofClass_143 : decode cX13_ofClass 143 = .ok (.getfield 129, 3) := by decide +kernel
theorem dX13_ofClass_146 : decode cX13_ofClass 146 = .ok (.ifCond .ne 16, 3) := by decide +kernel
theorem dX13_ofClass_149 : decode cX13_ofClass 149 = .ok (.aload_n 0, 1) := by decide +kernel
theorem dX13_ofClass_150 : decode cX13_ofClass 150 = .ok (.bipush 40, 2) := by decide +kernel
theorem dX13_ofClass_152 : decode cX13_ofClass 152 = .ok (.invokevirtual 156, 3) := by decide +kernel
theorem dX13_ofClass_155 : decode cX13_ofClass 155 = .ok (.ifCond .eq 7, 3) := by decide +kernel
theorem dX13_ofClass_158 : decode cX13_ofClass 158 = .ok (.iconst 1, 1) := by decide +kernel
theorem dX13_ofClass_159 : decode cX13_ofClass 159 = .ok (.goto 4, 3) := by decide +kernel
theorem dX13_ofClass_162 : decode cX13_ofClass 162 = .ok (.iconst 0, 1) := by decide +kernel
theorem dX13_ofClass_163 : decode cX13_ofClass 163 = .ok (.istore 5, 2) := by decide +kernel
theorem dX13_ofClass_165 : decode cX13_ofClass 165 = .ok (.aload_n 0, 1) := by decide +kernel
theorem dX13_ofClass_166 : decode cX13_ofClass 166 = .ok (.iload 5, 2) := by decide +kernel
theorem dX13_ofClass_168 : decode cX13_ofClass 168 = .ok (.ifCond .eq 8, 3) := by decide +kernel
theorem dX13_ofClass_171 : decode cX13_ofClass 171 = .ok (.bipush 6, 2) := by decide +kernel
theorem dX13_ofClass_173 : decode cX13_ofClass 173 = .ok (.goto 4, 3) := by decide +kernel
theorem dX13_ofClass_176 : decode cX13_ofClass 176 = .ok (.iconst 5, 1) := by decide +kernel
theorem dX13_ofClass_177 : decode cX13_ofClass 177 = .ok (.iload_n 1, 1) := by decide +kernel
theorem dX13_ofClass_178 : decode cX13_ofClass 178 = .ok (.invokevirtual 483, 3) := by decide +kernel
theorem dX13_ofClass_181 : decode cX13_ofClass 181 = .ok (.istore 6, 2) := by decide +kernel
theorem dX13_ofClass_183 : decode cX13_ofClass 183 = .ok (.aload_n 0, 1) := by decide +kernel
theorem dX13_ofClass_184 : decode cX13_ofClass 184 = .ok (.getfield 188, 3) := by decide +kernel
theorem dX13_ofClass_187 : decode cX13_ofClass 187 = .ok (.iload 6, 2) := by decide +kernel
theorem dX13_ofClass_189 : decode cX13_ofClass 189 = .ok (.lload_n 2, 1) := by decide +kernel
theorem dX13_ofClass_190 : decode cX13_ofClass 190 = .ok (.lastore, 1) := by decide +kernel
theorem dX13_ofClass_191 : decode cX13_ofClass 191 = .ok (.aload_n 0, 1) := by decide +kernel
theorem dX13_ofClass_192 : decode cX13_ofClass 192 = .ok (.getfield 185, 3) := by decide +kernel
theorem dX13_ofClass_195 : decode cX13_ofClass 195 = .ok (.iload 6, 2) := by decide +kernel
theorem dX13_ofClass_197 : decode cX13_ofClass 197 = .ok (.aload_n 0, 1) := by decide +kernel
theorem dX13_ofClass_198 : decode cX13_ofClass 198 = .ok (.iload 4, 2) := by decide +kernel
theorem dX13_ofClass_200 : decode cX13_ofClass 200 = .ok (.invokevirtual 141, 3) := by decide +kernel
theorem dX13_ofClass_203 : decode cX13_ofClass 203 = .ok (.lastore, 1) := by decide +kernel
theorem dX13_ofClass_204 : decode cX13_ofClass 204 = .ok (.aload_n 0, 1) := by decide +kernel
theorem dX13_ofClass_205 : decode cX13_ofClass 205 = .ok (.getfield 179, 3) := by decide +kernel
theorem dX13_ofClass_208 : decode cX13_ofClass 208 = .ok (.iload 6, 2) := by decide +kernel
theorem dX13_ofClass_210 : decode cX13_ofClass 210 = .ok (.aload_n 0, 1) := by decide +kernel
theorem dX13_ofClass_211 : decode cX13_ofClass 211 = .ok (.iload 4, 2) := by decide +kernel
theorem dX13_ofClass_213 : decode cX13_ofClass 213 = .ok (.invokevirtual 149, 3) := by decide +kernel
theorem dX13_ofClass_216 : decode cX13_ofClass 216 = .ok (.iastore, 1) := by decide +kernel
theorem dX13_ofClass_217 : decode cX13_ofClass 217 = .ok (.aload_n 0, 1) := by decide +kernel
theorem dX13_ofClass_218 : decode cX13_ofClass 218 = .ok (.getfield 197, 3) := by decide +kernel
theorem dX13_ofClass_221 : decode cX13_ofClass 221 = .ok (.iload 6, 2) := by decide +kernel
theorem dX13_ofClass_223 : decode cX13_ofClass 223 = .ok (.iload 5, 2) := by decide +kernel
theorem dX13_ofClass_225 : decode cX13_ofClass 225 = .ok (.ifCond .eq 10, 3) := by decide +kernel
theorem dX13_ofClass_228 : decode cX13_ofClass 228 = .ok (.aload_n 0, 1) := by decide +kernel
theorem dX13_ofClass_229 : decode cX13_ofClass 229 = .ok (.invokevirtual 494, 3) := by decide +kernel
theorem dX13_ofClass_232 : decode cX13_ofClass 232 = .ok (.goto 5, 3) := by decide +kernel
theorem dX13_ofClass_235 : decode cX13_ofClass 235 = .ok (.bipush (-2), 2) := by decide +kernel
theorem dX13_ofClass_237 : decode cX13_ofClass 237 = .ok (.iastore, 1) := by decide +kernel
theorem dX13_ofClass_238 : decode cX13_ofClass 238 = .ok (.iload 6, 2) := by decide +kernel
theorem dX13_ofClass_240 : decode cX13_ofClass 240 = .ok (.ireturn, 1) := by decide +kernel
theorem dX13_inBrackets_0 : decode cX13_inBrackets 0 = .ok (.aload_n 0, 1) := by decide +kernel
theorem dX13_inBrackets_1 : decode cX13_inBrackets 1 = .ok (.getfield 135, 3) := by decide +kernel
theorem dX13_inBrackets_4 : decode cX13_inBrackets 4 = .ok (.iconst 2, 1) := by decide +kernel
theorem dX13_inBrackets_5 : decode cX13_inBrackets 5 = .ok (.iadd, 1) := by decide +kernel
theorem dX13_inBrackets_6 : decode cX13_inBrackets 6 = .ok (.sipush 700, 3) := by decide +kernel
theorem dX13_inBrackets_9 : decode cX13_inBrackets 9 = .ok (.if_icmp .gt 60, 3) := by decide +kernel
theorem dX13_inBrackets_12 : decode cX13_inBrackets 12 = .ok (.aload_n 0, 1) := by decide +kernel
theorem dX13_inBrackets_13 : decode cX13_inBrackets 13 = .ok (.aload_n 0, 1) := by decide +kernel
theorem dX13_inBrackets_14 : decode cX13_inBrackets 14 = .ok (.getfield 135, 3) := by decide +kernel
theorem dX13_inBrackets_17 : decode cX13_inBrackets 17 = .ok (.iconst 1, 1) := by decide +kernel
theorem dX13_inBrackets_18 : decode cX13_inBrackets 18 = .ok (.iadd, 1) := by decide +kernel
theorem dX13_inBrackets_19 : decode cX13_inBrackets 19 = .ok (.invokevirtual 138, 3) := by decide +kernel
theorem dX13_inBrackets_22 : decode cX13_inBrackets 22 = .ok (.iconst 1, 1) := by decide +kernel
theorem dX13_inBrackets_23 : decode cX13_inBrackets 23 = .ok (.if_icmp .ne 46, 3) := by decide +kernel
theorem dX13_inBrackets_26 : decode cX13_inBrackets 26 = .ok (.aload_n 0, 1) := by decide +kernel
theorem dX13_inBrackets_27 : decode cX13_inBrackets 27 = .ok (.aload_n 0, 1) := by decide +kernel
theorem dX13_inBrackets_28 : decode cX13_inBrackets 28 = .ok (.getfield 135, 3) := by decide +kernel
theorem dX13_inBrackets_31 : decode cX13_inBrackets 31 = .ok (.iconst 2, 1) := by decide +kernel
theorem dX13_inBrackets_32 : decode cX13_inBrackets 32 = .ok (.iadd, 1) := by decide +kernel
theorem dX13_inBrackets_33 : decode cX13_inBrackets 33 = .ok (.invokevirtual 138, 3) := by decide +kernel
theorem dX13_inBrackets_36 : decode cX13_inBrackets 36 = .ok (.iconst 5, 1) := by decide +kernel
theorem dX13_inBrackets_37 : decode cX13_inBrackets 37 = .ok (.if_icmp .ne 32, 3) := by decide +kernel
theorem dX13_inBrackets_40 : decode cX13_inBrackets 40 = .ok (.aload_n 0, 1) := by decide +kernel
theorem dX13_inBrackets_41 : decode cX13_inBrackets 41 = .ok (.getfield 100, 3) := by decide +kernel
theorem dX13_inBrackets_44 : decode cX13_inBrackets 44 = .ok (.aload_n 0, 1) := by decide +kernel
theorem dX13_inBrackets_45 : decode cX13_inBrackets 45 = .ok (.getfield 84, 3) := by decide +kernel
theorem dX13_inBrackets_48 : decode cX13_inBrackets 48 = .ok (.sipush 702, 3) := by decide +kernel
theorem dX13_inBrackets_51 : decode cX13_inBrackets 51 = .ok (.imul, 1) := by decide +kernel
theorem dX13_inBrackets_52 : decode cX13_inBrackets 52 = .ok (.aload_n 0, 1) := by decide +kernel
theorem dX13_inBrackets_53 : decode cX13_inBrackets 53 = .ok (.getfield 135, 3) := by decide +kernel
theorem dX13_inBrackets_56 : decode cX13_inBrackets 56 = .ok (.iadd, 1) := by decide +kernel
theorem dX13_inBrackets_57 : decode cX13_inBrackets 57 = .ok (.iconst 2, 1) := by decide +kernel
theorem dX13_inBrackets_58 : decode cX13_inBrackets 58 = .ok (.iadd, 1) := by decide +kernel
theorem dX13_inBrackets_59 : decode cX13_inBrackets 59 = .ok (.iaload, 1) := by decide +kernel
theorem dX13_inBrackets_60 : decode cX13_inBrackets 60 = .ok (.bipush 41, 2) := by decide +kernel
theorem dX13_inBrackets_62 : decode cX13_inBrackets 62 = .ok (.if_icmp .ne 7, 3) := by decide +kernel
theorem dX13_inBrackets_65 : decode cX13_inBrackets 65 = .ok (.iconst 1, 1) := by decide +kernel
theorem dX13_inBrackets_66 : decode cX13_inBrackets 66 = .ok (.goto 4, 3) := by decide +kernel
theorem dX13_inBrackets_69 : decode cX13_inBrackets 69 = .ok (.iconst 0, 1) := by decide +kernel
theorem dX13_inBrackets_70 : decode cX13_inBrackets 70 = .ok (.istore_n 2, 1) := by decide +kernel
theorem dX13_inBrackets_71 : decode cX13_inBrackets 71 = .ok (.aload_n 0, 1) := by decide +kernel
theorem dX13_inBrackets_72 : decode cX13_inBrackets 72 = .ok (.bipush 40, 2) := by decide +kernel
theorem dX13_inBrackets_74 : decode cX13_inBrackets 74 = .ok (.invokevirtual 325, 3) := by decide +kernel
theorem dX13_inBrackets_77 : decode cX13_inBrackets 77 = .ok (.iload_n 2, 1) := by decide +kernel
theorem dX13_inBrackets_78 : decode cX13_inBrackets 78 = .ok (.ifCond .eq 141, 3) := by decide +kernel
theorem dX13_inBrackets_81 : decode cX13_inBrackets 81 = .ok (.aload_n 0, 1) := by decide +kernel
theorem dX13_inBrackets_82 : decode cX13_inBrackets 82 = .ok (.bipush 10, 2) := by decide +kernel
theorem dX13_inBrackets_84 : decode cX13_inBrackets 84 = .ok (.iload_n 1, 1) := by decide +kernel
theorem dX13_inBrackets_85 : decode cX13_inBrackets 85 = .ok (.invokevirtual 483, 3) := by decide +kernel
theorem dX13_inBrackets_88 : decode cX13_inBrackets 88 = .ok (.istore_n 3, 1) := by decide +kernel
theorem dX13_inBrackets_89 : decode cX13_inBrackets 89 = .ok (.aload_n 0, 1) := by decide +kernel
theorem dX13_inBrackets_90 : decode cX13_inBrackets 90 = .ok (.getfield 188, 3) := by decide +kernel
theorem dX13_inBrackets_93 : decode cX13_inBrackets 93 = .ok (.iload_n 3, 1) := by decide +kernel
theorem dX13_inBrackets_94 : decode cX13_inBrackets 94 = .ok (.aload_n 0, 1) := by decide +kernel
theorem dX13_inBrackets_95 : decode cX13_inBrackets 95 = .ok (.aload_n 0, 1) := by decide +kernel
theorem dX13_inBrackets_96 : decode cX13_inBrackets 96 = .ok (.getfield 135, 3) := by decide +kernel
theorem dX13_inBrackets_99 : decode cX13_inBrackets 99 = .ok (.invokevirtual 141, 3) := by decide +kernel
theorem dX13_inBrackets_102 : decode cX13_inBrackets 102 = .ok (.lastore, 1) := by decide +kernel
theorem dX13_inBrackets_103 : decode cX13_inBrackets 103 = .ok (.aload_n 0, 1) := by decide +kernel
theorem dX13_inBrackets_104 : decode cX13_inBrackets 104 = .ok (.getfield 182, 3) := by decide +kernel
theorem dX13_inBrackets_107 : decode cX13_inBrackets 107 = .ok (.iload_n 3, 1) := by decide +kernel
theorem dX13_inBrackets_108 : decode cX13_inBrackets 108 = .ok (.aload_n 0, 1) := by decide +kernel
theorem dX13_inBrackets_109 : decode cX13_inBrackets 109 = .ok (.aload_n 0, 1) := by decide +kernel
theorem dX13_inBrackets_110 : decode cX13_inBrackets 110 = .ok (.getfield 135, 3) := by decide +kernel
theorem dX13_inBrackets_113 : decode cX13_inBrackets 113 = .ok (.invokevirtual 149, 3) := by decide +kernel
theorem dX13_inBrackets_116 : decode cX13_inBrackets 116 = .ok (.iastore, 1) := by decide +kernel
theorem dX13_inBrackets_117 : decode cX13_inBrackets 117 = .ok (.aload_n 0, 1) := by decide +kernel
theorem dX13_inBrackets_118 : decode cX13_inBrackets 118 = .ok (.invokevirtual 159, 3) := by decide +kernel
theorem dX13_inBrackets_121 : decode cX13_inBrackets 121 = .ok (.aload_n 0, 1) := by decide +kernel
theorem dX13_inBrackets_122 : decode cX13_inBrackets 122 = .ok (.invokevirtual 159, 3) := by decide +kernel
theorem dX13_inBrackets_125 : decode cX13_inBrackets 125 = .ok (.aload_n 0, 1) := by decide +kernel
theorem dX13_inBrackets_126 : decode cX13_inBrackets 126 = .ok (.getfield 129, 3) := by decide +kernel
theorem dX13_inBrackets_129 : decode cX13_inBrackets 129 = .ok (.ifCond .ne 17, 3) := by decide +kernel
theorem dX13_inBrackets_132 : decode cX13_inBrackets 132 = .ok (.aload_n 0, 1) := by decide +kernel
theorem dX13_inBrackets_133 : decode cX13_inBrackets 133 = .ok (.invokevirtual 457, 3) := by decide +kernel
theorem dX13_inBrackets_136 : decode cX13_inBrackets 136 = .ok (.ifCond .ne 10, 3) := by decide +kernel
theorem dX13_inBrackets_139 : decode cX13_inBrackets 139 = .ok (.aload_n 0, 1) := by decide +kernel
theorem dX13_inBrackets_140 : decode cX13_inBrackets 140 = .ok (.invokevirtual 163, 3) := by decide +kernel
theorem dX13_inBrackets_143 : decode cX13_inBrackets 143 = .ok (.goto 32, 3) := by decide +kernel
theorem dX13_inBrackets_146 : decode cX13_inBrackets 146 = .ok (.aload_n 0, 1) := by decide +kernel
theorem dX13_inBrackets_147 : decode cX13_inBrackets 147 = .ok (.getfield 129, 3) := by decide +kernel
theorem dX13_inBrackets_150 : decode cX13_inBrackets 150 = .ok (.ifCond .ne 25, 3) := by decide +kernel
theorem dX13_inBrackets_153 : decode cX13_inBrackets 153 = .ok (.aload_n 0, 1) := by decide +kernel
theorem dX13_inBrackets_154 : decode cX13_inBrackets 154 = .ok (.getfield 227, 3) := by decide +kernel
theorem dX13_inBrackets_157 : decode cX13_inBrackets 157 = .ok (.bipush 12, 2) := by decide +kernel
theorem dX13_inBrackets_159 : decode cX13_inBrackets 159 = .ok (.if_icmp .ne 16, 3) := by decide +kernel
theorem dX13_inBrackets_162 : decode cX13_inBrackets 162 = .ok (.aload_n 0, 1) := by decide +kernel
theorem dX13_inBrackets_163 : decode cX13_inBrackets 163 = .ok (.iconst 3, 1) := by decide +kernel
theorem dX13_inBrackets_164 : decode cX13_inBrackets 164 = .ok (.aload_n 0, 1) := by decide +kernel
theorem dX13_inBrackets_165 : decode cX13_inBrackets 165 = .ok (.aload_n 0, 1) := by decide +kernel
theorem dX13_inBrackets_166 : decode cX13_inBrackets 166 = .ok (.getfield 135, 3) := by decide +kernel
theorem dX13_inBrackets_169 : decode cX13_inBrackets 169 = .ok (.invokevirtual 149, 3) := by decide +kernel
theorem dX13_inBrackets_172 : decode cX13_inBrackets 172 = .ok (.invokevirtual 152, 3) := by decide +kernel
theorem dX13_inBrackets_175 : decode cX13_inBrackets 175 = .ok (.aload_n 0, 1) := by decide +kernel
theorem dX13_inBrackets_176 : decode cX13_inBrackets 176 = .ok (.dup, 1) := by decide +kernel
theorem dX13_inBrackets_177 : decode cX13_inBrackets 177 = .ok (.getfield 227, 3) := by decide +kernel
theorem dX13_inBrackets_180 : decode cX13_inBrackets 180 = .ok (.iconst 1, 1) := by decide +kernel
theorem dX13_inBrackets_181 : decode cX13_inBrackets 181 = .ok (.iadd, 1) := by decide +kernel
theorem dX13_inBrackets_182 : decode cX13_inBrackets 182 = .ok (.putfield 227, 3) := by decide +kernel
theorem dX13_inBrackets_185 : decode cX13_inBrackets 185 = .ok (.aload_n 0, 1) := by decide +kernel
theorem dX13_inBrackets_186 : decode cX13_inBrackets 186 = .ok (.getfield 194, 3) := by decide +kernel
theorem dX13_inBrackets_189 : decode cX13_inBrackets 189 = .ok (.iload_n 3, 1) := by decide +kernel
theorem dX13_inBrackets_190 : decode cX13_inBrackets 190 = .ok (.aload_n 0, 1) := by decide +kernel
theorem dX13_inBrackets_191 : decode cX13_inBrackets 191 = .ok (.getfield 129, 3) := by decide +kernel
theorem dX13_inBrackets_194 : decode cX13_inBrackets 194 = .ok (.ifCond .ne 10, 3) := by decide +kernel
theorem dX13_inBrackets_197 : decode cX13_inBrackets 197 = .ok (.aload_n 0, 1) := by decide +kernel
theorem dX13_inBrackets_198 : decode cX13_inBrackets 198 = .ok (.invokevirtual 508, 3) := by decide +kernel
theorem dX13_inBrackets_201 : decode cX13_inBrackets 201 = .ok (.goto 5, 3) := by decide +kernel
theorem dX13_inBrackets_204 : decode cX13_inBrackets 204 = .ok (.bipush (-2), 2) := by decide +kernel
theorem dX13_inBrackets_206 : decode cX13_inBrackets 206 = .ok (.iastore, 1) := by decide +kernel
theorem dX13_inBrackets_207 : decode cX13_inBrackets 207 = .ok (.aload_n 0, 1) := by decide +kernel
theorem dX13_inBrackets_208 : decode cX13_inBrackets 208 = .ok (.dup, 1) := by decide +kernel
theorem dX13_inBrackets_209 : decode cX13_inBrackets 209 = .ok (.getfield 227, 3) := by decide +kernel
theorem dX13_inBrackets_212 : decode cX13_inBrackets 212 = .ok (.iconst 1, 1) := by decide +kernel
theorem dX13_inBrackets_213 : decode cX13_inBrackets 213 = .ok (.isub, 1) := by decide +kernel
theorem dX13_inBrackets_214 : decode cX13_inBrackets 214 = .ok (.putfield 227, 3) := by decide +kernel
theorem dX13_inBrackets_217 : decode cX13_inBrackets 217 = .ok (.iload_n 3, 1) := by decide +kernel
theorem dX13_inBrackets_218 : decode cX13_inBrackets 218 = .ok (.ireturn, 1) := by decide +kernel
theorem dX13_inBrackets_219 : decode cX13_inBrackets 219 = .ok (.aload_n 0, 1) := by decide +kernel
theorem dX13_inBrackets_220 : decode cX13_inBrackets 220 = .ok (.bipush 11, 2) := by decide +kernel
theorem dX13_inBrackets_222 : decode cX13_inBrackets 222 = .ok (.iload_n 1, 1) := by decide +kernel
theorem dX13_inBrackets_223 : decode cX13_inBrackets 223 = .ok (.invokevirtual 483, 3) := by decide +kernel
theorem dX13_inBrackets_226 : decode cX13_inBrackets 226 = .ok (.istore_n 3, 1) := by decide +kernel
theorem dX13_inBrackets_227 : decode cX13_inBrackets 227 = .ok (.aload_n 0, 1) := by decide +kernel
theorem dX13_inBrackets_228 : decode cX13_inBrackets 228 = .ok (.getfield 194, 3) := by decide +kernel
theorem dX13_inBrackets_231 : decode cX13_inBrackets 231 = .ok (.iload_n 3, 1) := by decide +kernel
theorem dX13_inBrackets_232 : decode cX13_inBrackets 232 = .ok (.aload_n 0, 1) := by decide +kernel
theorem dX13_inBrackets_233 : decode cX13_inBrackets 233 = .ok (.invokevirtual 427, 3) := by decide +kernel
theorem dX13_inBrackets_236 : decode cX13_inBrackets 236 = .ok (.iastore, 1) := by decide +kernel
theorem dX13_inBrackets_237 : decode cX13_inBrackets 237 = .ok (.aload_n 0, 1) := by decide +kernel
theorem dX13_inBrackets_238 : decode cX13_inBrackets 238 = .ok (.bipush 41, 2) := by decide +kernel
theorem dX13_inBrackets_240 : decode cX13_inBrackets 240 = .ok (.invokevirtual 325, 3) := by decide +kernel
theorem dX13_inBrackets_243 : decode cX13_inBrackets 243 = .ok (.iload_n 3, 1) := by decide +kernel
theorem dX13_inBrackets_244 : decode cX13_inBrackets 244 = .ok (.ireturn, 1) := by decide +kernel
theorem dX13_given_0 : decode cX13_given 0 = .ok (.aload_n 0, 1) := by decide +kernel
theorem dX13_given_1 : decode cX13_given 1 = .ok (.getfield 230, 3) := by decide +kernel
theorem dX13_given_4 : decode cX13_given 4 = .ok (.bipush 17, 2) := by decide +kernel
theorem dX13_given_6 : decode cX13_given 6 = .ok (.iconst 2, 1) := by decide +kernel
theorem dX13_given_7 : decode cX13_given 7 = .ok (.iastore, 1) := by decide +kernel
theorem dX13_given_8 : decode cX13_given 8 = .ok (.iconst 0, 1) := by decide +kernel
theorem dX13_given_9 : decode cX13_given 9 = .ok (.istore_n 1, 1) := by decide +kernel
theorem dX13_given_10 : decode cX13_given 10 = .ok (.iload_n 1, 1) := by decide +kernel
theorem dX13_given_11 : decode cX13_given 11 = .ok (.iconst 2, 1) := by decide +kernel
theorem dX13_given_12 : decode cX13_given 12 = .ok (.if_icmp .ge 153, 3) := by decide +kernel
theorem dX13_given_15 : decode cX13_given 15 = .ok (.sipush 204, 3) := by decide +kernel
theorem dX13_given_18 : decode cX13_given 18 = .ok (.iload_n 1, 1) := by decide +kernel
theorem dX13_given_19 : decode cX13_given 19 = .ok (.iadd, 1) := by decide +kernel
theorem dX13_given_20 : decode cX13_given 20 = .ok (.istore_n 2, 1) := by decide +kernel
theorem dX13_given_21 : decode cX13_given 21 = .ok (.aload_n 0, 1) := by decide +kernel
theorem dX13_given_22 : decode cX13_given 22 = .ok (.getfield 256, 3) := by decide +kernel
theorem dX13_given_25 : decode cX13_given 25 = .ok (.iload_n 2, 1) := by decide +kernel
theorem dX13_given_26 : decode cX13_given 26 = .ok (.iload_n 1, 1) := by decide +kernel
theorem dX13_given_27 : decode cX13_given 27 = .ok (.ifCond .ne 9, 3) := by decide +kernel
theorem dX13_given_30 : decode cX13_given 30 = .ok (.ldc2_w 522, 3) := by decide +kernel
theorem dX13_given_33 : decode cX13_given 33 = .ok (.goto 6, 3) := by decide +kernel
theorem dX13_given_36 : decode cX13_given 36 = .ok (.ldc2_w 524, 3) := by decide +kernel
theorem dX13_given_39 : decode cX13_given 39 = .ok (.lastore, 1) := by decide +kernel
theorem dX13_given_40 : decode cX13_given 40 = .ok (.aload_n 0, 1) := by decide +kernel
theorem dX13_given_41 : decode cX13_given 41 = .ok (.getfield 262, 3) := by decide +kernel
theorem dX13_given_44 : decode cX13_given 44 = .ok (.iload_n 2, 1) := by decide +kernel
theorem dX13_given_45 : decode cX13_given 45 = .ok (.iconst 1, 1) := by decide +kernel
theorem dX13_given_46 : decode cX13_given 46 = .ok (.bastore, 1) := by decide +kernel
theorem dX13_given_47 : decode cX13_given 47 = .ok (.aload_n 0, 1) := by decide +kernel
theorem dX13_given_48 : decode cX13_given 48 = .ok (.getfield 266, 3) := by decide +kernel
theorem dX13_given_51 : decode cX13_given 51 = .ok (.iload_n 2, 1) := by decide +kernel
theorem dX13_given_52 : decode cX13_given 52 = .ok (.iconst 0, 1) := by decide +kernel
theorem dX13_given_53 : decode cX13_given 53 = .ok (.iastore, 1) := by decide +kernel
theorem dX13_given_54 : decode cX13_given 54 = .ok (.aload_n 0, 1) := by decide +kernel
theorem dX13_given_55 : decode cX13_given 55 = .ok (.getfield 275, 3) := by decide +kernel
theorem dX13_given_58 : decode cX13_given 58 = .ok (.iload_n 2, 1) := by decide +kernel
theorem dX13_given_59 : decode cX13_given 59 = .ok (.iconst 0, 1) := by decide +kernel
theorem dX13_given_60 : decode cX13_given 60 = .ok (.iastore, 1) := by decide +kernel
theorem dX13_given_61 : decode cX13_given 61 = .ok (.iload_n 1, 1) := by decide +kernel
theorem dX13_given_62 : decode cX13_given 62 = .ok (.iconst 1, 1) := by decide +kernel
theorem dX13_given_63 : decode cX13_given 63 = .ok (.if_icmp .ne 55, 3) := by decide +kernel
theorem dX13_given_66 : decode cX13_given 66 = .ok (.iload_n 2, 1) := by decide +kernel
theorem dX13_given_67 : decode cX13_given 67 = .ok (.bipush 34, 2) := by decide +kernel
theorem dX13_given_69 : decode cX13_given 69 = .ok (.imul, 1) := by decide +kernel
theorem dX13_given_70 : decode cX13_given 70 = .ok (.istore_n 3, 1) := by decide +kernel
theorem dX13_given_71 : decode cX13_given 71 = .ok (.aload_n 0, 1) := by decide +kernel
theorem dX13_given_72 : decode cX13_given 72 = .ok (.iload_n 3, 1) := by decide +kernel
theorem dX13_given_73 : decode cX13_given 73 = .ok (.invokevirtual 396, 3) := by decide +kernel
theorem dX13_given_76 : decode cX13_given 76 = .ok (.aload_n 0, 1) := by decide +kernel
theorem dX13_given_77 : decode cX13_given 77 = .ok (.getfield 402, 3) := by decide +kernel
theorem dX13_given_80 : decode cX13_given 80 = .ok (.iload_n 3, 1) := by decide +kernel
theorem dX13_given_81 : decode cX13_given 81 = .ok (.iconst 0, 1) := by decide +kernel
theorem dX13_given_82 : decode cX13_given 82 = .ok (.iastore, 1) := by decide +kernel
theorem dX13_given_83 : decode cX13_given 83 = .ok (.aload_n 0, 1) := by decide +kernel
theorem dX13_given_84 : decode cX13_given 84 = .ok (.getfield 433, 3) := by decide +kernel
theorem dX13_given_87 : decode cX13_given 87 = .ok (.iload_n 3, 1) := by decide +kernel
theorem dX13_given_88 : decode cX13_given 88 = .ok (.iconst 3, 1) := by decide +kernel
theorem dX13_given_89 : decode cX13_given 89 = .ok (.iastore, 1) := by decide +kernel
theorem dX13_given_90 : decode cX13_given 90 = .ok (.aload_n 0, 1) := by decide +kernel
theorem dX13_given_91 : decode cX13_given 91 = .ok (.getfield 356, 3) := by decide +kernel
theorem dX13_given_94 : decode cX13_given 94 = .ok (.iload_n 3, 1) := by decide +kernel
theorem dX13_given_95 : decode cX13_given 95 = .ok (.ldc_w 526, 3) := by decide +kernel
theorem dX13_given_98 : decode cX13_given 98 = .ok (.invokestatic 145, 3) := by decide +kernel
theorem dX13_given_101 : decode cX13_given 101 = .ok (.lastore, 1) := by decide +kernel
theorem dX13_given_102 : decode cX13_given 102 = .ok (.aload_n 0, 1) := by decide +kernel
theorem dX13_given_103 : decode cX13_given 103 = .ok (.getfield 359, 3) := by decide +kernel
theorem dX13_given_106 : decode cX13_given 106 = .ok (.iload_n 3, 1) := by decide +kernel
theorem dX13_given_107 : decode cX13_given 107 = .ok (.ldc2_w 43, 3) := by decide +kernel
theorem dX13_given_110 : decode cX13_given 110 = .ok (.lastore, 1) := by decide +kernel
theorem dX13_given_111 : decode cX13_given 111 = .ok (.aload_n 0, 1) := by decide +kernel
theorem dX13_given_112 : decode cX13_given 112 = .ok (.getfield 275, 3) := by decide +kernel
theorem dX13_given_115 : decode cX13_given 115 = .ok (.iload_n 2, 1) := by decide +kernel
theorem dX13_given_116 : decode cX13_given 116 = .ok (.iconst 1, 1) := by decide +kernel
theorem dX13_given_117 : decode cX13_given 117 = .ok (.iastore, 1) := by decide +kernel
theorem dX13_given_118 : decode cX13_given 118 = .ok (.iload_n 2, 1) := by decide +kernel
theorem dX13_given_119 : decode cX13_given 119 = .ok (.bipush 34, 2) := by decide +kernel
theorem dX13_given_121 : decode cX13_given 121 = .ok (.imul, 1) := by decide +kernel
theorem dX13_given_122 : decode cX13_given 122 = .ok (.aload_n 0, 1) := by decide +kernel
theorem dX13_given_123 : decode cX13_given 123 = .ok (.getfield 275, 3) := by decide +kernel
theorem dX13_given_126 : decode cX13_given 126 = .ok (.iload_n 2, 1) := by decide +kernel
theorem dX13_given_127 : decode cX13_given 127 = .ok (.iaload, 1) := by decide +kernel
theorem dX13_given_128 : decode cX13_given 128 = .ok (.iadd, 1) := by decide +kernel
theorem dX13_given_129 : decode cX13_given 129 = .ok (.istore_n 3, 1) := by decide +kernel
theorem dX13_given_130 : decode cX13_given 130 = .ok (.aload_n 0, 1) := by decide +kernel
theorem dX13_given_131 : decode cX13_given 131 = .ok (.iload_n 3, 1) := by decide +kernel
theorem dX13_given_132 : decode cX13_given 132 = .ok (.invokevirtual 396, 3) := by decide +kernel
theorem dX13_given_135 : decode cX13_given 135 = .ok (.aload_n 0, 1) := by decide +kernel
theorem dX13_given_136 : decode cX13_given 136 = .ok (.getfield 402, 3) := by decide +kernel
theorem dX13_given_139 : decode cX13_given 139 = .ok (.iload_n 3, 1) := by decide +kernel
theorem dX13_given_140 : decode cX13_given 140 = .ok (.iconst 2, 1) := by decide +kernel
theorem dX13_given_141 : decode cX13_given 141 = .ok (.iastore, 1) := by decide +kernel
theorem dX13_given_142 : decode cX13_given 142 = .ok (.aload_n 0, 1) := by decide +kernel
theorem dX13_given_143 : decode cX13_given 143 = .ok (.getfield 433, 3) := by decide +kernel
theorem dX13_given_146 : decode cX13_given 146 = .ok (.iload_n 3, 1) := by decide +kernel
theorem dX13_given_147 : decode cX13_given 147 = .ok (.iconst 3, 1) := by decide +kernel
theorem dX13_given_148 : decode cX13_given 148 = .ok (.iastore, 1) := by decide +kernel
theorem dX13_given_149 : decode cX13_given 149 = .ok (.aload_n 0, 1) := by decide +kernel
theorem dX13_given_150 : decode cX13_given 150 = .ok (.getfield 275, 3) := by decide +kernel
theorem dX13_given_153 : decode cX13_given 153 = .ok (.iload_n 2, 1) := by decide +kernel
theorem dX13_given_154 : decode cX13_given 154 = .ok (.dup2, 1) := by decide +kernel
theorem dX13_given_155 : decode cX13_given 155 = .ok (.iaload, 1) := by decide +kernel
theorem dX13_given_156 : decode cX13_given 156 = .ok (.iconst 1, 1) := by decide +kernel
theorem dX13_given_157 : decode cX13_given 157 = .ok (.iadd, 1) := by decide +kernel
theorem dX13_given_158 : decode cX13_given 158 = .ok (.iastore, 1) := by decide +kernel
theorem dX13_given_159 : decode cX13_given 159 = .ok (.iinc 1 1, 3) := by decide +kernel
theorem dX13_given_162 : decode cX13_given 162 = .ok (.goto (-152), 3) := by decide +kernel
theorem dX13_given_165 : decode cX13_given 165 = .ok (.aload_n 0, 1) := by decide +kernel
theorem dX13_given_166 : decode cX13_given 166 = .ok (.sipush 7343, 3) := by decide +kernel
theorem dX13_given_169 : decode cX13_given 169 = .ok (.invokevirtual 396, 3) := by decide +kernel
theorem dX13_given_172 : decode cX13_given 172 = .ok (.aload_n 0, 1) := by decide +kernel
theorem dX13_given_173 : decode cX13_given 173 = .ok (.getfield 402, 3) := by decide +kernel
theorem dX13_given_176 : decode cX13_given 176 = .ok (.sipush 7343, 3) := by decide +kernel
theorem dX13_given_179 : decode cX13_given 179 = .ok (.iconst 1, 1) := by decide +kernel
theorem dX13_given_180 : decode cX13_given 180 = .ok (.iastore, 1) := by decide +kernel
theorem dX13_given_181 : decode cX13_given 181 = .ok (.return_, 1) := by decide +kernel
theorem dX13_inSlot_0 : decode cX13_inSlot 0 = .ok (.iconst 0, 1) := by decide +kernel
theorem dX13_inSlot_1 : decode cX13_inSlot 1 = .ok (.istore 4, 2) := by decide +kernel
theorem dX13_inSlot_3 : decode cX13_inSlot 3 = .ok (.iload 4, 2) := by decide +kernel
theorem dX13_inSlot_5 : decode cX13_inSlot 5 = .ok (.aload_n 0, 1) := by decide +kernel
theorem dX13_inSlot_6 : decode cX13_inSlot 6 = .ok (.getfield 230, 3) := by decide +kernel
theorem dX13_inSlot_9 : decode cX13_inSlot 9 = .ok (.iload_n 1, 1) := by decide +kernel
theorem dX13_inSlot_10 : decode cX13_inSlot 10 = .ok (.iaload, 1) := by decide +kernel
theorem dX13_inSlot_11 : decode cX13_inSlot 11 = .ok (.if_icmp .ge 34, 3) := by decide +kernel
theorem dX13_inSlot_14 : decode cX13_inSlot 14 = .ok (.aload_n 0, 1) := by decide +kernel
theorem dX13_inSlot_15 : decode cX13_inSlot 15 = .ok (.getfield 256, 3) := by decide +kernel
theorem dX13_inSlot_18 : decode cX13_inSlot 18 = .ok (.iload_n 1, 1) := by decide +kernel
theorem dX13_inSlot_19 : decode cX13_inSlot 19 = .ok (.bipush 12, 2) := by decide +kernel
theorem dX13_inSlot_21 : decode cX13_inSlot 21 = .ok (.imul, 1) := by decide +kernel
theorem dX13_inSlot_22 : decode cX13_inSlot 22 = .ok (.iload 4, 2) := by decide +kernel
theorem dX13_inSlot_24 : decode cX13_inSlot 24 = .ok (.iadd, 1) := by decide +kernel
theorem dX13_inSlot_25 : decode cX13_inSlot 25 = .ok (.laload, 1) := by decide +kernel
theorem dX13_inSlot_26 : decode cX13_inSlot 26 = .ok (.lload_n 2, 1) := by decide +kernel
theorem dX13_inSlot_27 : decode cX13_inSlot 27 = .ok (.lcmp, 1) := by decide +kernel
theorem dX13_inSlot_28 : decode cX13_inSlot 28 = .ok (.ifCond .ne 11, 3) := by decide +kernel
theorem dX13_inSlot_31 : decode cX13_inSlot 31 = .ok (.iload_n 1, 1) := by decide +kernel
theorem dX13_inSlot_32 : decode cX13_inSlot 32 = .ok (.bipush 12, 2) := by decide +kernel
theorem dX13_inSlot_34 : decode cX13_inSlot 34 = .ok (.imul, 1) := by decide +kernel
theorem dX13_inSlot_35 : decode cX13_inSlot 35 = .ok (.iload 4, 2) := by decide +kernel
theorem dX13_inSlot_37 : decode cX13_inSlot 37 = .ok (.iadd, 1) := by decide +kernel
theorem dX13_inSlot_38 : decode cX13_inSlot 38 = .ok (.ireturn, 1) := by decide +kernel
theorem dX13_inSlot_39 : decode cX13_inSlot 39 = .ok (.iinc 4 1, 3) := by decide +kernel
theorem dX13_inSlot_42 : decode cX13_inSlot 42 = .ok (.goto (-39), 3) := by decide +kernel
theorem dX13_inSlot_45 : decode cX13_inSlot 45 = .ok (.bipush (-2), 2) := by decide +kernel
theorem dX13_inSlot_47 : decode cX13_inSlot 47 = .ok (.ireturn, 1) := by decide +kernel
theorem dX13_find_0 : decode cX13_find 0 = .ok (.aload_n 0, 1) := by decide +kernel
theorem dX13_find_1 : decode cX13_find 1 = .ok (.getfield 528, 3) := by decide +kernel
theorem dX13_find_4 : decode cX13_find 4 = .ok (.bipush (-2), 2) := by decide +kernel
theorem dX13_find_6 : decode cX13_find 6 = .ok (.if_icmp .ne 8, 3) := by decide +kernel
theorem dX13_find_9 : decode cX13_find 9 = .ok (.bipush (-2), 2) := by decide +kernel
theorem dX13_find_11 : decode cX13_find 11 = .ok (.goto 12, 3) := by decide +kernel
theorem dX13_find_14 : decode cX13_find 14 = .ok (.aload_n 0, 1) := by decide +kernel
theorem dX13_find_15 : decode cX13_find 15 = .ok (.aload_n 0, 1) := by decide +kernel
theorem dX13_find_16 : decode cX13_find 16 = .ok (.getfield 528, 3) := by decide +kernel
theorem dX13_find_19 : decode cX13_find 19 = .ok (.lload_n 1, 1) := by decide +kernel
theorem dX13_find_20 : decode cX13_find 20 = .ok (.invokevirtual 531, 3) := by decide +kernel
theorem dX13_find_23 : decode cX13_find 23 = .ok (.istore_n 3, 1) := by decide +kernel
theorem dX13_find_24 : decode cX13_find 24 = .ok (.iload_n 3, 1) := by decide +kernel
theorem dX13_find_25 : decode cX13_find 25 = .ok (.bipush (-2), 2) := by decide +kernel
theorem dX13_find_27 : decode cX13_find 27 = .ok (.if_icmp .ne 37, 3) := by decide +kernel
theorem dX13_find_30 : decode cX13_find 30 = .ok (.lload_n 1, 1) := by decide +kernel
theorem dX13_find_31 : decode cX13_find 31 = .ok (.ldc2_w 522, 3) := by decide +kernel
theorem dX13_find_34 : decode cX13_find 34 = .ok (.lcmp, 1) := by decide +kernel
theorem dX13_find_35 : decode cX13_find 35 = .ok (.ifCond .eq 11, 3) := by decide +kernel
theorem dX13_find_38 : decode cX13_find 38 = .ok (.lload_n 1, 1) := by decide +kernel
theorem dX13_find_39 : decode cX13_find 39 = .ok (.ldc2_w 524, 3) := by decide +kernel
theorem dX13_find_42 : decode cX13_find 42 = .ok (.lcmp, 1) := by decide +kernel
theorem dX13_find_43 : decode cX13_find 43 = .ok (.ifCond .ne 21, 3) := by decide +kernel
theorem dX13_find_46 : decode cX13_find 46 = .ok (.lload_n 1, 1) := by decide +kernel
theorem dX13_find_47 : decode cX13_find 47 = .ok (.ldc2_w 522, 3) := by decide +kernel
theorem dX13_find_50 : decode cX13_find 50 = .ok (.lcmp, 1) := by decide +kernel
theorem dX13_find_51 : decode cX13_find 51 = .ok (.ifCond .ne 9, 3) := by decide +kernel
theorem dX13_find_54 : decode cX13_find 54 = .ok (.sipush 204, 3) := by decide +kernel
theorem dX13_find_57 : decode cX13_find 57 = .ok (.goto 6, 3) := by decide +kernel
theorem dX13_find_60 : decode cX13_find 60 = .ok (.sipush 205, 3) := by decide +kernel
theorem dX13_find_63 : decode cX13_find 63 = .ok (.ireturn, 1) := by decide +kernel
theorem dX13_find_64 : decode cX13_find 64 = .ok (.iconst 0, 1) := by decide +kernel
theorem dX13_find_65 : decode cX13_find 65 = .ok (.istore 4, 2) := by decide +kernel
theorem dX13_find_67 : decode cX13_find 67 = .ok (.iload 4, 2) := by decide +kernel
theorem dX13_find_69 : decode cX13_find 69 = .ok (.iconst 5, 1) := by decide +kernel
theorem dX13_find_70 : decode cX13_find 70 = .ok (.if_icmp .ge 80, 3) := by decide +kernel
theorem dX13_find_73 : decode cX13_find 73 = .ok (.iload_n 3, 1) := by decide +kernel
theorem dX13_find_74 : decode cX13_find 74 = .ok (.bipush (-2), 2) := by decide +kernel
theorem dX13_find_76 : decode cX13_find 76 = .ok (.if_icmp .ne 74, 3) := by decide +kernel
theorem dX13_find_79 : decode cX13_find 79 = .ok (.aload_n 0, 1) := by decide +kernel
theorem dX13_find_80 : decode cX13_find 80 = .ok (.getfield 535, 3) := by decide +kernel
theorem dX13_find_83 : decode cX13_find 83 = .ok (.iload 4, 2) := by decide +kernel
theorem dX13_find_85 : decode cX13_find 85 = .ok (.iaload, 1) := by decide +kernel
theorem dX13_find_86 : decode cX13_find 86 = .ok (.bipush (-2), 2) := by decide +kernel
theorem dX13_find_88 : decode cX13_find 88 = .ok (.if_icmp .eq 30, 3) := by decide +kernel
theorem dX13_find_91 : decode cX13_find 91 = .ok (.aload_n 0, 1) := by decide +kernel
theorem dX13_find_92 : decode cX13_find 92 = .ok (.getfield 528, 3) := by decide +kernel
theorem dX13_find_95 : decode cX13_find 95 = .ok (.bipush (-2), 2) := by decide +kernel
theorem dX13_find_97 : decode cX13_find 97 = .ok (.if_icmp .eq 17, 3) := by decide +kernel
theorem dX13_find_100 : decode cX13_find 100 = .ok (.iload 4, 2) := by decide +kernel
theorem dX13_find_102 : decode cX13_find 102 = .ok (.aload_n 0, 1) := by decide +kernel
theorem dX13_find_103 : decode cX13_find 103 = .ok (.getfield 538, 3) := by decide +kernel
theorem dX13_find_106 : decode cX13_find 106 = .ok (.aload_n 0, 1) := by decide +kernel
theorem dX13_find_107 : decode cX13_find 107 = .ok (.getfield 528, 3) := by decide +kernel
theorem dX13_find_110 : decode cX13_find 110 = .ok (.iaload, 1) := by decide +kernel
theorem dX13_find_111 : decode cX13_find 111 = .ok (.if_icmp .eq 7, 3) := by decide +kernel
theorem dX13_find_114 : decode cX13_find 114 = .ok (.iconst 1, 1) := by decide +kernel
theorem dX13_find_115 : decode cX13_find 115 = .ok (.goto 4, 3) := by decide +kernel
theorem dX13_find_118 : decode cX13_find 118 = .ok (.iconst 0, 1) := by decide +kernel
theorem dX13_find_119 : decode cX13_find 119 = .ok (.istore 5, 2) := by decide +kernel
theorem dX13_find_121 : decode cX13_find 121 = .ok (.iload 5, 2) := by decide +kernel
theorem dX13_find_123 : decode cX13_find 123 = .ok (.ifCond .eq 18, 3) := by decide +kernel
theorem dX13_find_126 : decode cX13_find 126 = .ok (.aload_n 0, 1) := by decide +kernel

theorem dX12_countBroken_4 : decode cX12_countBroken 4 = .ok (.istore 5, 2) := by decide +kernel
theorem dX12_countBroken_6 : decode cX12_countBroken 6 = .ok (.iload 5, 2) := by decide +kernel
theorem dX12_countBroken_8 : decode cX12_countBroken 8 = .ok (.iconst 5, 1) := by decide +kernel
theorem dX12_countBroken_9 : decode cX12_countBroken 9 = .ok (.if_icmp .ge 214, 3) := by decide +kernel
theorem dX12_countBroken_12 : decode cX12_countBroken 12 = .ok (.aload_n 0, 1) := by decide +kernel
theorem dX12_countBroken_13 : decode cX12_countBroken 13 = .ok (.iload 5, 2) := by decide +kernel
theorem dX12_countBroken_15 : decode cX12_countBroken 15 = .ok (.aload_n 2, 1) := by decide +kernel
theorem dX12_countBroken_16 : decode cX12_countBroken 16 = .ok (.iload 5, 2) := by decide +kernel
theorem dX12_countBroken_18 : decode cX12_countBroken 18 = .ok (.iaload, 1) := by decide +kernel
theorem dX12_countBroken_19 : decode cX12_countBroken 19 = .ok (.invokevirtual 139, 3) := by decide +kernel
theorem dX12_countBroken_22 : decode cX12_countBroken 22 = .ok (.astore 6, 2) := by decide +kernel
theorem dX12_countBroken_24 : decode cX12_countBroken 24 = .ok (.iconst 0, 1) := by decide +kernel
theorem dX12_countBroken_25 : decode cX12_countBroken 25 = .ok (.istore 7, 2) := by decide +kernel
theorem dX12_countBroken_27 : decode cX12_countBroken 27 = .ok (.aload 6, 2) := by decide +kernel
theorem dX12_countBroken_29 : decode cX12_countBroken 29 = .ok (.ifnull 188, 3) := by decide +kernel
theorem dX12_countBroken_217 : decode cX12_countBroken 217 = .ok (.iinc 5 1, 3) := by decide +kernel
theorem dX12_countBroken_220 : decode cX12_countBroken 220 = .ok (.goto (-214), 3) := by decide +kernel
theorem dX12_countBroken_223 : decode cX12_countBroken 223 = .ok (.iload 4, 2) := by decide +kernel
theorem dX12_countBroken_225 : decode cX12_countBroken 225 = .ok (.ireturn, 1) := by decide +kernel
theorem dX12_brokenAt_0 : decode cX12_brokenAt 0 = .ok (.iload_n 1, 1) := by decide +kernel
theorem dX12_brokenAt_1 : decode cX12_brokenAt 1 = .ok (.ifCond .lt 20, 3) := by decide +kernel
theorem dX12_brokenAt_4 : decode cX12_brokenAt 4 = .ok (.iload_n 1, 1) := by decide +kernel
theorem dX12_brokenAt_5 : decode cX12_brokenAt 5 = .ok (.aload_n 0, 1) := by decide +kernel
theorem dX12_brokenAt_6 : decode cX12_brokenAt 6 = .ok (.getfield 227, 3) := by decide +kernel
theorem dX12_brokenAt_9 : decode cX12_brokenAt 9 = .ok (.if_icmp .ge 12, 3) := by decide +kernel
theorem dX12_brokenAt_21 : decode cX12_brokenAt 21 = .ok (.iconst (-1), 1) := by decide +kernel
theorem dX12_brokenAt_22 : decode cX12_brokenAt 22 = .ok (.goto 13, 3) := by decide +kernel
theorem dX12_brokenAt_35 : decode cX12_brokenAt 35 = .ok (.ireturn, 1) := by decide +kernel
theorem dX12_stale_0 : decode cX12_stale 0 = .ok (.iconst 0, 1) := by decide +kernel
theorem dX12_stale_1 : decode cX12_stale 1 = .ok (.istore_n 1, 1) := by decide +kernel
theorem dX12_stale_2 : decode cX12_stale 2 = .ok (.aload_n 0, 1) := by decide +kernel
theorem dX12_stale_3 : decode cX12_stale 3 = .ok (.getfield 83, 3) := by decide +kernel
theorem dX12_stale_6 : decode cX12_stale 6 = .ok (.aload_n 0, 1) := by decide +kernel
theorem dX12_stale_7 : decode cX12_stale 7 = .ok (.getfield 67, 3) := by decide +kernel
theorem dX12_stale_10 : decode cX12_stale 10 = .ok (.invokevirtual 453, 3) := by decide +kernel
theorem dX12_stale_13 : decode cX12_stale 13 = .ok (.iconst 0, 1) := by decide +kernel
theorem dX12_stale_14 : decode cX12_stale 14 = .ok (.istore_n 2, 1) := by decide +kernel
theorem dX12_stale_15 : decode cX12_stale 15 = .ok (.iload_n 2, 1) := by decide +kernel
theorem dX12_stale_16 : decode cX12_stale 16 = .ok (.iconst 5, 1) := by decide +kernel
theorem dX12_stale_17 : decode cX12_stale 17 = .ok (.if_icmp .ge 116, 3) := by decide +kernel
theorem dX12_stale_20 : decode cX12_stale 20 = .ok (.aload_n 0, 1) := by decide +kernel
theorem dX12_stale_21 : decode cX12_stale 21 = .ok (.iload_n 2, 1) := by decide +kernel
theorem dX12_stale_22 : decode cX12_stale 22 = .ok (.aload_n 0, 1) := by decide +kernel
theorem dX12_stale_23 : decode cX12_stale 23 = .ok (.getfield 26, 3) := by decide +kernel
theorem dX12_stale_26 : decode cX12_stale 26 = .ok (.iload_n 2, 1) := by decide +kernel
theorem dX12_stale_27 : decode cX12_stale 27 = .ok (.iaload, 1) := by decide +kernel
theorem dX12_stale_28 : decode cX12_stale 28 = .ok (.invokevirtual 139, 3) := by decide +kernel
theorem dX12_stale_31 : decode cX12_stale 31 = .ok (.astore_n 3, 1) := by decide +kernel
theorem dX12_stale_32 : decode cX12_stale 32 = .ok (.iconst 0, 1) := by decide +kernel
theorem dX12_stale_33 : decode cX12_stale 33 = .ok (.istore 4, 2) := by decide +kernel
theorem dX12_stale_35 : decode cX12_stale 35 = .ok (.aload_n 3, 1) := by decide +kernel
theorem dX12_stale_36 : decode cX12_stale 36 = .ok (.ifnull 91, 3) := by decide +kernel
theorem dX12_stale_127 : decode cX12_stale 127 = .ok (.iinc 2 1, 3) := by decide +kernel
theorem dX12_stale_130 : decode cX12_stale 130 = .ok (.goto (-115), 3) := by decide +kernel
theorem dX12_stale_133 : decode cX12_stale 133 = .ok (.iload_n 1, 1) := by decide +kernel
theorem dX12_stale_134 : decode cX12_stale 134 = .ok (.ireturn, 1) := by decide +kernel
theorem dX12_choose_0 : decode cX12_choose 0 = .ok (.iconst 1, 1) := by decide +kernel
theorem dX12_choose_1 : decode cX12_choose 1 = .ok (.istore_n 1, 1) := by decide +kernel
theorem dX12_choose_2 : decode cX12_choose 2 = .ok (.iconst 0, 1) := by decide +kernel
theorem dX12_choose_3 : decode cX12_choose 3 = .ok (.istore_n 2, 1) := by decide +kernel
theorem dX12_choose_4 : decode cX12_choose 4 = .ok (.iload_n 2, 1) := by decide +kernel
theorem dX12_choose_5 : decode cX12_choose 5 = .ok (.iconst 5, 1) := by decide +kernel
theorem dX12_choose_6 : decode cX12_choose 6 = .ok (.if_icmp .ge 33, 3) := by decide +kernel
theorem dX12_choose_9 : decode cX12_choose 9 = .ok (.aload_n 0, 1) := by decide +kernel
theorem dX12_choose_10 : decode cX12_choose 10 = .ok (.getfield 29, 3) := by decide +kernel
theorem dX12_choose_13 : decode cX12_choose 13 = .ok (.iload_n 2, 1) := by decide +kernel
theorem dX12_choose_14 : decode cX12_choose 14 = .ok (.aload_n 0, 1) := by decide +kernel
theorem dX12_choose_15 : decode cX12_choose 15 = .ok (.iload_n 2, 1) := by decide +kernel
theorem dX12_choose_16 : decode cX12_choose 16 = .ok (.invokevirtual 492, 3) := by decide +kernel
theorem dX12_choose_19 : decode cX12_choose 19 = .ok (.iastore, 1) := by decide +kernel
theorem dX12_choose_20 : decode cX12_choose 20 = .ok (.iload_n 1, 1) := by decide +kernel
theorem dX12_choose_21 : decode cX12_choose 21 = .ok (.aload_n 0, 1) := by decide +kernel
theorem dX12_choose_22 : decode cX12_choose 22 = .ok (.getfield 22, 3) := by decide +kernel
theorem dX12_choose_25 : decode cX12_choose 25 = .ok (.iload_n 2, 1) := by decide +kernel
theorem dX12_choose_26 : decode cX12_choose 26 = .ok (.iaload, 1) := by decide +kernel
theorem dX12_choose_27 : decode cX12_choose 27 = .ok (.iconst 1, 1) := by decide +kernel
theorem dX12_choose_28 : decode cX12_choose 28 = .ok (.invokestatic 495, 3) := by decide +kernel
theorem dX12_choose_31 : decode cX12_choose 31 = .ok (.imul, 1) := by decide +kernel
theorem dX12_choose_32 : decode cX12_choose 32 = .ok (.istore_n 1, 1) := by decide +kernel
theorem dX12_choose_33 : decode cX12_choose 33 = .ok (.iinc 2 1, 3) := by decide +kernel
theorem dX12_choose_36 : decode cX12_choose 36 = .ok (.goto (-32), 3) := by decide +kernel
theorem dX12_choose_39 : decode cX12_choose 39 = .ok (.iconst 1, 1) := by decide +kernel
theorem dX12_choose_40 : decode cX12_choose 40 = .ok (.istore_n 2, 1) := by decide +kernel
theorem dX12_choose_41 : decode cX12_choose 41 = .ok (.iload_n 2, 1) := by decide +kernel
theorem dX12_choose_42 : decode cX12_choose 42 = .ok (.iload_n 1, 1) := by decide +kernel
theorem dX12_choose_43 : decode cX12_choose 43 = .ok (.if_icmp .gt 61, 3) := by decide +kernel
theorem dX12_choose_46 : decode cX12_choose 46 = .ok (.aload_n 0, 1) := by decide +kernel
theorem dX12_choose_47 : decode cX12_choose 47 = .ok (.aload_n 0, 1) := by decide +kernel
theorem dX12_choose_48 : decode cX12_choose 48 = .ok (.getfield 71, 3) := by decide +kernel
theorem dX12_choose_51 : decode cX12_choose 51 = .ok (.aload_n 0, 1) := by decide +kernel
theorem dX12_choose_52 : decode cX12_choose 52 = .ok (.getfield 29, 3) := by decide +kernel
theorem dX12_choose_55 : decode cX12_choose 55 = .ok (.invokevirtual 112, 3) := by decide +kernel
theorem dX12_choose_58 : decode cX12_choose 58 = .ok (.aload_n 0, 1) := by decide +kernel
theorem dX12_choose_59 : decode cX12_choose 59 = .ok (.aload_n 0, 1) := by decide +kernel
theorem dX12_choose_60 : decode cX12_choose 60 = .ok (.getfield 71, 3) := by decide +kernel
theorem dX12_choose_63 : decode cX12_choose 63 = .ok (.aload_n 0, 1) := by decide +kernel
theorem dX12_choose_64 : decode cX12_choose 64 = .ok (.getfield 29, 3) := by decide +kernel
theorem dX12_choose_67 : decode cX12_choose 67 = .ok (.iconst 0, 1) := by decide +kernel
theorem dX12_choose_68 : decode cX12_choose 68 = .ok (.invokevirtual 473, 3) := by decide +kernel
theorem dX12_choose_71 : decode cX12_choose 71 = .ok (.ifCond .ne 23, 3) := by decide +kernel
theorem dX12_choose_74 : decode cX12_choose 74 = .ok (.aload_n 0, 1) := by decide +kernel
theorem dX12_choose_75 : decode cX12_choose 75 = .ok (.getfield 29, 3) := by decide +kernel
theorem dX12_choose_78 : decode cX12_choose 78 = .ok (.iconst 0, 1) := by decide +kernel
theorem dX12_choose_79 : decode cX12_choose 79 = .ok (.aload_n 0, 1) := by decide +kernel
theorem dX12_choose_80 : decode cX12_choose 80 = .ok (.getfield 26, 3) := by decide +kernel
theorem dX12_choose_83 : decode cX12_choose 83 = .ok (.iconst 0, 1) := by decide +kernel
theorem dX12_choose_84 : decode cX12_choose 84 = .ok (.iconst 5, 1) := by decide +kernel
theorem dX12_choose_85 : decode cX12_choose 85 = .ok (.invokestatic 133, 3) := by decide +kernel
theorem dX12_choose_88 : decode cX12_choose 88 = .ok (.aload_n 0, 1) := by decide +kernel
theorem dX12_choose_89 : decode cX12_choose 89 = .ok (.invokevirtual 224, 3) := by decide +kernel
theorem dX12_choose_92 : decode cX12_choose 92 = .ok (.iload_n 2, 1) := by decide +kernel
theorem dX12_choose_93 : decode cX12_choose 93 = .ok (.ireturn, 1) := by decide +kernel
theorem dX12_greatest_0 : decode cX12_greatest 0 = .ok (.aload_n 0, 1) := by decide +kernel
theorem dX12_greatest_1 : decode cX12_greatest 1 = .ok (.getfield 22, 3) := by decide +kernel
theorem dX12_greatest_4 : decode cX12_greatest 4 = .ok (.iload_n 1, 1) := by decide +kernel
theorem dX12_greatest_5 : decode cX12_greatest 5 = .ok (.iaload, 1) := by decide +kernel
theorem dX12_greatest_6 : decode cX12_greatest 6 = .ok (.ifCond .ne 8, 3) := by decide +kernel
theorem dX12_greatest_9 : decode cX12_greatest 9 = .ok (.bipush (-2), 2) := by decide +kernel
theorem dX12_greatest_11 : decode cX12_greatest 11 = .ok (.goto 11, 3) := by decide +kernel
theorem dX12_greatest_22 : decode cX12_greatest 22 = .ok (.ireturn, 1) := by decide +kernel
theorem dX12_differ_0 : decode cX12_differ 0 = .ok (.aload_n 0, 1) := by decide +kernel
theorem dX12_differ_1 : decode cX12_differ 1 = .ok (.iload_n 1, 1) := by decide +kernel
theorem dX12_differ_2 : decode cX12_differ 2 = .ok (.iload_n 2, 1) := by decide +kernel
theorem dX12_differ_3 : decode cX12_differ 3 = .ok (.invokevirtual 139, 3) := by decide +kernel
theorem dX12_differ_6 : decode cX12_differ 6 = .ok (.astore 4, 2) := by decide +kernel
theorem dX12_differ_8 : decode cX12_differ 8 = .ok (.aload_n 0, 1) := by decide +kernel
theorem dX12_differ_9 : decode cX12_differ 9 = .ok (.iload_n 1, 1) := by decide +kernel
theorem dX12_differ_10 : decode cX12_differ 10 = .ok (.iload_n 3, 1) := by decide +kernel
theorem dX12_differ_11 : decode cX12_differ 11 = .ok (.invokevirtual 139, 3) := by decide +kernel
theorem dX12_differ_14 : decode cX12_differ 14 = .ok (.astore 5, 2) := by decide +kernel
theorem dX12_differ_16 : decode cX12_differ 16 = .ok (.aload 4, 2) := by decide +kernel
theorem dX12_differ_18 : decode cX12_differ 18 = .ok (.ifnull 8, 3) := by decide +kernel
theorem dX12_differ_26 : decode cX12_differ 26 = .ok (.iconst (-1), 1) := by decide +kernel
theorem dX12_differ_27 : decode cX12_differ 27 = .ok (.goto 15, 3) := by decide +kernel
theorem dX12_differ_42 : decode cX12_differ 42 = .ok (.ireturn, 1) := by decide +kernel
theorem dX12_change_0 : decode cX12_change 0 = .ok (.iload_n 1, 1) := by decide +kernel
theorem dX12_change_1 : decode cX12_change 1 = .ok (.ifCond .lt 23, 3) := by decide +kernel
theorem dX12_change_4 : decode cX12_change 4 = .ok (.iload_n 1, 1) := by decide +kernel
theorem dX12_change_5 : decode cX12_change 5 = .ok (.aload_n 0, 1) := by decide +kernel
theorem dX12_change_6 : decode cX12_change 6 = .ok (.getfield 92, 3) := by decide +kernel
theorem dX12_change_9 : decode cX12_change 9 = .ok (.getfield 505, 3) := by decide +kernel
theorem dX12_change_12 : decode cX12_change 12 = .ok (.if_icmp .ge 12, 3) := by decide +kernel
theorem dX12_change_24 : decode cX12_change 24 = .ok (.iconst (-1), 1) := by decide +kernel
theorem dX12_change_25 : decode cX12_change 25 = .ok (.goto 16, 3) := by decide +kernel
theorem dX12_change_41 : decode cX12_change 41 = .ok (.ireturn, 1) := by decide +kernel
theorem dX12_word_0 : decode cX12_word 0 = .ok (.aload_n 0, 1) := by decide +kernel
theorem dX12_word_1 : decode cX12_word 1 = .ok (.iload_n 1, 1) := by decide +kernel
theorem dX12_word_2 : decode cX12_word 2 = .ok (.iload_n 2, 1) := by decide +kernel
theorem dX12_word_3 : decode cX12_word 3 = .ok (.invokevirtual 139, 3) := by decide +kernel
theorem dX12_word_6 : decode cX12_word 6 = .ok (.astore 4, 2) := by decide +kernel
theorem dX12_word_8 : decode cX12_word 8 = .ok (.aload_n 0, 1) := by decide +kernel
theorem dX12_word_9 : decode cX12_word 9 = .ok (.iload_n 1, 1) := by decide +kernel
theorem dX12_word_10 : decode cX12_word 10 = .ok (.iload_n 3, 1) := by decide +kernel
theorem dX12_word_11 : decode cX12_word 11 = .ok (.invokevirtual 139, 3) := by decide +kernel
theorem dX12_word_14 : decode cX12_word 14 = .ok (.astore 5, 2) := by decide +kernel
theorem dX12_word_16 : decode cX12_word 16 = .ok (.aload 4, 2) := by decide +kernel
theorem dX12_word_18 : decode cX12_word 18 = .ok (.ifnull 8, 3) := by decide +kernel
theorem dX12_word_26 : decode cX12_word 26 = .ok (.iconst (-1), 1) := by decide +kernel
theorem dX12_word_27 : decode cX12_word 27 = .ok (.ireturn, 1) := by decide +kernel
theorem dX12_weave_0 : decode cX12_weave 0 = .ok (.aload_n 0, 1) := by decide +kernel
theorem dX12_weave_1 : decode cX12_weave 1 = .ok (.iload_n 1, 1) := by decide +kernel
theorem dX12_weave_2 : decode cX12_weave 2 = .ok (.iload_n 2, 1) := by decide +kernel
theorem dX12_weave_3 : decode cX12_weave 3 = .ok (.invokevirtual 139, 3) := by decide +kernel
theorem dX12_weave_6 : decode cX12_weave 6 = .ok (.astore 4, 2) := by decide +kernel
theorem dX12_weave_8 : decode cX12_weave 8 = .ok (.aload_n 0, 1) := by decide +kernel
theorem dX12_weave_9 : decode cX12_weave 9 = .ok (.iload_n 1, 1) := by decide +kernel
theorem dX12_weave_10 : decode cX12_weave 10 = .ok (.iload_n 3, 1) := by decide +kernel
theorem dX12_weave_11 : decode cX12_weave 11 = .ok (.invokevirtual 139, 3) := by decide +kernel
theorem dX12_weave_14 : decode cX12_weave 14 = .ok (.astore 5, 2) := by decide +kernel
theorem dX12_weave_16 : decode cX12_weave 16 = .ok (.aload 4, 2) := by decide +kernel
theorem dX12_weave_18 : decode cX12_weave 18 = .ok (.ifnull 8, 3) := by decide +kernel
theorem dX12_weave_26 : decode cX12_weave 26 = .ok (.iconst (-1), 1) := by decide +kernel
theorem dX12_weave_27 : decode cX12_weave 27 = .ok (.ireturn, 1) := by decide +kernel
theorem dX12_fresh_0 : decode cX12_fresh 0 = .ok (.iconst 0, 1) := by decide +kernel
theorem dX12_fresh_1 : decode cX12_fresh 1 = .ok (.istore_n 1, 1) := by decide +kernel
theorem dX12_fresh_2 : decode cX12_fresh 2 = .ok (.iconst 2, 1) := by decide +kernel
theorem dX12_fresh_3 : decode cX12_fresh 3 = .ok (.istore_n 2, 1) := by decide +kernel
theorem dX12_fresh_4 : decode cX12_fresh 4 = .ok (.iload_n 2, 1) := by decide +kernel
theorem dX12_fresh_5 : decode cX12_fresh 5 = .ok (.aload_n 0, 1) := by decide +kernel
theorem dX12_fresh_6 : decode cX12_fresh 6 = .ok (.getfield 67, 3) := by decide +kernel
theorem dX12_fresh_9 : decode cX12_fresh 9 = .ok (.getfield 556, 3) := by decide +kernel
theorem dX12_fresh_12 : decode cX12_fresh 12 = .ok (.if_icmp .ge 31, 3) := by decide +kernel
theorem dX12_fresh_43 : decode cX12_fresh 43 = .ok (.aload_n 0, 1) := by decide +kernel
theorem dX12_fresh_44 : decode cX12_fresh 44 = .ok (.getfield 99, 3) := by decide +kernel
theorem dX12_fresh_47 : decode cX12_fresh 47 = .ok (.aload_n 0, 1) := by decide +kernel
theorem dX12_fresh_48 : decode cX12_fresh 48 = .ok (.getfield 67, 3) := by decide +kernel
theorem dX12_fresh_51 : decode cX12_fresh 51 = .ok (.invokevirtual 116, 3) := by decide +kernel
theorem dX12_fresh_54 : decode cX12_fresh 54 = .ok (.iload_n 1, 1) := by decide +kernel
theorem dX12_fresh_55 : decode cX12_fresh 55 = .ok (.ireturn, 1) := by decide +kernel
theorem dX12_touch_0 : decode cX12_touch 0 = .ok (.aload_n 0, 1) := by decide +kernel
theorem dX12_touch_1 : decode cX12_touch 1 = .ok (.iload_n 1, 1) := by decide +kernel
theorem dX12_touch_2 : decode cX12_touch 2 = .ok (.iload_n 2, 1) := by decide +kernel
theorem dX12_touch_3 : decode cX12_touch 3 = .ok (.invokevirtual 139, 3) := by decide +kernel
theorem dX12_touch_6 : decode cX12_touch 6 = .ok (.iload_n 3, 1) := by decide +kernel
theorem dX12_touch_7 : decode cX12_touch 7 = .ok (.invokestatic 417, 3) := by decide +kernel
theorem dX12_touch_10 : decode cX12_touch 10 = .ok (.ifCond .ne 5, 3) := by decide +kernel
theorem dX12_touch_13 : decode cX12_touch 13 = .ok (.iconst (-1), 1) := by decide +kernel
theorem dX12_touch_14 : decode cX12_touch 14 = .ok (.ireturn, 1) := by decide +kernel
theorem dX12_run_0 : decode cX12_run 0 = .ok (.aload_n 0, 1) := by decide +kernel
theorem dX12_run_1 : decode cX12_run 1 = .ok (.getfield 35, 3) := by decide +kernel
theorem dX12_run_4 : decode cX12_run 4 = .ok (.aload_n 0, 1) := by decide +kernel
theorem dX12_run_5 : decode cX12_run 5 = .ok (.getfield 9, 3) := by decide +kernel
theorem dX12_run_8 : decode cX12_run 8 = .ok (.aload_n 0, 1) := by decide +kernel
theorem dX12_run_9 : decode cX12_run 9 = .ok (.getfield 120, 3) := by decide +kernel
theorem dX12_run_12 : decode cX12_run 12 = .ok (.invokevirtual 563, 3) := by decide +kernel
theorem dX12_run_15 : decode cX12_run 15 = .ok (.istore_n 1, 1) := by decide +kernel
theorem dX12_run_16 : decode cX12_run 16 = .ok (.aload_n 0, 1) := by decide +kernel
theorem dX12_run_17 : decode cX12_run 17 = .ok (.iconst 0, 1) := by decide +kernel
theorem dX12_run_18 : decode cX12_run 18 = .ok (.putfield 120, 3) := by decide +kernel
theorem dX12_run_21 : decode cX12_run 21 = .ok (.iload_n 1, 1) := by decide +kernel
theorem dX12_run_22 : decode cX12_run 22 = .ok (.ifCond .eq 22, 3) := by decide +kernel
theorem dX12_run_44 : decode cX12_run 44 = .ok (.bipush (-2), 2) := by decide +kernel
theorem dX12_run_46 : decode cX12_run 46 = .ok (.istore_n 2, 1) := by decide +kernel
theorem dX12_run_47 : decode cX12_run 47 = .ok (.iload_n 2, 1) := by decide +kernel
theorem dX12_run_48 : decode cX12_run 48 = .ok (.ifCond .ge 7, 3) := by decide +kernel
theorem dX12_run_51 : decode cX12_run 51 = .ok (.aconst_null, 1) := by decide +kernel
theorem dX12_run_52 : decode cX12_run 52 = .ok (.goto 24, 3) := by decide +kernel
theorem dX12_run_76 : decode cX12_run 76 = .ok (.astore_n 3, 1) := by decide +kernel
theorem dX12_run_77 : decode cX12_run 77 = .ok (.aload_n 3, 1) := by decide +kernel
theorem dX12_run_78 : decode cX12_run 78 = .ok (.ifnonnull 6, 3) := by decide +kernel
theorem dX12_run_81 : decode cX12_run 81 = .ok (.bipush (-2), 2) := by decide +kernel
theorem dX12_run_83 : decode cX12_run 83 = .ok (.ireturn, 1) := by decide +kernel
theorem dX12_value_0 : decode cX12_value 0 = .ok (.aload_n 0, 1) := by decide +kernel
theorem dX12_value_1 : decode cX12_value 1 = .ok (.getfield 99, 3) := by decide +kernel
theorem dX12_value_4 : decode cX12_value 4 = .ok (.getfield 589, 3) := by decide +kernel
theorem dX12_value_7 : decode cX12_value 7 = .ok (.ifCond .ne 13, 3) := by decide +kernel
theorem dX12_value_10 : decode cX12_value 10 = .ok (.aload_n 0, 1) := by decide +kernel
theorem dX12_value_11 : decode cX12_value 11 = .ok (.getfield 99, 3) := by decide +kernel
theorem dX12_value_14 : decode cX12_value 14 = .ok (.getfield 595, 3) := by decide +kernel
theorem dX12_value_17 : decode cX12_value 17 = .ok (.goto 10, 3) := by decide +kernel
theorem dX12_value_27 : decode cX12_value 27 = .ok (.ireturn, 1) := by decide +kernel
theorem dX12_told_0 : decode cX12_told 0 = .ok (.iload_n 1, 1) := by decide +kernel
theorem dX12_told_1 : decode cX12_told 1 = .ok (.tableswitch 108 0 7 #[47, 55, 63, 71, 79, 90, 98, 103], 47) := by decide +kernel
theorem dX12_told_48 : decode cX12_told 48 = .ok (.aload_n 0, 1) := by decide +kernel
theorem dX12_told_49 : decode cX12_told 49 = .ok (.getfield 99, 3) := by decide +kernel
theorem dX12_told_52 : decode cX12_told 52 = .ok (.getfield 598, 3) := by decide +kernel
theorem dX12_told_55 : decode cX12_told 55 = .ok (.ireturn, 1) := by decide +kernel
theorem dX12_told_56 : decode cX12_told 56 = .ok (.aload_n 0, 1) := by decide +kernel
theorem dX12_told_57 : decode cX12_told 57 = .ok (.getfield 99, 3) := by decide +kernel
theorem dX12_told_60 : decode cX12_told 60 = .ok (.getfield 601, 3) := by decide +kernel
theorem dX12_told_63 : decode cX12_told 63 = .ok (.ireturn, 1) := by decide +kernel
theorem dX12_told_64 : decode cX12_told 64 = .ok (.aload_n 0, 1) := by decide +kernel
theorem dX12_told_65 : decode cX12_told 65 = .ok (.getfield 99, 3) := by decide +kernel
theorem dX12_told_68 : decode cX12_told 68 = .ok (.getfield 604, 3) := by decide +kernel
theorem dX12_told_71 : decode cX12_told 71 = .ok (.ireturn, 1) := by decide +kernel
theorem dX12_told_72 : decode cX12_told 72 = .ok (.aload_n 0, 1) := by decide +kernel
theorem dX12_told_73 : decode cX12_told 73 = .ok (.getfield 99, 3) := by decide +kernel
theorem dX12_told_76 : decode cX12_told 76 = .ok (.getfield 607, 3) := by decide +kernel
theorem dX12_told_79 : decode cX12_told 79 = .ok (.ireturn, 1) := by decide +kernel
theorem dX12_told_80 : decode cX12_told 80 = .ok (.aload_n 0, 1) := by decide +kernel
theorem dX12_told_81 : decode cX12_told 81 = .ok (.getfield 99, 3) := by decide +kernel
theorem dX12_told_84 : decode cX12_told 84 = .ok (.getfield 557, 3) := by decide +kernel
theorem dX12_told_87 : decode cX12_told 87 = .ok (.getfield 610, 3) := by decide +kernel
theorem dX12_told_90 : decode cX12_told 90 = .ok (.ireturn, 1) := by decide +kernel
theorem dX12_told_91 : decode cX12_told 91 = .ok (.aload_n 0, 1) := by decide +kernel
theorem dX12_told_92 : decode cX12_told 92 = .ok (.getfield 67, 3) := by decide +kernel
theorem dX12_told_95 : decode cX12_told 95 = .ok (.getfield 556, 3) := by decide +kernel
theorem dX12_told_98 : decode cX12_told 98 = .ok (.ireturn, 1) := by decide +kernel
theorem dX12_told_99 : decode cX12_told 99 = .ok (.aload_n 0, 1) := by decide +kernel
theorem dX12_told_100 : decode cX12_told 100 = .ok (.getfield 120, 3) := by decide +kernel
theorem dX12_told_103 : decode cX12_told 103 = .ok (.ireturn, 1) := by decide +kernel
theorem dX12_told_104 : decode cX12_told 104 = .ok (.aload_n 0, 1) := by decide +kernel
theorem dX12_told_105 : decode cX12_told 105 = .ok (.invokevirtual 149, 3) := by decide +kernel
theorem dX12_told_108 : decode cX12_told 108 = .ok (.ireturn, 1) := by decide +kernel
theorem dX12_told_109 : decode cX12_told 109 = .ok (.iconst (-1), 1) := by decide +kernel
theorem dX12_told_110 : decode cX12_told 110 = .ok (.ireturn, 1) := by decide +kernel
theorem dX12_number_0 : decode cX12_number 0 = .ok (.iload_n 1, 1) := by decide +kernel
theorem dX12_number_1 : decode cX12_number 1 = .ok (.ifCond .lt 14, 3) := by decide +kernel
theorem dX12_number_4 : decode cX12_number 4 = .ok (.iload_n 1, 1) := by decide +kernel
theorem dX12_number_5 : decode cX12_number 5 = .ok (.aload_n 0, 1) := by decide +kernel
theorem dX12_number_6 : decode cX12_number 6 = .ok (.getfield 99, 3) := by decide +kernel
theorem dX12_number_9 : decode cX12_number 9 = .ok (.getfield 601, 3) := by decide +kernel
theorem dX12_number_12 : decode cX12_number 12 = .ok (.if_icmp .lt 7, 3) := by decide +kernel
theorem dX12_number_15 : decode cX12_number 15 = .ok (.iconst 0, 1) := by decide +kernel
theorem dX12_number_16 : decode cX12_number 16 = .ok (.goto 12, 3) := by decide +kernel
theorem dX12_number_28 : decode cX12_number 28 = .ok (.ireturn, 1) := by decide +kernel
theorem dX12_event_0 : decode cX12_event 0 = .ok (.iload_n 1, 1) := by decide +kernel
theorem dX12_event_1 : decode cX12_event 1 = .ok (.ifCond .lt 17, 3) := by decide +kernel
theorem dX12_event_4 : decode cX12_event 4 = .ok (.iload_n 1, 1) := by decide +kernel
theorem dX12_event_5 : decode cX12_event 5 = .ok (.aload_n 0, 1) := by decide +kernel
theorem dX12_event_6 : decode cX12_event 6 = .ok (.getfield 99, 3) := by decide +kernel
theorem dX12_event_9 : decode cX12_event 9 = .ok (.getfield 557, 3) := by decide +kernel
theorem dX12_event_12 : decode cX12_event 12 = .ok (.getfield 610, 3) := by decide +kernel
theorem dX12_event_15 : decode cX12_event 15 = .ok (.if_icmp .lt 7, 3) := by decide +kernel
theorem dX12_event_18 : decode cX12_event 18 = .ok (.iconst (-1), 1) := by decide +kernel
theorem dX12_event_19 : decode cX12_event 19 = .ok (.goto 15, 3) := by decide +kernel
theorem dX12_event_34 : decode cX12_event 34 = .ok (.ireturn, 1) := by decide +kernel
theorem dX12_name_0 : decode cX12_name 0 = .ok (.iload_n 1, 1) := by decide +kernel
theorem dX12_name_1 : decode cX12_name 1 = .ok (.ifCond .lt 14, 3) := by decide +kernel
theorem dX12_name_4 : decode cX12_name 4 = .ok (.iload_n 1, 1) := by decide +kernel
theorem dX12_name_5 : decode cX12_name 5 = .ok (.aload_n 0, 1) := by decide +kernel
theorem dX12_name_6 : decode cX12_name 6 = .ok (.getfield 67, 3) := by decide +kernel
theorem dX12_name_9 : decode cX12_name 9 = .ok (.getfield 556, 3) := by decide +kernel
theorem dX12_name_12 : decode cX12_name 12 = .ok (.if_icmp .lt 5, 3) := by decide +kernel
theorem dX12_name_15 : decode cX12_name 15 = .ok (.iconst (-1), 1) := by decide +kernel
theorem dX12_name_16 : decode cX12_name 16 = .ok (.ireturn, 1) := by decide +kernel
theorem dX12_name_17 : decode cX12_name 17 = .ok (.aload_n 0, 1) := by decide +kernel
theorem dX12_name_18 : decode cX12_name 18 = .ok (.iconst 0, 1) := by decide +kernel
theorem dX12_name_19 : decode cX12_name 19 = .ok (.putfield 146, 3) := by decide +kernel
theorem dX12_name_22 : decode cX12_name 22 = .ok (.aload_n 0, 1) := by decide +kernel
theorem dX12_name_23 : decode cX12_name 23 = .ok (.aload_n 0, 1) := by decide +kernel
theorem dX12_name_24 : decode cX12_name 24 = .ok (.getfield 67, 3) := by decide +kernel
theorem dX12_name_27 : decode cX12_name 27 = .ok (.getfield 446, 3) := by decide +kernel
theorem dX12_name_30 : decode cX12_name 30 = .ok (.iload_n 1, 1) := by decide +kernel
theorem dX12_name_31 : decode cX12_name 31 = .ok (.aaload, 1) := by decide +kernel
theorem dX12_name_32 : decode cX12_name 32 = .ok (.getfield 280, 3) := by decide +kernel
theorem dX12_name_35 : decode cX12_name 35 = .ok (.invokevirtual 284, 3) := by decide +kernel
theorem dX12_name_38 : decode cX12_name 38 = .ok (.aload_n 0, 1) := by decide +kernel
theorem dX12_name_39 : decode cX12_name 39 = .ok (.getfield 146, 3) := by decide +kernel
theorem dX12_name_42 : decode cX12_name 42 = .ok (.ireturn, 1) := by decide +kernel
theorem dX12_state_0 : decode cX12_state 0 = .ok (.iload_n 1, 1) := by decide +kernel
theorem dX12_state_1 : decode cX12_state 1 = .ok (.ifCond .lt 14, 3) := by decide +kernel
theorem dX12_state_4 : decode cX12_state 4 = .ok (.iload_n 1, 1) := by decide +kernel
theorem dX12_state_5 : decode cX12_state 5 = .ok (.aload_n 0, 1) := by decide +kernel
theorem dX12_state_6 : decode cX12_state 6 = .ok (.getfield 67, 3) := by decide +kernel
theorem dX12_state_9 : decode cX12_state 9 = .ok (.getfield 556, 3) := by decide +kernel
theorem dX12_state_12 : decode cX12_state 12 = .ok (.if_icmp .lt 7, 3) := by decide +kernel
theorem dX12_state_15 : decode cX12_state 15 = .ok (.iconst (-1), 1) := by decide +kernel
theorem dX12_state_16 : decode cX12_state 16 = .ok (.goto 15, 3) := by decide +kernel
theorem dX12_state_19 : decode cX12_state 19 = .ok (.aload_n 0, 1) := by decide +kernel
theorem dX12_state_20 : decode cX12_state 20 = .ok (.getfield 99, 3) := by decide +kernel
theorem dX12_state_23 : decode cX12_state 23 = .ok (.getfield 557, 3) := by decide +kernel
theorem dX12_state_26 : decode cX12_state 26 = .ok (.getfield 618, 3) := by decide +kernel
theorem dX12_state_29 : decode cX12_state 29 = .ok (.iload_n 1, 1) := by decide +kernel
theorem dX12_state_30 : decode cX12_state 30 = .ok (.iaload, 1) := by decide +kernel
theorem dX12_state_31 : decode cX12_state 31 = .ok (.ireturn, 1) := by decide +kernel
theorem dX12_classOf_0 : decode cX12_classOf 0 = .ok (.iload_n 1, 1) := by decide +kernel
theorem dX12_classOf_1 : decode cX12_classOf 1 = .ok (.iconst 1, 1) := by decide +kernel
theorem dX12_classOf_2 : decode cX12_classOf 2 = .ok (.if_icmp .lt 14, 3) := by decide +kernel
theorem dX12_classOf_5 : decode cX12_classOf 5 = .ok (.iload_n 1, 1) := by decide +kernel
theorem dX12_classOf_6 : decode cX12_classOf 6 = .ok (.aload_n 0, 1) := by decide +kernel
theorem dX12_classOf_7 : decode cX12_classOf 7 = .ok (.getfield 99, 3) := by decide +kernel
theorem dX12_classOf_10 : decode cX12_classOf 10 = .ok (.getfield 604, 3) := by decide +kernel
theorem dX12_classOf_13 : decode cX12_classOf 13 = .ok (.if_icmp .le 7, 3) := by decide +kernel
theorem dX12_classOf_16 : decode cX12_classOf 16 = .ok (.iconst (-1), 1) := by decide +kernel
theorem dX12_classOf_17 : decode cX12_classOf 17 = .ok (.goto 12, 3) := by decide +kernel
theorem dX12_classOf_29 : decode cX12_classOf 29 = .ok (.ireturn, 1) := by decide +kernel
theorem dX12_fieldOf_0 : decode cX12_fieldOf 0 = .ok (.iload_n 1, 1) := by decide +kernel
theorem dX12_fieldOf_1 : decode cX12_fieldOf 1 = .ok (.iconst 1, 1) := by decide +kernel
theorem dX12_fieldOf_2 : decode cX12_fieldOf 2 = .ok (.if_icmp .lt 38, 3) := by decide +kernel
theorem dX12_fieldOf_5 : decode cX12_fieldOf 5 = .ok (.iload_n 1, 1) := by decide +kernel
theorem dX12_fieldOf_6 : decode cX12_fieldOf 6 = .ok (.aload_n 0, 1) := by decide +kernel
theorem dX12_fieldOf_7 : decode cX12_fieldOf 7 = .ok (.getfield 99, 3) := by decide +kernel
theorem dX12_fieldOf_10 : decode cX12_fieldOf 10 = .ok (.getfield 604, 3) := by decide +kernel
theorem dX12_fieldOf_13 : decode cX12_fieldOf 13 = .ok (.if_icmp .gt 27, 3) := by decide +kernel
theorem dX12_fieldOf_40 : decode cX12_fieldOf 40 = .ok (.iconst 0, 1) := by decide +kernel
theorem dX12_fieldOf_41 : decode cX12_fieldOf 41 = .ok (.ireturn, 1) := by decide +kernel
theorem dX13_sym_0 : decode cX13_sym 0 = .ok (.iload_n 0, 1) := by decide +kernel
theorem dX13_sym_1 : decode cX13_sym 1 = .ok (.bipush 97, 2) := by decide +kernel
theorem dX13_sym_3 : decode cX13_sym 3 = .ok (.if_icmp .lt 18, 3) := by decide +kernel
theorem dX13_sym_6 : decode cX13_sym 6 = .ok (.iload_n 0, 1) := by decide +kernel
theorem dX13_sym_7 : decode cX13_sym 7 = .ok (.bipush 122, 2) := by decide +kernel
theorem dX13_sym_9 : decode cX13_sym 9 = .ok (.if_icmp .gt 12, 3) := by decide +kernel
theorem dX13_sym_12 : decode cX13_sym 12 = .ok (.iload_n 0, 1) := by decide +kernel
theorem dX13_sym_13 : decode cX13_sym 13 = .ok (.bipush 97, 2) := by decide +kernel
theorem dX13_sym_15 : decode cX13_sym 15 = .ok (.isub, 1) := by decide +kernel
theorem dX13_sym_16 : decode cX13_sym 16 = .ok (.iconst 1, 1) := by decide +kernel
theorem dX13_sym_17 : decode cX13_sym 17 = .ok (.iadd, 1) := by decide +kernel
theorem dX13_sym_18 : decode cX13_sym 18 = .ok (.goto 48, 3) := by decide +kernel
theorem dX13_sym_66 : decode cX13_sym 66 = .ok (.ireturn, 1) := by decide +kernel
theorem dX13_letter_0 : decode cX13_letter 0 = .ok (.iload_n 0, 1) := by decide +kernel
theorem dX13_letter_1 : decode cX13_letter 1 = .ok (.bipush 26, 2) := by decide +kernel
theorem dX13_letter_3 : decode cX13_letter 3 = .ok (.if_icmp .gt 12, 3) := by decide +kernel
theorem dX13_letter_6 : decode cX13_letter 6 = .ok (.bipush 97, 2) := by decide +kernel
theorem dX13_letter_8 : decode cX13_letter 8 = .ok (.iload_n 0, 1) := by decide +kernel
theorem dX13_letter_9 : decode cX13_letter 9 = .ok (.iadd, 1) := by decide +kernel
theorem dX13_letter_10 : decode cX13_letter 10 = .ok (.iconst 1, 1) := by decide +kernel
theorem dX13_letter_11 : decode cX13_letter 11 = .ok (.isub, 1) := by decide +kernel
theorem dX13_letter_12 : decode cX13_letter 12 = .ok (.goto 26, 3) := by decide +kernel
theorem dX13_letter_15 : decode cX13_letter 15 = .ok (.iload_n 0, 1) := by decide +kernel
theorem dX13_letter_16 : decode cX13_letter 16 = .ok (.bipush 52, 2) := by decide +kernel
theorem dX13_letter_18 : decode cX13_letter 18 = .ok (.if_icmp .gt 13, 3) := by decide +kernel
theorem dX13_letter_21 : decode cX13_letter 21 = .ok (.bipush 65, 2) := by decide +kernel
theorem dX13_letter_23 : decode cX13_letter 23 = .ok (.iload_n 0, 1) := by decide +kernel
theorem dX13_letter_24 : decode cX13_letter 24 = .ok (.iadd, 1) := by decide +kernel
theorem dX13_letter_25 : decode cX13_letter 25 = .ok (.bipush 27, 2) := by decide +kernel
theorem dX13_letter_27 : decode cX13_letter 27 = .ok (.isub, 1) := by decide +kernel
theorem dX13_letter_28 : decode cX13_letter 28 = .ok (.goto 10, 3) := by decide +kernel
theorem dX13_letter_38 : decode cX13_letter 38 = .ok (.ireturn, 1) := by decide +kernel
theorem dX13_isC_0 : decode cX13_isC 0 = .ok (.lload_n 0, 1) := by decide +kernel
theorem dX13_isC_1 : decode cX13_isC 1 = .ok (.ldc2_w 5, 3) := by decide +kernel
theorem dX13_isC_4 : decode cX13_isC 4 = .ok (.land, 1) := by decide +kernel
theorem dX13_isC_5 : decode cX13_isC 5 = .ok (.lconst 0, 1) := by decide +kernel
theorem dX13_isC_6 : decode cX13_isC 6 = .ok (.lcmp, 1) := by decide +kernel
theorem dX13_isC_7 : decode cX13_isC 7 = .ok (.ifCond .eq 7, 3) := by decide +kernel
theorem dX13_isC_10 : decode cX13_isC 10 = .ok (.iconst 1, 1) := by decide +kernel
theorem dX13_isC_11 : decode cX13_isC 11 = .ok (.goto 4, 3) := by decide +kernel
theorem dX13_isC_15 : decode cX13_isC 15 = .ok (.ireturn, 1) := by decide +kernel
theorem dX13_outByte_0 : decode cX13_outByte 0 = .ok (.aload_n 0, 1) := by decide +kernel
theorem dX13_outByte_1 : decode cX13_outByte 1 = .ok (.getfield 11, 3) := by decide +kernel
theorem dX13_outByte_4 : decode cX13_outByte 4 = .ok (.aload_n 0, 1) := by decide +kernel
theorem dX13_outByte_5 : decode cX13_outByte 5 = .ok (.getfield 15, 3) := by decide +kernel
theorem dX13_outByte_8 : decode cX13_outByte 8 = .ok (.iload_n 1, 1) := by decide +kernel
theorem dX13_outByte_9 : decode cX13_outByte 9 = .ok (.iastore, 1) := by decide +kernel
theorem dX13_outByte_10 : decode cX13_outByte 10 = .ok (.aload_n 0, 1) := by decide +kernel
theorem dX13_outByte_11 : decode cX13_outByte 11 = .ok (.dup, 1) := by decide +kernel
theorem dX13_outByte_12 : decode cX13_outByte 12 = .ok (.getfield 15, 3) := by decide +kernel
theorem dX13_outByte_15 : decode cX13_outByte 15 = .ok (.iconst 1, 1) := by decide +kernel
theorem dX13_outByte_16 : decode cX13_outByte 16 = .ok (.iadd, 1) := by decide +kernel
theorem dX13_outByte_17 : decode cX13_outByte 17 = .ok (.putfield 15, 3) := by decide +kernel
theorem dX13_outByte_20 : decode cX13_outByte 20 = .ok (.return_, 1) := by decide +kernel
theorem dX13_outName_0 : decode cX13_outName 0 = .ok (.lload_n 1, 1) := by decide +kernel
theorem dX13_outName_1 : decode cX13_outName 1 = .ok (.ldc2_w 7, 3) := by decide +kernel
theorem dX13_outName_4 : decode cX13_outName 4 = .ok (.land, 1) := by decide +kernel
theorem dX13_outName_5 : decode cX13_outName 5 = .ok (.lstore_n 3, 1) := by decide +kernel
theorem dX13_outName_6 : decode cX13_outName 6 = .ok (.iconst 0, 1) := by decide +kernel
theorem dX13_outName_7 : decode cX13_outName 7 = .ok (.istore 5, 2) := by decide +kernel
theorem dX13_outName_9 : decode cX13_outName 9 = .ok (.iload 5, 2) := by decide +kernel
theorem dX13_outName_11 : decode cX13_outName 11 = .ok (.bipush 10, 2) := by decide +kernel
theorem dX13_outName_13 : decode cX13_outName 13 = .ok (.if_icmp .ge 21, 3) := by decide +kernel
theorem dX13_outName_16 : decode cX13_outName 16 = .ok (.lload_n 3, 1) := by decide +kernel
theorem dX13_outName_17 : decode cX13_outName 17 = .ok (.bipush 6, 2) := by decide +kernel
theorem dX13_outName_19 : decode cX13_outName 19 = .ok (.iload 5, 2) := by decide +kernel
theorem dX13_outName_21 : decode cX13_outName 21 = .ok (.imul, 1) := by decide +kernel
theorem dX13_outName_22 : decode cX13_outName 22 = .ok (.lushr, 1) := by decide +kernel
theorem dX13_outName_23 : decode cX13_outName 23 = .ok (.lconst 0, 1) := by decide +kernel
theorem dX13_outName_24 : decode cX13_outName 24 = .ok (.lcmp, 1) := by decide +kernel
theorem dX13_outName_25 : decode cX13_outName 25 = .ok (.ifCond .eq 9, 3) := by decide +kernel
theorem dX13_outName_28 : decode cX13_outName 28 = .ok (.iinc 5 1, 3) := by decide +kernel
theorem dX13_outName_31 : decode cX13_outName 31 = .ok (.goto (-22), 3) := by decide +kernel
theorem dX13_outName_34 : decode cX13_outName 34 = .ok (.iload 5, 2) := by decide +kernel
theorem dX13_outName_36 : decode cX13_outName 36 = .ok (.iconst 1, 1) := by decide +kernel
theorem dX13_outName_37 : decode cX13_outName 37 = .ok (.isub, 1) := by decide +kernel
theorem dX13_outName_38 : decode cX13_outName 38 = .ok (.istore 6, 2) := by decide +kernel
theorem dX13_outName_40 : decode cX13_outName 40 = .ok (.iload 6, 2) := by decide +kernel
theorem dX13_outName_42 : decode cX13_outName 42 = .ok (.ifCond .lt 50, 3) := by decide +kernel
theorem dX13_outName_45 : decode cX13_outName 45 = .ok (.aload_n 0, 1) := by decide +kernel
theorem dX13_outName_46 : decode cX13_outName 46 = .ok (.lload_n 3, 1) := by decide +kernel
theorem dX13_outName_47 : decode cX13_outName 47 = .ok (.bipush 6, 2) := by decide +kernel
theorem dX13_outName_49 : decode cX13_outName 49 = .ok (.iload 6, 2) := by decide +kernel
theorem dX13_outName_51 : decode cX13_outName 51 = .ok (.imul, 1) := by decide +kernel
theorem dX13_outName_52 : decode cX13_outName 52 = .ok (.lushr, 1) := by decide +kernel
theorem dX13_outName_53 : decode cX13_outName 53 = .ok (.ldc2_w 9, 3) := by decide +kernel
theorem dX13_outName_56 : decode cX13_outName 56 = .ok (.land, 1) := by decide +kernel
theorem dX13_outName_57 : decode cX13_outName 57 = .ok (.l2i, 1) := by decide +kernel
theorem dX13_outName_58 : decode cX13_outName 58 = .ok (.invokestatic 33, 3) := by decide +kernel
theorem dX13_outName_61 : decode cX13_outName 61 = .ok (.invokevirtual 29, 3) := by decide +kernel
theorem dX13_outName_64 : decode cX13_outName 64 = .ok (.lload_n 1, 1) := by decide +kernel
theorem dX13_outName_65 : decode cX13_outName 65 = .ok (.invokestatic 37, 3) := by decide +kernel
theorem dX13_outName_68 : decode cX13_outName 68 = .ok (.ifCond .eq 18, 3) := by decide +kernel
theorem dX13_outName_71 : decode cX13_outName 71 = .ok (.iload 6, 2) := by decide +kernel
theorem dX13_outName_73 : decode cX13_outName 73 = .ok (.iload 5, 2) := by decide +kernel
theorem dX13_outName_75 : decode cX13_outName 75 = .ok (.iconst 1, 1) := by decide +kernel
theorem dX13_outName_76 : decode cX13_outName 76 = .ok (.isub, 1) := by decide +kernel
theorem dX13_outName_77 : decode cX13_outName 77 = .ok (.if_icmp .ne 9, 3) := by decide +kernel
theorem dX13_outName_80 : decode cX13_outName 80 = .ok (.aload_n 0, 1) := by decide +kernel
theorem dX13_outName_81 : decode cX13_outName 81 = .ok (.bipush 46, 2) := by decide +kernel
theorem dX13_outName_83 : decode cX13_outName 83 = .ok (.invokevirtual 29, 3) := by decide +kernel
theorem dX13_outName_86 : decode cX13_outName 86 = .ok (.iinc 6 (-1), 3) := by decide +kernel
theorem dX13_outName_89 : decode cX13_outName 89 = .ok (.goto (-49), 3) := by decide +kernel
theorem dX13_outName_92 : decode cX13_outName 92 = .ok (.return_, 1) := by decide +kernel
theorem dX13_feed_0 : decode cX13_feed 0 = .ok (.aload_n 0, 1) := by decide +kernel
theorem dX13_feed_1 : decode cX13_feed 1 = .ok (.getfield 57, 3) := by decide +kernel
theorem dX13_feed_4 : decode cX13_feed 4 = .ok (.bipush 20, 2) := by decide +kernel
theorem dX13_feed_6 : decode cX13_feed 6 = .ok (.iadd, 1) := by decide +kernel
theorem dX13_feed_7 : decode cX13_feed 7 = .ok (.sipush 4000, 3) := by decide +kernel
theorem dX13_feed_10 : decode cX13_feed 10 = .ok (.if_icmp .le 6, 3) := by decide +kernel
theorem dX13_feed_16 : decode cX13_feed 16 = .ok (.aload_n 0, 1) := by decide +kernel
theorem dX13_feed_17 : decode cX13_feed 17 = .ok (.iload_n 1, 1) := by decide +kernel
theorem dX13_feed_18 : decode cX13_feed 18 = .ok (.invokevirtual 60, 3) := by decide +kernel
theorem dX13_feed_21 : decode cX13_feed 21 = .ok (.aload_n 0, 1) := by decide +kernel
theorem dX13_feed_22 : decode cX13_feed 22 = .ok (.iload_n 2, 1) := by decide +kernel
theorem dX13_feed_23 : decode cX13_feed 23 = .ok (.invokevirtual 60, 3) := by decide +kernel
theorem dX13_feed_26 : decode cX13_feed 26 = .ok (.aload_n 0, 1) := by decide +kernel
theorem dX13_feed_27 : decode cX13_feed 27 = .ok (.iload_n 3, 1) := by decide +kernel
theorem dX13_feed_28 : decode cX13_feed 28 = .ok (.invokevirtual 60, 3) := by decide +kernel
theorem dX13_feed_31 : decode cX13_feed 31 = .ok (.aload_n 0, 1) := by decide +kernel
theorem dX13_feed_32 : decode cX13_feed 32 = .ok (.iload 4, 2) := by decide +kernel
theorem dX13_feed_34 : decode cX13_feed 34 = .ok (.invokevirtual 60, 3) := by decide +kernel
theorem dX13_feed_37 : decode cX13_feed 37 = .ok (.aload_n 0, 1) := by decide +kernel
theorem dX13_feed_38 : decode cX13_feed 38 = .ok (.iload 5, 2) := by decide +kernel
theorem dX13_feed_40 : decode cX13_feed 40 = .ok (.invokevirtual 60, 3) := by decide +kernel
theorem dX13_feed_43 : decode cX13_feed 43 = .ok (.aload_n 0, 1) := by decide +kernel
theorem dX13_feed_44 : decode cX13_feed 44 = .ok (.getfield 57, 3) := by decide +kernel
theorem dX13_feed_47 : decode cX13_feed 47 = .ok (.ireturn, 1) := by decide +kernel
theorem dX13_four_0 : decode cX13_four 0 = .ok (.bipush 24, 2) := by decide +kernel
theorem dX13_four_2 : decode cX13_four 2 = .ok (.istore_n 2, 1) := by decide +kernel
theorem dX13_four_3 : decode cX13_four 3 = .ok (.iload_n 2, 1) := by decide +kernel
theorem dX13_four_4 : decode cX13_four 4 = .ok (.ifCond .lt 35, 3) := by decide +kernel
theorem dX13_four_7 : decode cX13_four 7 = .ok (.aload_n 0, 1) := by decide +kernel
theorem dX13_four_8 : decode cX13_four 8 = .ok (.getfield 63, 3) := by decide +kernel
theorem dX13_four_11 : decode cX13_four 11 = .ok (.aload_n 0, 1) := by decide +kernel
theorem dX13_four_12 : decode cX13_four 12 = .ok (.getfield 57, 3) := by decide +kernel
theorem dX13_four_15 : decode cX13_four 15 = .ok (.iload_n 1, 1) := by decide +kernel
theorem dX13_four_16 : decode cX13_four 16 = .ok (.iload_n 2, 1) := by decide +kernel
theorem dX13_four_17 : decode cX13_four 17 = .ok (.iushr, 1) := by decide +kernel
theorem dX13_four_18 : decode cX13_four 18 = .ok (.sipush 255, 3) := by decide +kernel
theorem dX13_four_21 : decode cX13_four 21 = .ok (.iand, 1) := by decide +kernel
theorem dX13_four_22 : decode cX13_four 22 = .ok (.iastore, 1) := by decide +kernel
theorem dX13_four_23 : decode cX13_four 23 = .ok (.aload_n 0, 1) := by decide +kernel
theorem dX13_four_24 : decode cX13_four 24 = .ok (.dup, 1) := by decide +kernel
theorem dX13_four_25 : decode cX13_four 25 = .ok (.getfield 57, 3) := by decide +kernel
theorem dX13_four_28 : decode cX13_four 28 = .ok (.iconst 1, 1) := by decide +kernel
theorem dX13_four_29 : decode cX13_four 29 = .ok (.iadd, 1) := by decide +kernel
theorem dX13_four_30 : decode cX13_four 30 = .ok (.putfield 57, 3) := by decide +kernel
theorem dX13_four_33 : decode cX13_four 33 = .ok (.iinc 2 (-8), 3) := by decide +kernel
theorem dX13_four_36 : decode cX13_four 36 = .ok (.goto (-33), 3) := by decide +kernel
theorem dX13_four_39 : decode cX13_four 39 = .ok (.return_, 1) := by decide +kernel
theorem dX13_cut_0 : decode cX13_cut 0 = .ok (.iload_n 1, 1) := by decide +kernel
theorem dX13_cut_1 : decode cX13_cut 1 = .ok (.ifCond .lt 11, 3) := by decide +kernel
theorem dX13_cut_4 : decode cX13_cut 4 = .ok (.iload_n 1, 1) := by decide +kernel
theorem dX13_cut_5 : decode cX13_cut 5 = .ok (.aload_n 0, 1) := by decide +kernel
theorem dX13_cut_6 : decode cX13_cut 6 = .ok (.getfield 57, 3) := by decide +kernel
theorem dX13_cut_9 : decode cX13_cut 9 = .ok (.if_icmp .le 5, 3) := by decide +kernel
theorem dX13_cut_12 : decode cX13_cut 12 = .ok (.iconst (-1), 1) := by decide +kernel
theorem dX13_cut_13 : decode cX13_cut 13 = .ok (.ireturn, 1) := by decide +kernel
theorem dX13_cut_14 : decode cX13_cut 14 = .ok (.aload_n 0, 1) := by decide +kernel
theorem dX13_cut_15 : decode cX13_cut 15 = .ok (.dup, 1) := by decide +kernel
theorem dX13_cut_16 : decode cX13_cut 16 = .ok (.getfield 57, 3) := by decide +kernel
theorem dX13_cut_19 : decode cX13_cut 19 = .ok (.iload_n 1, 1) := by decide +kernel
theorem dX13_cut_20 : decode cX13_cut 20 = .ok (.isub, 1) := by decide +kernel
theorem dX13_cut_21 : decode cX13_cut 21 = .ok (.putfield 57, 3) := by decide +kernel
theorem dX13_cut_24 : decode cX13_cut 24 = .ok (.aload_n 0, 1) := by decide +kernel
theorem dX13_cut_25 : decode cX13_cut 25 = .ok (.getfield 57, 3) := by decide +kernel
theorem dX13_cut_28 : decode cX13_cut 28 = .ok (.ireturn, 1) := by decide +kernel
theorem dX13_splice_0 : decode cX13_splice 0 = .ok (.iload_n 3, 1) := by decide +kernel
theorem dX13_splice_1 : decode cX13_splice 1 = .ok (.ifCond .lt 41, 3) := by decide +kernel
theorem dX13_splice_4 : decode cX13_splice 4 = .ok (.iload_n 3, 1) := by decide +kernel
theorem dX13_splice_5 : decode cX13_splice 5 = .ok (.aload_n 0, 1) := by decide +kernel
theorem dX13_splice_6 : decode cX13_splice 6 = .ok (.getfield 57, 3) := by decide +kernel
theorem dX13_splice_9 : decode cX13_splice 9 = .ok (.if_icmp .gt 33, 3) := by decide +kernel
theorem dX13_splice_12 : decode cX13_splice 12 = .ok (.iload_n 1, 1) := by decide +kernel
theorem dX13_splice_13 : decode cX13_splice 13 = .ok (.ifCond .lt 29, 3) := by decide +kernel
theorem dX13_splice_16 : decode cX13_splice 16 = .ok (.iload_n 1, 1) := by decide +kernel
theorem dX13_splice_17 : decode cX13_splice 17 = .ok (.aload_n 0, 1) := by decide +kernel
theorem dX13_splice_18 : decode cX13_splice 18 = .ok (.getfield 57, 3) := by decide +kernel
theorem dX13_splice_21 : decode cX13_splice 21 = .ok (.iload_n 3, 1) := by decide +kernel
theorem dX13_splice_22 : decode cX13_splice 22 = .ok (.isub, 1) := by decide +kernel
theorem dX13_splice_23 : decode cX13_splice 23 = .ok (.if_icmp .gt 19, 3) := by decide +kernel
theorem dX13_splice_26 : decode cX13_splice 26 = .ok (.iload_n 2, 1) := by decide +kernel
theorem dX13_splice_27 : decode cX13_splice 27 = .ok (.ifCond .lt 15, 3) := by decide +kernel
theorem dX13_splice_30 : decode cX13_splice 30 = .ok (.iload_n 2, 1) := by decide +kernel
theorem dX13_splice_31 : decode cX13_splice 31 = .ok (.aload_n 0, 1) := by decide +kernel
theorem dX13_splice_32 : decode cX13_splice 32 = .ok (.getfield 57, 3) := by decide +kernel
theorem dX13_splice_35 : decode cX13_splice 35 = .ok (.iload_n 3, 1) := by decide +kernel
theorem dX13_splice_36 : decode cX13_splice 36 = .ok (.isub, 1) := by decide +kernel
theorem dX13_splice_37 : decode cX13_splice 37 = .ok (.iload_n 1, 1) := by decide +kernel
theorem dX13_splice_38 : decode cX13_splice 38 = .ok (.isub, 1) := by decide +kernel
theorem dX13_splice_39 : decode cX13_splice 39 = .ok (.if_icmp .le 5, 3) := by decide +kernel
theorem dX13_splice_42 : decode cX13_splice 42 = .ok (.iconst (-1), 1) := by decide +kernel
theorem dX13_splice_43 : decode cX13_splice 43 = .ok (.ireturn, 1) := by decide +kernel
theorem dX13_splice_44 : decode cX13_splice 44 = .ok (.aload_n 0, 1) := by decide +kernel
theorem dX13_splice_45 : decode cX13_splice 45 = .ok (.getfield 57, 3) := by decide +kernel
theorem dX13_splice_48 : decode cX13_splice 48 = .ok (.iload_n 3, 1) := by decide +kernel
theorem dX13_splice_49 : decode cX13_splice 49 = .ok (.isub, 1) := by decide +kernel
theorem dX13_splice_50 : decode cX13_splice 50 = .ok (.istore 4, 2) := by decide +kernel
theorem dX13_splice_52 : decode cX13_splice 52 = .ok (.iconst 0, 1) := by decide +kernel
theorem dX13_splice_53 : decode cX13_splice 53 = .ok (.istore 5, 2) := by decide +kernel
theorem dX13_splice_55 : decode cX13_splice 55 = .ok (.iconst 0, 1) := by decide +kernel
theorem dX13_splice_56 : decode cX13_splice 56 = .ok (.istore 6, 2) := by decide +kernel
theorem dX13_splice_58 : decode cX13_splice 58 = .ok (.iload 6, 2) := by decide +kernel
theorem dX13_splice_60 : decode cX13_splice 60 = .ok (.iload_n 1, 1) := by decide +kernel
theorem dX13_splice_61 : decode cX13_splice 61 = .ok (.if_icmp .ge 26, 3) := by decide +kernel
theorem dX13_splice_87 : decode cX13_splice 87 = .ok (.iconst 0, 1) := by decide +kernel
theorem dX13_splice_88 : decode cX13_splice 88 = .ok (.istore 6, 2) := by decide +kernel
theorem dX13_splice_90 : decode cX13_splice 90 = .ok (.iload 6, 2) := by decide +kernel
theorem dX13_splice_92 : decode cX13_splice 92 = .ok (.iload_n 3, 1) := by decide +kernel
theorem dX13_splice_93 : decode cX13_splice 93 = .ok (.if_icmp .ge 29, 3) := by decide +kernel
theorem dX13_splice_122 : decode cX13_splice 122 = .ok (.iload_n 1, 1) := by decide +kernel
theorem dX13_splice_123 : decode cX13_splice 123 = .ok (.iload_n 2, 1) := by decide +kernel
theorem dX13_splice_124 : decode cX13_splice 124 = .ok (.iadd, 1) := by decide +kernel
theorem dX13_splice_125 : decode cX13_splice 125 = .ok (.istore 6, 2) := by decide +kernel
theorem dX13_splice_127 : decode cX13_splice 127 = .ok (.iload 6, 2) := by decide +kernel
theorem dX13_splice_129 : decode cX13_splice 129 = .ok (.iload 4, 2) := by decide +kernel
theorem dX13_splice_131 : decode cX13_splice 131 = .ok (.if_icmp .ge 26, 3) := by decide +kernel
theorem dX13_splice_157 : decode cX13_splice 157 = .ok (.iconst 0, 1) := by decide +kernel
theorem dX13_splice_158 : decode cX13_splice 158 = .ok (.istore 6, 2) := by decide +kernel
theorem dX13_splice_160 : decode cX13_splice 160 = .ok (.iload 6, 2) := by decide +kernel
theorem dX13_splice_162 : decode cX13_splice 162 = .ok (.iload 5, 2) := by decide +kernel
theorem dX13_splice_164 : decode cX13_splice 164 = .ok (.if_icmp .ge 23, 3) := by decide +kernel
theorem dX13_splice_187 : decode cX13_splice 187 = .ok (.aload_n 0, 1) := by decide +kernel
theorem dX13_splice_188 : decode cX13_splice 188 = .ok (.iload 5, 2) := by decide +kernel
theorem dX13_splice_190 : decode cX13_splice 190 = .ok (.putfield 57, 3) := by decide +kernel
theorem dX13_splice_193 : decode cX13_splice 193 = .ok (.aload_n 0, 1) := by decide +kernel
theorem dX13_splice_194 : decode cX13_splice 194 = .ok (.getfield 57, 3) := by decide +kernel
theorem dX13_splice_197 : decode cX13_splice 197 = .ok (.ireturn, 1) := by decide +kernel
theorem dX13_size_0 : decode cX13_size 0 = .ok (.aload_n 0, 1) := by decide +kernel
theorem dX13_size_1 : decode cX13_size 1 = .ok (.getfield 15, 3) := by decide +kernel
theorem dX13_size_4 : decode cX13_size 4 = .ok (.ireturn, 1) := by decide +kernel
theorem dX13_octet_0 : decode cX13_octet 0 = .ok (.iload_n 1, 1) := by decide +kernel
theorem dX13_octet_1 : decode cX13_octet 1 = .ok (.ifCond .lt 11, 3) := by decide +kernel
theorem dX13_octet_4 : decode cX13_octet 4 = .ok (.iload_n 1, 1) := by decide +kernel
theorem dX13_octet_5 : decode cX13_octet 5 = .ok (.aload_n 0, 1) := by decide +kernel
theorem dX13_octet_6 : decode cX13_octet 6 = .ok (.getfield 15, 3) := by decide +kernel
theorem dX13_octet_9 : decode cX13_octet 9 = .ok (.if_icmp .lt 7, 3) := by decide +kernel
theorem dX13_octet_12 : decode cX13_octet 12 = .ok (.iconst (-1), 1) := by decide +kernel
theorem dX13_octet_13 : decode cX13_octet 13 = .ok (.goto 9, 3) := by decide +kernel
theorem dX13_octet_22 : decode cX13_octet 22 = .ok (.ireturn, 1) := by decide +kernel
theorem dX13_wordTable_0 : decode cX13_wordTable 0 = .ok (.lconst 0, 1) := by decide +kernel
theorem dX13_wordTable_1 : decode cX13_wordTable 1 = .ok (.lstore_n 1, 1) := by decide +kernel
theorem dX13_wordTable_2 : decode cX13_wordTable 2 = .ok (.iconst 1, 1) := by decide +kernel
theorem dX13_wordTable_3 : decode cX13_wordTable 3 = .ok (.istore_n 3, 1) := by decide +kernel
theorem dX13_wordTable_4 : decode cX13_wordTable 4 = .ok (.iload_n 3, 1) := by decide +kernel
theorem dX13_wordTable_5 : decode cX13_wordTable 5 = .ok (.ldc 69, 2) := by decide +kernel
theorem dX13_wordTable_7 : decode cX13_wordTable 7 = .ok (.invokevirtual 19, 3) := by decide +kernel
theorem dX13_wordTable_10 : decode cX13_wordTable 10 = .ok (.if_icmp .ge 61, 3) := by decide +kernel
theorem dX13_wordTable_13 : decode cX13_wordTable 13 = .ok (.ldc 69, 2) := by decide +kernel
theorem dX13_wordTable_15 : decode cX13_wordTable 15 = .ok (.iload_n 3, 1) := by decide +kernel
theorem dX13_wordTable_16 : decode cX13_wordTable 16 = .ok (.invokevirtual 25, 3) := by decide +kernel
theorem dX13_wordTable_19 : decode cX13_wordTable 19 = .ok (.bipush 32, 2) := by decide +kernel
theorem dX13_wordTable_21 : decode cX13_wordTable 21 = .ok (.if_icmp .ne 28, 3) := by decide +kernel
theorem dX13_wordTable_24 : decode cX13_wordTable 24 = .ok (.aload_n 0, 1) := by decide +kernel
theorem dX13_wordTable_25 : decode cX13_wordTable 25 = .ok (.getfield 71, 3) := by decide +kernel
theorem dX13_wordTable_28 : decode cX13_wordTable 28 = .ok (.aload_n 0, 1) := by decide +kernel
theorem dX13_wordTable_29 : decode cX13_wordTable 29 = .ok (.getfield 75, 3) := by decide +kernel
theorem dX13_wordTable_32 : decode cX13_wordTable 32 = .ok (.lload_n 1, 1) := by decide +kernel
theorem dX13_wordTable_33 : decode cX13_wordTable 33 = .ok (.lastore, 1) := by decide +kernel
theorem dX13_wordTable_34 : decode cX13_wordTable 34 = .ok (.aload_n 0, 1) := by decide +kernel
theorem dX13_wordTable_35 : decode cX13_wordTable 35 = .ok (.dup, 1) := by decide +kernel
theorem dX13_wordTable_36 : decode cX13_wordTable 36 = .ok (.getfield 75, 3) := by decide +kernel
theorem dX13_wordTable_39 : decode cX13_wordTable 39 = .ok (.iconst 1, 1) := by decide +kernel
theorem dX13_wordTable_40 : decode cX13_wordTable 40 = .ok (.iadd, 1) := by decide +kernel
theorem dX13_wordTable_41 : decode cX13_wordTable 41 = .ok (.putfield 75, 3) := by decide +kernel
theorem dX13_wordTable_44 : decode cX13_wordTable 44 = .ok (.lconst 0, 1) := by decide +kernel
theorem dX13_wordTable_45 : decode cX13_wordTable 45 = .ok (.lstore_n 1, 1) := by decide +kernel
theorem dX13_wordTable_46 : decode cX13_wordTable 46 = .ok (.goto 19, 3) := by decide +kernel
theorem dX13_wordTable_49 : decode cX13_wordTable 49 = .ok (.lload_n 1, 1) := by decide +kernel
theorem dX13_wordTable_50 : decode cX13_wordTable 50 = .ok (.bipush 6, 2) := by decide +kernel
theorem dX13_wordTable_52 : decode cX13_wordTable 52 = .ok (.lshl, 1) := by decide +kernel
theorem dX13_wordTable_53 : decode cX13_wordTable 53 = .ok (.ldc 69, 2) := by decide +kernel
theorem dX13_wordTable_55 : decode cX13_wordTable 55 = .ok (.iload_n 3, 1) := by decide +kernel
theorem dX13_wordTable_56 : decode cX13_wordTable 56 = .ok (.invokevirtual 25, 3) := by decide +kernel
theorem dX13_wordTable_59 : decode cX13_wordTable 59 = .ok (.invokestatic 78, 3) := by decide +kernel
theorem dX13_wordTable_62 : decode cX13_wordTable 62 = .ok (.i2l, 1) := by decide +kernel
theorem dX13_wordTable_63 : decode cX13_wordTable 63 = .ok (.lor, 1) := by decide +kernel
theorem dX13_wordTable_64 : decode cX13_wordTable 64 = .ok (.lstore_n 1, 1) := by decide +kernel
theorem dX13_wordTable_65 : decode cX13_wordTable 65 = .ok (.iinc 3 1, 3) := by decide +kernel
theorem dX13_wordTable_68 : decode cX13_wordTable 68 = .ok (.goto (-64), 3) := by decide +kernel
theorem dX13_wordTable_71 : decode cX13_wordTable 71 = .ok (.return_, 1) := by decide +kernel
theorem dX13_nameOf_0 : decode cX13_nameOf 0 = .ok (.lconst 0, 1) := by decide +kernel
theorem dX13_nameOf_1 : decode cX13_nameOf 1 = .ok (.lstore_n 1, 1) := by decide +kernel
theorem dX13_nameOf_2 : decode cX13_nameOf 2 = .ok (.iconst 0, 1) := by decide +kernel
theorem dX13_nameOf_3 : decode cX13_nameOf 3 = .ok (.istore_n 3, 1) := by decide +kernel
theorem dX13_nameOf_4 : decode cX13_nameOf 4 = .ok (.iload_n 3, 1) := by decide +kernel
theorem dX13_nameOf_5 : decode cX13_nameOf 5 = .ok (.aload_n 0, 1) := by decide +kernel
theorem dX13_nameOf_6 : decode cX13_nameOf 6 = .ok (.invokevirtual 19, 3) := by decide +kernel
theorem dX13_nameOf_9 : decode cX13_nameOf 9 = .ok (.if_icmp .ge 24, 3) := by decide +kernel
theorem dX13_nameOf_12 : decode cX13_nameOf 12 = .ok (.lload_n 1, 1) := by decide +kernel
theorem dX13_nameOf_13 : decode cX13_nameOf 13 = .ok (.bipush 6, 2) := by decide +kernel
theorem dX13_nameOf_15 : decode cX13_nameOf 15 = .ok (.lshl, 1) := by decide +kernel
theorem dX13_nameOf_16 : decode cX13_nameOf 16 = .ok (.aload_n 0, 1) := by decide +kernel
theorem dX13_nameOf_17 : decode cX13_nameOf 17 = .ok (.iload_n 3, 1) := by decide +kernel
theorem dX13_nameOf_18 : decode cX13_nameOf 18 = .ok (.invokevirtual 25, 3) := by decide +kernel
theorem dX13_nameOf_21 : decode cX13_nameOf 21 = .ok (.invokestatic 78, 3) := by decide +kernel
theorem dX13_nameOf_24 : decode cX13_nameOf 24 = .ok (.i2l, 1) := by decide +kernel
theorem dX13_nameOf_25 : decode cX13_nameOf 25 = .ok (.lor, 1) := by decide +kernel
theorem dX13_nameOf_26 : decode cX13_nameOf 26 = .ok (.lstore_n 1, 1) := by decide +kernel
theorem dX13_nameOf_27 : decode cX13_nameOf 27 = .ok (.iinc 3 1, 3) := by decide +kernel
theorem dX13_nameOf_30 : decode cX13_nameOf 30 = .ok (.goto (-26), 3) := by decide +kernel
theorem dX13_nameOf_33 : decode cX13_nameOf 33 = .ok (.lload_n 1, 1) := by decide +kernel
theorem dX13_nameOf_34 : decode cX13_nameOf 34 = .ok (.lreturn, 1) := by decide +kernel
theorem dX13_tokenize_0 : decode cX13_tokenize 0 = .ok (.iconst 0, 1) := by decide +kernel
theorem dX13_tokenize_1 : decode cX13_tokenize 1 = .ok (.istore_n 1, 1) := by decide +kernel
theorem dX13_tokenize_2 : decode cX13_tokenize 2 = .ok (.iconst 0, 1) := by decide +kernel
theorem dX13_tokenize_3 : decode cX13_tokenize 3 = .ok (.istore_n 2, 1) := by decide +kernel
theorem dX13_tokenize_4 : decode cX13_tokenize 4 = .ok (.iconst 1, 1) := by decide +kernel
theorem dX13_tokenize_5 : decode cX13_tokenize 5 = .ok (.istore_n 3, 1) := by decide +kernel
theorem dX13_tokenize_6 : decode cX13_tokenize 6 = .ok (.iload_n 3, 1) := by decide +kernel
theorem dX13_tokenize_7 : decode cX13_tokenize 7 = .ok (.ifCond .eq 165, 3) := by decide +kernel
theorem dX13_tokenize_10 : decode cX13_tokenize 10 = .ok (.iload_n 1, 1) := by decide +kernel
theorem dX13_tokenize_11 : decode cX13_tokenize 11 = .ok (.aload_n 0, 1) := by decide +kernel
theorem dX13_tokenize_12 : decode cX13_tokenize 12 = .ok (.getfield 81, 3) := by decide +kernel
theorem dX13_tokenize_15 : decode cX13_tokenize 15 = .ok (.aload_n 0, 1) := by decide +kernel
theorem dX13_tokenize_16 : decode cX13_tokenize 16 = .ok (.getfield 84, 3) := by decide +kernel
theorem dX13_tokenize_19 : decode cX13_tokenize 19 = .ok (.iaload, 1) := by decide +kernel
theorem dX13_tokenize_20 : decode cX13_tokenize 20 = .ok (.if_icmp .ge 29, 3) := by decide +kernel
theorem dX13_tokenize_49 : decode cX13_tokenize 49 = .ok (.aload_n 0, 1) := by decide +kernel
theorem dX13_tokenize_50 : decode cX13_tokenize 50 = .ok (.getfield 84, 3) := by decide +kernel
theorem dX13_tokenize_53 : decode cX13_tokenize 53 = .ok (.sipush 702, 3) := by decide +kernel
theorem dX13_tokenize_56 : decode cX13_tokenize 56 = .ok (.imul, 1) := by decide +kernel
theorem dX13_tokenize_57 : decode cX13_tokenize 57 = .ok (.iload_n 2, 1) := by decide +kernel
theorem dX13_tokenize_58 : decode cX13_tokenize 58 = .ok (.iadd, 1) := by decide +kernel
theorem dX13_tokenize_59 : decode cX13_tokenize 59 = .ok (.istore 4, 2) := by decide +kernel
theorem dX13_tokenize_61 : decode cX13_tokenize 61 = .ok (.aload_n 0, 1) := by decide +kernel
theorem dX13_tokenize_62 : decode cX13_tokenize 62 = .ok (.getfield 94, 3) := by decide +kernel
theorem dX13_tokenize_65 : decode cX13_tokenize 65 = .ok (.iload 4, 2) := by decide +kernel
theorem dX13_tokenize_67 : decode cX13_tokenize 67 = .ok (.iload_n 1, 1) := by decide +kernel
theorem dX13_tokenize_68 : decode cX13_tokenize 68 = .ok (.iastore, 1) := by decide +kernel
theorem dX13_tokenize_69 : decode cX13_tokenize 69 = .ok (.aload_n 0, 1) := by decide +kernel
theorem dX13_tokenize_70 : decode cX13_tokenize 70 = .ok (.getfield 97, 3) := by decide +kernel
theorem dX13_tokenize_73 : decode cX13_tokenize 73 = .ok (.iload 4, 2) := by decide +kernel
theorem dX13_tokenize_75 : decode cX13_tokenize 75 = .ok (.lconst 0, 1) := by decide +kernel
theorem dX13_tokenize_76 : decode cX13_tokenize 76 = .ok (.lastore, 1) := by decide +kernel
theorem dX13_tokenize_77 : decode cX13_tokenize 77 = .ok (.aload_n 0, 1) := by decide +kernel
theorem dX13_tokenize_78 : decode cX13_tokenize 78 = .ok (.getfield 100, 3) := by decide +kernel
theorem dX13_tokenize_81 : decode cX13_tokenize 81 = .ok (.iload 4, 2) := by decide +kernel
theorem dX13_tokenize_83 : decode cX13_tokenize 83 = .ok (.iconst 0, 1) := by decide +kernel
theorem dX13_tokenize_84 : decode cX13_tokenize 84 = .ok (.iastore, 1) := by decide +kernel
theorem dX13_tokenize_85 : decode cX13_tokenize 85 = .ok (.aload_n 0, 1) := by decide +kernel
theorem dX13_tokenize_86 : decode cX13_tokenize 86 = .ok (.getfield 103, 3) := by decide +kernel
theorem dX13_tokenize_89 : decode cX13_tokenize 89 = .ok (.iload 4, 2) := by decide +kernel
theorem dX13_tokenize_91 : decode cX13_tokenize 91 = .ok (.iconst 0, 1) := by decide +kernel
theorem dX13_tokenize_92 : decode cX13_tokenize 92 = .ok (.iastore, 1) := by decide +kernel
theorem dX13_tokenize_93 : decode cX13_tokenize 93 = .ok (.iload_n 1, 1) := by decide +kernel
theorem dX13_tokenize_94 : decode cX13_tokenize 94 = .ok (.aload_n 0, 1) := by decide +kernel
theorem dX13_tokenize_95 : decode cX13_tokenize 95 = .ok (.getfield 81, 3) := by decide +kernel
theorem dX13_tokenize_98 : decode cX13_tokenize 98 = .ok (.aload_n 0, 1) := by decide +kernel
theorem dX13_tokenize_99 : decode cX13_tokenize 99 = .ok (.getfield 84, 3) := by decide +kernel
theorem dX13_tokenize_102 : decode cX13_tokenize 102 = .ok (.iaload, 1) := by decide +kernel
theorem dX13_tokenize_103 : decode cX13_tokenize 103 = .ok (.if_icmp .ge 13, 3) := by decide +kernel

theorem dX13_numberWorld_0 : decode cX13_numberWorld 0 = .ok (.iconst 0, 1) := by decide +kernel
theorem dX13_numberWorld_1 : decode cX13_numberWorld 1 = .ok (.istore_n 1, 1) := by decide +kernel
theorem dX13_numberWorld_2 : decode cX13_numberWorld 2 = .ok (.iload_n 1, 1) := by decide +kernel
theorem dX13_numberWorld_3 : decode cX13_numberWorld 3 = .ok (.sipush 216, 3) := by decide +kernel
theorem dX13_numberWorld_6 : decode cX13_numberWorld 6 = .ok (.if_icmp .ge 17, 3) := by decide +kernel
theorem dX13_numberWorld_9 : decode cX13_numberWorld 9 = .ok (.aload_n 0, 1) := by decide +kernel
theorem dX13_numberWorld_10 : decode cX13_numberWorld 10 = .ok (.getfield 1068, 3) := by decide +kernel
theorem dX13_numberWorld_13 : decode cX13_numberWorld 13 = .ok (.iload_n 1, 1) := by decide +kernel
theorem dX13_numberWorld_14 : decode cX13_numberWorld 14 = .ok (.bipush (-2), 2) := by decide +kernel
theorem dX13_numberWorld_16 : decode cX13_numberWorld 16 = .ok (.iastore, 1) := by decide +kernel
theorem dX13_numberWorld_17 : decode cX13_numberWorld 17 = .ok (.iinc 1 1, 3) := by decide +kernel
theorem dX13_numberWorld_20 : decode cX13_numberWorld 20 = .ok (.goto (-18), 3) := by decide +kernel
theorem dX13_numberWorld_23 : decode cX13_numberWorld 23 = .ok (.aload_n 0, 1) := by decide +kernel
theorem dX13_numberWorld_24 : decode cX13_numberWorld 24 = .ok (.iconst 0, 1) := by decide +kernel
theorem dX13_numberWorld_25 : decode cX13_numberWorld 25 = .ok (.putfield 1071, 3) := by decide +kernel
theorem dX13_numberWorld_28 : decode cX13_numberWorld 28 = .ok (.aload_n 0, 1) := by decide +kernel
theorem dX13_numberWorld_29 : decode cX13_numberWorld 29 = .ok (.sipush 204, 3) := by decide +kernel
theorem dX13_numberWorld_32 : decode cX13_numberWorld 32 = .ok (.invokevirtual 1074, 3) := by decide +kernel
theorem dX13_numberWorld_35 : decode cX13_numberWorld 35 = .ok (.aload_n 0, 1) := by decide +kernel
theorem dX13_numberWorld_36 : decode cX13_numberWorld 36 = .ok (.sipush 205, 3) := by decide +kernel
theorem dX13_numberWorld_39 : decode cX13_numberWorld 39 = .ok (.invokevirtual 1074, 3) := by decide +kernel
theorem dX13_numberWorld_42 : decode cX13_numberWorld 42 = .ok (.iconst 0, 1) := by decide +kernel
theorem dX13_numberWorld_43 : decode cX13_numberWorld 43 = .ok (.istore_n 1, 1) := by decide +kernel
theorem dX13_numberWorld_44 : decode cX13_numberWorld 44 = .ok (.iload_n 1, 1) := by decide +kernel
theorem dX13_numberWorld_45 : decode cX13_numberWorld 45 = .ok (.iconst 5, 1) := by decide +kernel
theorem dX13_numberWorld_46 : decode cX13_numberWorld 46 = .ok (.if_icmp .ge 74, 3) := by decide +kernel
theorem dX13_numberWorld_49 : decode cX13_numberWorld 49 = .ok (.iconst 0, 1) := by decide +kernel
theorem dX13_numberWorld_50 : decode cX13_numberWorld 50 = .ok (.istore_n 2, 1) := by decide +kernel
theorem dX13_numberWorld_51 : decode cX13_numberWorld 51 = .ok (.aload_n 0, 1) := by decide +kernel
theorem dX13_numberWorld_52 : decode cX13_numberWorld 52 = .ok (.getfield 535, 3) := by decide +kernel
theorem dX13_numberWorld_55 : decode cX13_numberWorld 55 = .ok (.iload_n 1, 1) := by decide +kernel
theorem dX13_numberWorld_56 : decode cX13_numberWorld 56 = .ok (.iaload, 1) := by decide +kernel
theorem dX13_numberWorld_57 : decode cX13_numberWorld 57 = .ok (.bipush (-2), 2) := by decide +kernel
theorem dX13_numberWorld_59 : decode cX13_numberWorld 59 = .ok (.if_icmp .eq 55, 3) := by decide +kernel
theorem dX13_numberWorld_114 : decode cX13_numberWorld 114 = .ok (.iinc 1 1, 3) := by decide +kernel
theorem dX13_numberWorld_117 : decode cX13_numberWorld 117 = .ok (.goto (-73), 3) := by decide +kernel
theorem dX13_numberWorld_120 : decode cX13_numberWorld 120 = .ok (.return_, 1) := by decide +kernel
theorem dX13_intoWorld_0 : decode cX13_intoWorld 0 = .ok (.aload_n 0, 1) := by decide +kernel
theorem dX13_intoWorld_1 : decode cX13_intoWorld 1 = .ok (.getfield 1077, 3) := by decide +kernel
theorem dX13_intoWorld_4 : decode cX13_intoWorld 4 = .ok (.aload_n 0, 1) := by decide +kernel
theorem dX13_intoWorld_5 : decode cX13_intoWorld 5 = .ok (.getfield 1071, 3) := by decide +kernel
theorem dX13_intoWorld_8 : decode cX13_intoWorld 8 = .ok (.iload_n 1, 1) := by decide +kernel
theorem dX13_intoWorld_9 : decode cX13_intoWorld 9 = .ok (.iastore, 1) := by decide +kernel
theorem dX13_intoWorld_10 : decode cX13_intoWorld 10 = .ok (.aload_n 0, 1) := by decide +kernel
theorem dX13_intoWorld_11 : decode cX13_intoWorld 11 = .ok (.getfield 1068, 3) := by decide +kernel
theorem dX13_intoWorld_14 : decode cX13_intoWorld 14 = .ok (.iload_n 1, 1) := by decide +kernel
theorem dX13_intoWorld_15 : decode cX13_intoWorld 15 = .ok (.aload_n 0, 1) := by decide +kernel
theorem dX13_intoWorld_16 : decode cX13_intoWorld 16 = .ok (.getfield 1071, 3) := by decide +kernel
theorem dX13_intoWorld_19 : decode cX13_intoWorld 19 = .ok (.iastore, 1) := by decide +kernel
theorem dX13_intoWorld_20 : decode cX13_intoWorld 20 = .ok (.aload_n 0, 1) := by decide +kernel
theorem dX13_intoWorld_21 : decode cX13_intoWorld 21 = .ok (.dup, 1) := by decide +kernel
theorem dX13_intoWorld_22 : decode cX13_intoWorld 22 = .ok (.getfield 1071, 3) := by decide +kernel
theorem dX13_intoWorld_25 : decode cX13_intoWorld 25 = .ok (.iconst 1, 1) := by decide +kernel
theorem dX13_intoWorld_26 : decode cX13_intoWorld 26 = .ok (.iadd, 1) := by decide +kernel
theorem dX13_intoWorld_27 : decode cX13_intoWorld 27 = .ok (.putfield 1071, 3) := by decide +kernel
theorem dX13_intoWorld_30 : decode cX13_intoWorld 30 = .ok (.return_, 1) := by decide +kernel
theorem dX13_clearSet_0 : decode cX13_clearSet 0 = .ok (.iconst 0, 1) := by decide +kernel
theorem dX13_clearSet_1 : decode cX13_clearSet 1 = .ok (.istore_n 2, 1) := by decide +kernel
theorem dX13_clearSet_2 : decode cX13_clearSet 2 = .ok (.iload_n 2, 1) := by decide +kernel
theorem dX13_clearSet_3 : decode cX13_clearSet 3 = .ok (.bipush 64, 2) := by decide +kernel
theorem dX13_clearSet_5 : decode cX13_clearSet 5 = .ok (.if_icmp .ge 36, 3) := by decide +kernel
theorem dX13_clearSet_8 : decode cX13_clearSet 8 = .ok (.aload_n 0, 1) := by decide +kernel
theorem dX13_clearSet_9 : decode cX13_clearSet 9 = .ok (.getfield 1089, 3) := by decide +kernel
theorem dX13_clearSet_12 : decode cX13_clearSet 12 = .ok (.iload_n 1, 1) := by decide +kernel
theorem dX13_clearSet_13 : decode cX13_clearSet 13 = .ok (.iload_n 2, 1) := by decide +kernel
theorem dX13_clearSet_14 : decode cX13_clearSet 14 = .ok (.iadd, 1) := by decide +kernel
theorem dX13_clearSet_15 : decode cX13_clearSet 15 = .ok (.iload_n 2, 1) := by decide +kernel
theorem dX13_clearSet_16 : decode cX13_clearSet 16 = .ok (.iconst 2, 1) := by decide +kernel
theorem dX13_clearSet_17 : decode cX13_clearSet 17 = .ok (.if_icmp .ge 7, 3) := by decide +kernel
theorem dX13_clearSet_20 : decode cX13_clearSet 20 = .ok (.iconst 4, 1) := by decide +kernel
theorem dX13_clearSet_21 : decode cX13_clearSet 21 = .ok (.goto 4, 3) := by decide +kernel
theorem dX13_clearSet_24 : decode cX13_clearSet 24 = .ok (.iconst 0, 1) := by decide +kernel
theorem dX13_clearSet_25 : decode cX13_clearSet 25 = .ok (.iastore, 1) := by decide +kernel
theorem dX13_clearSet_26 : decode cX13_clearSet 26 = .ok (.aload_n 0, 1) := by decide +kernel
theorem dX13_clearSet_27 : decode cX13_clearSet 27 = .ok (.getfield 1092, 3) := by decide +kernel
theorem dX13_clearSet_30 : decode cX13_clearSet 30 = .ok (.iload_n 1, 1) := by decide +kernel
theorem dX13_clearSet_31 : decode cX13_clearSet 31 = .ok (.iload_n 2, 1) := by decide +kernel
theorem dX13_clearSet_32 : decode cX13_clearSet 32 = .ok (.iadd, 1) := by decide +kernel
theorem dX13_clearSet_33 : decode cX13_clearSet 33 = .ok (.iconst 0, 1) := by decide +kernel
theorem dX13_clearSet_34 : decode cX13_clearSet 34 = .ok (.iastore, 1) := by decide +kernel
theorem dX13_clearSet_35 : decode cX13_clearSet 35 = .ok (.iinc 2 1, 3) := by decide +kernel
theorem dX13_clearSet_38 : decode cX13_clearSet 38 = .ok (.goto (-36), 3) := by decide +kernel
theorem dX13_clearSet_41 : decode cX13_clearSet 41 = .ok (.return_, 1) := by decide +kernel
theorem dX13_meet_0 : decode cX13_meet 0 = .ok (.aload_n 0, 1) := by decide +kernel
theorem dX13_meet_1 : decode cX13_meet 1 = .ok (.iload_n 1, 1) := by decide +kernel
theorem dX13_meet_2 : decode cX13_meet 2 = .ok (.iload_n 2, 1) := by decide +kernel
theorem dX13_meet_3 : decode cX13_meet 3 = .ok (.iload_n 3, 1) := by decide +kernel
theorem dX13_meet_4 : decode cX13_meet 4 = .ok (.invokevirtual 1062, 3) := by decide +kernel
theorem dX13_meet_7 : decode cX13_meet 7 = .ok (.istore 4, 2) := by decide +kernel
theorem dX13_meet_9 : decode cX13_meet 9 = .ok (.iload 4, 2) := by decide +kernel
theorem dX13_meet_11 : decode cX13_meet 11 = .ok (.bipush (-2), 2) := by decide +kernel
theorem dX13_meet_13 : decode cX13_meet 13 = .ok (.if_icmp .ne 5, 3) := by decide +kernel
theorem dX13_meet_16 : decode cX13_meet 16 = .ok (.iconst (-1), 1) := by decide +kernel
theorem dX13_meet_17 : decode cX13_meet 17 = .ok (.ireturn, 1) := by decide +kernel
theorem dX13_met_0 : decode cX13_met 0 = .ok (.aload_n 0, 1) := by decide +kernel
theorem dX13_met_1 : decode cX13_met 1 = .ok (.iconst 0, 1) := by decide +kernel
theorem dX13_met_2 : decode cX13_met 2 = .ok (.putfield 15, 3) := by decide +kernel
theorem dX13_met_5 : decode cX13_met 5 = .ok (.aload_n 0, 1) := by decide +kernel
theorem dX13_met_6 : decode cX13_met 6 = .ok (.getfield 1171, 3) := by decide +kernel
theorem dX13_met_9 : decode cX13_met 9 = .ok (.bipush (-2), 2) := by decide +kernel
theorem dX13_met_11 : decode cX13_met 11 = .ok (.if_icmp .eq 114, 3) := by decide +kernel
theorem dX13_met_125 : decode cX13_met 125 = .ok (.aload_n 0, 1) := by decide +kernel
theorem dX13_met_126 : decode cX13_met 126 = .ok (.getfield 15, 3) := by decide +kernel
theorem dX13_met_129 : decode cX13_met 129 = .ok (.ireturn, 1) := by decide +kernel
theorem dX13_looked_0 : decode cX13_looked 0 = .ok (.iload_n 1, 1) := by decide +kernel
theorem dX13_looked_1 : decode cX13_looked 1 = .ok (.ifCond .lt 11, 3) := by decide +kernel
theorem dX13_looked_4 : decode cX13_looked 4 = .ok (.iload_n 1, 1) := by decide +kernel
theorem dX13_looked_5 : decode cX13_looked 5 = .ok (.aload_n 0, 1) := by decide +kernel
theorem dX13_looked_6 : decode cX13_looked 6 = .ok (.getfield 1174, 3) := by decide +kernel
theorem dX13_looked_9 : decode cX13_looked 9 = .ok (.if_icmp .lt 7, 3) := by decide +kernel
theorem dX13_looked_12 : decode cX13_looked 12 = .ok (.iconst (-1), 1) := by decide +kernel
theorem dX13_looked_13 : decode cX13_looked 13 = .ok (.goto 9, 3) := by decide +kernel
theorem dX13_looked_22 : decode cX13_looked 22 = .ok (.ireturn, 1) := by decide +kernel
theorem dX13_broken_0 : decode cX13_broken 0 = .ok (.aload_n 0, 1) := by decide +kernel
theorem dX13_broken_1 : decode cX13_broken 1 = .ok (.iconst 0, 1) := by decide +kernel
theorem dX13_broken_2 : decode cX13_broken 2 = .ok (.putfield 1180, 3) := by decide +kernel
theorem dX13_broken_5 : decode cX13_broken 5 = .ok (.iconst 0, 1) := by decide +kernel
theorem dX13_broken_6 : decode cX13_broken 6 = .ok (.istore_n 1, 1) := by decide +kernel
theorem dX13_broken_7 : decode cX13_broken 7 = .ok (.iload_n 1, 1) := by decide +kernel
theorem dX13_broken_8 : decode cX13_broken 8 = .ok (.iconst 5, 1) := by decide +kernel
theorem dX13_broken_9 : decode cX13_broken 9 = .ok (.if_icmp .ge 138, 3) := by decide +kernel
theorem dX13_broken_12 : decode cX13_broken 12 = .ok (.aload_n 0, 1) := by decide +kernel
theorem dX13_broken_13 : decode cX13_broken 13 = .ok (.getfield 535, 3) := by decide +kernel
theorem dX13_broken_16 : decode cX13_broken 16 = .ok (.iload_n 1, 1) := by decide +kernel
theorem dX13_broken_17 : decode cX13_broken 17 = .ok (.iaload, 1) := by decide +kernel
theorem dX13_broken_18 : decode cX13_broken 18 = .ok (.istore_n 2, 1) := by decide +kernel
theorem dX13_broken_19 : decode cX13_broken 19 = .ok (.iconst 0, 1) := by decide +kernel
theorem dX13_broken_20 : decode cX13_broken 20 = .ok (.istore_n 3, 1) := by decide +kernel
theorem dX13_broken_21 : decode cX13_broken 21 = .ok (.iload_n 2, 1) := by decide +kernel
theorem dX13_broken_22 : decode cX13_broken 22 = .ok (.bipush (-2), 2) := by decide +kernel
theorem dX13_broken_24 : decode cX13_broken 24 = .ok (.if_icmp .eq 117, 3) := by decide +kernel
theorem dX13_broken_141 : decode cX13_broken 141 = .ok (.iinc 1 1, 3) := by decide +kernel
theorem dX13_broken_144 : decode cX13_broken 144 = .ok (.goto (-137), 3) := by decide +kernel
theorem dX13_broken_147 : decode cX13_broken 147 = .ok (.aload_n 0, 1) := by decide +kernel
theorem dX13_broken_148 : decode cX13_broken 148 = .ok (.getfield 1180, 3) := by decide +kernel
theorem dX13_broken_151 : decode cX13_broken 151 = .ok (.ireturn, 1) := by decide +kernel
theorem dX13_isBroken_0 : decode cX13_isBroken 0 = .ok (.iconst 0, 1) := by decide +kernel
theorem dX13_isBroken_1 : decode cX13_isBroken 1 = .ok (.istore_n 1, 1) := by decide +kernel
theorem dX13_isBroken_2 : decode cX13_isBroken 2 = .ok (.iload_n 1, 1) := by decide +kernel
theorem dX13_isBroken_3 : decode cX13_isBroken 3 = .ok (.iconst 5, 1) := by decide +kernel
theorem dX13_isBroken_4 : decode cX13_isBroken 4 = .ok (.if_icmp .ge 81, 3) := by decide +kernel
theorem dX13_isBroken_7 : decode cX13_isBroken 7 = .ok (.aload_n 0, 1) := by decide +kernel
theorem dX13_isBroken_8 : decode cX13_isBroken 8 = .ok (.getfield 535, 3) := by decide +kernel
theorem dX13_isBroken_11 : decode cX13_isBroken 11 = .ok (.iload_n 1, 1) := by decide +kernel
theorem dX13_isBroken_12 : decode cX13_isBroken 12 = .ok (.iaload, 1) := by decide +kernel
theorem dX13_isBroken_13 : decode cX13_isBroken 13 = .ok (.istore_n 2, 1) := by decide +kernel
theorem dX13_isBroken_14 : decode cX13_isBroken 14 = .ok (.iconst 0, 1) := by decide +kernel
theorem dX13_isBroken_15 : decode cX13_isBroken 15 = .ok (.istore_n 3, 1) := by decide +kernel
theorem dX13_isBroken_16 : decode cX13_isBroken 16 = .ok (.iload_n 2, 1) := by decide +kernel
theorem dX13_isBroken_17 : decode cX13_isBroken 17 = .ok (.bipush (-2), 2) := by decide +kernel
theorem dX13_isBroken_19 : decode cX13_isBroken 19 = .ok (.if_icmp .eq 60, 3) := by decide +kernel
theorem dX13_isBroken_79 : decode cX13_isBroken 79 = .ok (.iinc 1 1, 3) := by decide +kernel
theorem dX13_isBroken_82 : decode cX13_isBroken 82 = .ok (.goto (-80), 3) := by decide +kernel
theorem dX13_isBroken_85 : decode cX13_isBroken 85 = .ok (.iconst 0, 1) := by decide +kernel
theorem dX13_isBroken_86 : decode cX13_isBroken 86 = .ok (.ireturn, 1) := by decide +kernel
theorem dX13_brokenAt_0 : decode cX13_brokenAt 0 = .ok (.iload_n 1, 1) := by decide +kernel
theorem dX13_brokenAt_1 : decode cX13_brokenAt 1 = .ok (.ifCond .lt 20, 3) := by decide +kernel
theorem dX13_brokenAt_4 : decode cX13_brokenAt 4 = .ok (.iload_n 1, 1) := by decide +kernel
theorem dX13_brokenAt_5 : decode cX13_brokenAt 5 = .ok (.aload_n 0, 1) := by decide +kernel
theorem dX13_brokenAt_6 : decode cX13_brokenAt 6 = .ok (.getfield 1180, 3) := by decide +kernel
theorem dX13_brokenAt_9 : decode cX13_brokenAt 9 = .ok (.if_icmp .ge 12, 3) := by decide +kernel
theorem dX13_brokenAt_21 : decode cX13_brokenAt 21 = .ok (.iconst (-1), 1) := by decide +kernel
theorem dX13_brokenAt_22 : decode cX13_brokenAt 22 = .ok (.goto 13, 3) := by decide +kernel
theorem dX13_brokenAt_35 : decode cX13_brokenAt 35 = .ok (.ireturn, 1) := by decide +kernel
theorem dX13_stale_0 : decode cX13_stale 0 = .ok (.iconst 0, 1) := by decide +kernel
theorem dX13_stale_1 : decode cX13_stale 1 = .ok (.istore_n 1, 1) := by decide +kernel
theorem dX13_stale_2 : decode cX13_stale 2 = .ok (.iconst 0, 1) := by decide +kernel
theorem dX13_stale_3 : decode cX13_stale 3 = .ok (.istore_n 2, 1) := by decide +kernel
theorem dX13_stale_4 : decode cX13_stale 4 = .ok (.iload_n 2, 1) := by decide +kernel
theorem dX13_stale_5 : decode cX13_stale 5 = .ok (.iconst 5, 1) := by decide +kernel
theorem dX13_stale_6 : decode cX13_stale 6 = .ok (.if_icmp .ge 90, 3) := by decide +kernel
theorem dX13_stale_9 : decode cX13_stale 9 = .ok (.aload_n 0, 1) := by decide +kernel
theorem dX13_stale_10 : decode cX13_stale 10 = .ok (.getfield 535, 3) := by decide +kernel
theorem dX13_stale_13 : decode cX13_stale 13 = .ok (.iload_n 2, 1) := by decide +kernel
theorem dX13_stale_14 : decode cX13_stale 14 = .ok (.iaload, 1) := by decide +kernel
theorem dX13_stale_15 : decode cX13_stale 15 = .ok (.istore_n 3, 1) := by decide +kernel
theorem dX13_stale_16 : decode cX13_stale 16 = .ok (.iconst 0, 1) := by decide +kernel
theorem dX13_stale_17 : decode cX13_stale 17 = .ok (.istore 4, 2) := by decide +kernel
theorem dX13_stale_19 : decode cX13_stale 19 = .ok (.iload_n 3, 1) := by decide +kernel
theorem dX13_stale_20 : decode cX13_stale 20 = .ok (.bipush (-2), 2) := by decide +kernel
theorem dX13_stale_22 : decode cX13_stale 22 = .ok (.if_icmp .eq 68, 3) := by decide +kernel
theorem dX13_stale_90 : decode cX13_stale 90 = .ok (.iinc 2 1, 3) := by decide +kernel
theorem dX13_stale_93 : decode cX13_stale 93 = .ok (.goto (-89), 3) := by decide +kernel
theorem dX13_stale_96 : decode cX13_stale 96 = .ok (.iload_n 1, 1) := by decide +kernel
theorem dX13_stale_97 : decode cX13_stale 97 = .ok (.ireturn, 1) := by decide +kernel
theorem dX13_choose_0 : decode cX13_choose 0 = .ok (.iconst 0, 1) := by decide +kernel
theorem dX13_choose_1 : decode cX13_choose 1 = .ok (.istore_n 1, 1) := by decide +kernel
theorem dX13_choose_2 : decode cX13_choose 2 = .ok (.iload_n 1, 1) := by decide +kernel
theorem dX13_choose_3 : decode cX13_choose 3 = .ok (.iconst 5, 1) := by decide +kernel
theorem dX13_choose_4 : decode cX13_choose 4 = .ok (.if_icmp .ge 35, 3) := by decide +kernel
theorem dX13_choose_7 : decode cX13_choose 7 = .ok (.aload_n 0, 1) := by decide +kernel
theorem dX13_choose_8 : decode cX13_choose 8 = .ok (.getfield 1186, 3) := by decide +kernel
theorem dX13_choose_11 : decode cX13_choose 11 = .ok (.iload_n 1, 1) := by decide +kernel
theorem dX13_choose_12 : decode cX13_choose 12 = .ok (.aload_n 0, 1) := by decide +kernel
theorem dX13_choose_13 : decode cX13_choose 13 = .ok (.getfield 535, 3) := by decide +kernel
theorem dX13_choose_16 : decode cX13_choose 16 = .ok (.iload_n 1, 1) := by decide +kernel
theorem dX13_choose_17 : decode cX13_choose 17 = .ok (.iaload, 1) := by decide +kernel
theorem dX13_choose_18 : decode cX13_choose 18 = .ok (.iastore, 1) := by decide +kernel
theorem dX13_choose_19 : decode cX13_choose 19 = .ok (.aload_n 0, 1) := by decide +kernel
theorem dX13_choose_20 : decode cX13_choose 20 = .ok (.getfield 1189, 3) := by decide +kernel
theorem dX13_choose_23 : decode cX13_choose 23 = .ok (.iload_n 1, 1) := by decide +kernel
theorem dX13_choose_24 : decode cX13_choose 24 = .ok (.aload_n 0, 1) := by decide +kernel
theorem dX13_choose_25 : decode cX13_choose 25 = .ok (.getfield 947, 3) := by decide +kernel
theorem dX13_choose_28 : decode cX13_choose 28 = .ok (.iload_n 1, 1) := by decide +kernel
theorem dX13_choose_29 : decode cX13_choose 29 = .ok (.iaload, 1) := by decide +kernel
theorem dX13_choose_30 : decode cX13_choose 30 = .ok (.iconst 1, 1) := by decide +kernel
theorem dX13_choose_31 : decode cX13_choose 31 = .ok (.isub, 1) := by decide +kernel
theorem dX13_choose_32 : decode cX13_choose 32 = .ok (.iastore, 1) := by decide +kernel
theorem dX13_choose_33 : decode cX13_choose 33 = .ok (.iinc 1 1, 3) := by decide +kernel
theorem dX13_choose_36 : decode cX13_choose 36 = .ok (.goto (-34), 3) := by decide +kernel
theorem dX13_choose_39 : decode cX13_choose 39 = .ok (.iconst 0, 1) := by decide +kernel
theorem dX13_choose_40 : decode cX13_choose 40 = .ok (.istore_n 1, 1) := by decide +kernel
theorem dX13_choose_41 : decode cX13_choose 41 = .ok (.iconst 1, 1) := by decide +kernel
theorem dX13_choose_42 : decode cX13_choose 42 = .ok (.istore_n 2, 1) := by decide +kernel
theorem dX13_choose_43 : decode cX13_choose 43 = .ok (.iload_n 2, 1) := by decide +kernel
theorem dX13_choose_44 : decode cX13_choose 44 = .ok (.ifCond .eq 134, 3) := by decide +kernel
theorem dX13_choose_47 : decode cX13_choose 47 = .ok (.iconst 0, 1) := by decide +kernel
theorem dX13_choose_48 : decode cX13_choose 48 = .ok (.istore_n 3, 1) := by decide +kernel
theorem dX13_choose_49 : decode cX13_choose 49 = .ok (.iload_n 3, 1) := by decide +kernel
theorem dX13_choose_50 : decode cX13_choose 50 = .ok (.iconst 5, 1) := by decide +kernel
theorem dX13_choose_51 : decode cX13_choose 51 = .ok (.if_icmp .ge 45, 3) := by decide +kernel
theorem dX13_choose_54 : decode cX13_choose 54 = .ok (.aload_n 0, 1) := by decide +kernel
theorem dX13_choose_55 : decode cX13_choose 55 = .ok (.getfield 535, 3) := by decide +kernel
theorem dX13_choose_58 : decode cX13_choose 58 = .ok (.iload_n 3, 1) := by decide +kernel
theorem dX13_choose_59 : decode cX13_choose 59 = .ok (.aload_n 0, 1) := by decide +kernel
theorem dX13_choose_60 : decode cX13_choose 60 = .ok (.getfield 1189, 3) := by decide +kernel
theorem dX13_choose_63 : decode cX13_choose 63 = .ok (.iload_n 3, 1) := by decide +kernel
theorem dX13_choose_64 : decode cX13_choose 64 = .ok (.iaload, 1) := by decide +kernel
theorem dX13_choose_65 : decode cX13_choose 65 = .ok (.ifCond .ge 8, 3) := by decide +kernel
theorem dX13_choose_68 : decode cX13_choose 68 = .ok (.bipush (-2), 2) := by decide +kernel
theorem dX13_choose_70 : decode cX13_choose 70 = .ok (.goto 19, 3) := by decide +kernel
theorem dX13_choose_89 : decode cX13_choose 89 = .ok (.iastore, 1) := by decide +kernel
theorem dX13_choose_90 : decode cX13_choose 90 = .ok (.iinc 3 1, 3) := by decide +kernel
theorem dX13_choose_93 : decode cX13_choose 93 = .ok (.goto (-44), 3) := by decide +kernel
theorem dX13_choose_96 : decode cX13_choose 96 = .ok (.aload_n 0, 1) := by decide +kernel
theorem dX13_choose_97 : decode cX13_choose 97 = .ok (.invokevirtual 1192, 3) := by decide +kernel
theorem dX13_choose_100 : decode cX13_choose 100 = .ok (.iinc 1 1, 3) := by decide +kernel
theorem dX13_choose_103 : decode cX13_choose 103 = .ok (.aload_n 0, 1) := by decide +kernel
theorem dX13_choose_104 : decode cX13_choose 104 = .ok (.invokevirtual 1195, 3) := by decide +kernel
theorem dX13_choose_107 : decode cX13_choose 107 = .ok (.ifCond .ne 9, 3) := by decide +kernel
theorem dX13_choose_110 : decode cX13_choose 110 = .ok (.aload_n 0, 1) := by decide +kernel
theorem dX13_choose_111 : decode cX13_choose 111 = .ok (.invokevirtual 998, 3) := by decide +kernel
theorem dX13_choose_114 : decode cX13_choose 114 = .ok (.iload_n 1, 1) := by decide +kernel
theorem dX13_choose_115 : decode cX13_choose 115 = .ok (.ireturn, 1) := by decide +kernel
theorem dX13_settle_0 : decode cX13_settle 0 = .ok (.aload_n 0, 1) := by decide +kernel
theorem dX13_settle_1 : decode cX13_settle 1 = .ok (.invokevirtual 1192, 3) := by decide +kernel
theorem dX13_settle_4 : decode cX13_settle 4 = .ok (.aload_n 0, 1) := by decide +kernel
theorem dX13_settle_5 : decode cX13_settle 5 = .ok (.iconst 0, 1) := by decide +kernel
theorem dX13_settle_6 : decode cX13_settle 6 = .ok (.putfield 1180, 3) := by decide +kernel
theorem dX13_settle_9 : decode cX13_settle 9 = .ok (.aload_n 0, 1) := by decide +kernel
theorem dX13_settle_10 : decode cX13_settle 10 = .ok (.iconst 0, 1) := by decide +kernel
theorem dX13_settle_11 : decode cX13_settle 11 = .ok (.invokevirtual 1163, 3) := by decide +kernel
theorem dX13_settle_14 : decode cX13_settle 14 = .ok (.aload_n 0, 1) := by decide +kernel
theorem dX13_settle_15 : decode cX13_settle 15 = .ok (.iconst 0, 1) := by decide +kernel
theorem dX13_settle_16 : decode cX13_settle 16 = .ok (.putfield 1086, 3) := by decide +kernel
theorem dX13_settle_19 : decode cX13_settle 19 = .ok (.aload_n 0, 1) := by decide +kernel
theorem dX13_settle_20 : decode cX13_settle 20 = .ok (.iconst 0, 1) := by decide +kernel
theorem dX13_settle_21 : decode cX13_settle 21 = .ok (.putfield 1198, 3) := by decide +kernel
theorem dX13_settle_24 : decode cX13_settle 24 = .ok (.aload_n 0, 1) := by decide +kernel
theorem dX13_settle_25 : decode cX13_settle 25 = .ok (.iconst 0, 1) := by decide +kernel
theorem dX13_settle_26 : decode cX13_settle 26 = .ok (.putfield 1201, 3) := by decide +kernel
theorem dX13_settle_29 : decode cX13_settle 29 = .ok (.iconst 0, 1) := by decide +kernel
theorem dX13_settle_30 : decode cX13_settle 30 = .ok (.istore_n 1, 1) := by decide +kernel
theorem dX13_settle_31 : decode cX13_settle 31 = .ok (.iload_n 1, 1) := by decide +kernel
theorem dX13_settle_32 : decode cX13_settle 32 = .ok (.sipush 7344, 3) := by decide +kernel
theorem dX13_settle_35 : decode cX13_settle 35 = .ok (.if_icmp .ge 16, 3) := by decide +kernel
theorem dX13_settle_38 : decode cX13_settle 38 = .ok (.aload_n 0, 1) := by decide +kernel
theorem dX13_settle_39 : decode cX13_settle 39 = .ok (.getfield 1204, 3) := by decide +kernel
theorem dX13_settle_42 : decode cX13_settle 42 = .ok (.iload_n 1, 1) := by decide +kernel
theorem dX13_settle_43 : decode cX13_settle 43 = .ok (.iconst 0, 1) := by decide +kernel
theorem dX13_settle_44 : decode cX13_settle 44 = .ok (.iastore, 1) := by decide +kernel
theorem dX13_settle_45 : decode cX13_settle 45 = .ok (.iinc 1 1, 3) := by decide +kernel
theorem dX13_settle_48 : decode cX13_settle 48 = .ok (.goto (-17), 3) := by decide +kernel
theorem dX13_settle_51 : decode cX13_settle 51 = .ok (.return_, 1) := by decide +kernel
theorem dX13_fresh_0 : decode cX13_fresh 0 = .ok (.iconst 0, 1) := by decide +kernel
theorem dX13_fresh_1 : decode cX13_fresh 1 = .ok (.istore_n 1, 1) := by decide +kernel
theorem dX13_fresh_2 : decode cX13_fresh 2 = .ok (.iconst 2, 1) := by decide +kernel
theorem dX13_fresh_3 : decode cX13_fresh 3 = .ok (.istore_n 2, 1) := by decide +kernel
theorem dX13_fresh_4 : decode cX13_fresh 4 = .ok (.iload_n 2, 1) := by decide +kernel
theorem dX13_fresh_5 : decode cX13_fresh 5 = .ok (.aload_n 0, 1) := by decide +kernel
theorem dX13_fresh_6 : decode cX13_fresh 6 = .ok (.getfield 1071, 3) := by decide +kernel
theorem dX13_fresh_9 : decode cX13_fresh 9 = .ok (.if_icmp .ge 33, 3) := by decide +kernel
theorem dX13_fresh_42 : decode cX13_fresh 42 = .ok (.aload_n 0, 1) := by decide +kernel
theorem dX13_fresh_43 : decode cX13_fresh 43 = .ok (.getfield 1180, 3) := by decide +kernel
theorem dX13_fresh_46 : decode cX13_fresh 46 = .ok (.istore_n 2, 1) := by decide +kernel
theorem dX13_fresh_47 : decode cX13_fresh 47 = .ok (.aload_n 0, 1) := by decide +kernel
theorem dX13_fresh_48 : decode cX13_fresh 48 = .ok (.invokevirtual 998, 3) := by decide +kernel
theorem dX13_fresh_51 : decode cX13_fresh 51 = .ok (.aload_n 0, 1) := by decide +kernel
theorem dX13_fresh_52 : decode cX13_fresh 52 = .ok (.iload_n 2, 1) := by decide +kernel
theorem dX13_fresh_53 : decode cX13_fresh 53 = .ok (.putfield 1180, 3) := by decide +kernel
theorem dX13_fresh_56 : decode cX13_fresh 56 = .ok (.iload_n 1, 1) := by decide +kernel
theorem dX13_fresh_57 : decode cX13_fresh 57 = .ok (.ireturn, 1) := by decide +kernel
theorem dX13_touch_0 : decode cX13_touch 0 = .ok (.aload_n 0, 1) := by decide +kernel
theorem dX13_touch_1 : decode cX13_touch 1 = .ok (.iload_n 1, 1) := by decide +kernel
theorem dX13_touch_2 : decode cX13_touch 2 = .ok (.iload_n 2, 1) := by decide +kernel
theorem dX13_touch_3 : decode cX13_touch 3 = .ok (.iload_n 3, 1) := by decide +kernel
theorem dX13_touch_4 : decode cX13_touch 4 = .ok (.invokevirtual 1062, 3) := by decide +kernel
theorem dX13_touch_7 : decode cX13_touch 7 = .ok (.istore 4, 2) := by decide +kernel
theorem dX13_touch_9 : decode cX13_touch 9 = .ok (.iload 4, 2) := by decide +kernel
theorem dX13_touch_11 : decode cX13_touch 11 = .ok (.bipush (-2), 2) := by decide +kernel
theorem dX13_touch_13 : decode cX13_touch 13 = .ok (.if_icmp .ne 7, 3) := by decide +kernel
theorem dX13_touch_16 : decode cX13_touch 16 = .ok (.iconst (-1), 1) := by decide +kernel
theorem dX13_touch_17 : decode cX13_touch 17 = .ok (.goto 24, 3) := by decide +kernel
theorem dX13_touch_41 : decode cX13_touch 41 = .ok (.ireturn, 1) := by decide +kernel
theorem dX13_named_0 : decode cX13_named 0 = .ok (.iconst 0, 1) := by decide +kernel
theorem dX13_named_1 : decode cX13_named 1 = .ok (.istore_n 1, 1) := by decide +kernel
theorem dX13_named_2 : decode cX13_named 2 = .ok (.iconst 0, 1) := by decide +kernel
theorem dX13_named_3 : decode cX13_named 3 = .ok (.istore_n 2, 1) := by decide +kernel
theorem dX13_named_4 : decode cX13_named 4 = .ok (.aload_n 0, 1) := by decide +kernel
theorem dX13_named_5 : decode cX13_named 5 = .ok (.getfield 57, 3) := by decide +kernel
theorem dX13_named_8 : decode cX13_named 8 = .ok (.iconst 5, 1) := by decide +kernel
theorem dX13_named_9 : decode cX13_named 9 = .ok (.if_icmp .lt 38, 3) := by decide +kernel
theorem dX13_named_47 : decode cX13_named 47 = .ok (.bipush (-2), 2) := by decide +kernel
theorem dX13_named_49 : decode cX13_named 49 = .ok (.ireturn, 1) := by decide +kernel
theorem dX13_run_0 : decode cX13_run 0 = .ok (.aload_n 0, 1) := by decide +kernel
theorem dX13_run_1 : decode cX13_run 1 = .ok (.invokevirtual 1370, 3) := by decide +kernel
theorem dX13_run_4 : decode cX13_run 4 = .ok (.istore_n 1, 1) := by decide +kernel
theorem dX13_run_5 : decode cX13_run 5 = .ok (.aload_n 0, 1) := by decide +kernel
theorem dX13_run_6 : decode cX13_run 6 = .ok (.iconst 0, 1) := by decide +kernel
theorem dX13_run_7 : decode cX13_run 7 = .ok (.putfield 57, 3) := by decide +kernel
theorem dX13_run_10 : decode cX13_run 10 = .ok (.iload_n 1, 1) := by decide +kernel
theorem dX13_run_11 : decode cX13_run 11 = .ok (.bipush (-2), 2) := by decide +kernel
theorem dX13_run_13 : decode cX13_run 13 = .ok (.if_icmp .ne 6, 3) := by decide +kernel
theorem dX13_run_16 : decode cX13_run 16 = .ok (.bipush (-2), 2) := by decide +kernel
theorem dX13_run_18 : decode cX13_run 18 = .ok (.ireturn, 1) := by decide +kernel
theorem dX13_value_0 : decode cX13_value 0 = .ok (.aload_n 0, 1) := by decide +kernel
theorem dX13_value_1 : decode cX13_value 1 = .ok (.getfield 1373, 3) := by decide +kernel
theorem dX13_value_4 : decode cX13_value 4 = .ok (.ireturn, 1) := by decide +kernel
theorem dX13_told_0 : decode cX13_told 0 = .ok (.iload_n 1, 1) := by decide +kernel
theorem dX13_told_1 : decode cX13_told 1 = .ok (.ifCond .lt 9, 3) := by decide +kernel
theorem dX13_told_4 : decode cX13_told 4 = .ok (.iload_n 1, 1) := by decide +kernel
theorem dX13_told_5 : decode cX13_told 5 = .ok (.bipush 7, 2) := by decide +kernel
theorem dX13_told_7 : decode cX13_told 7 = .ok (.if_icmp .le 5, 3) := by decide +kernel
theorem dX13_told_10 : decode cX13_told 10 = .ok (.iconst (-1), 1) := by decide +kernel
theorem dX13_told_11 : decode cX13_told 11 = .ok (.ireturn, 1) := by decide +kernel
theorem dX13_told_12 : decode cX13_told 12 = .ok (.iload_n 1, 1) := by decide +kernel
theorem dX13_told_13 : decode cX13_told 13 = .ok (.tableswitch 78 0 6 #[43, 48, 53, 58, 63, 68, 73], 43) := by decide +kernel
theorem dX13_told_56 : decode cX13_told 56 = .ok (.aload_n 0, 1) := by decide +kernel
theorem dX13_told_57 : decode cX13_told 57 = .ok (.getfield 1268, 3) := by decide +kernel
theorem dX13_told_60 : decode cX13_told 60 = .ok (.ireturn, 1) := by decide +kernel
theorem dX13_told_61 : decode cX13_told 61 = .ok (.aload_n 0, 1) := by decide +kernel
theorem dX13_told_62 : decode cX13_told 62 = .ok (.getfield 1358, 3) := by decide +kernel
theorem dX13_told_65 : decode cX13_told 65 = .ok (.ireturn, 1) := by decide +kernel
theorem dX13_told_66 : decode cX13_told 66 = .ok (.aload_n 0, 1) := by decide +kernel
theorem dX13_told_67 : decode cX13_told 67 = .ok (.getfield 1198, 3) := by decide +kernel
theorem dX13_told_70 : decode cX13_told 70 = .ok (.ireturn, 1) := by decide +kernel
theorem dX13_told_71 : decode cX13_told 71 = .ok (.aload_n 0, 1) := by decide +kernel
theorem dX13_told_72 : decode cX13_told 72 = .ok (.getfield 1201, 3) := by decide +kernel
theorem dX13_told_75 : decode cX13_told 75 = .ok (.ireturn, 1) := by decide +kernel
theorem dX13_told_76 : decode cX13_told 76 = .ok (.aload_n 0, 1) := by decide +kernel
theorem dX13_told_77 : decode cX13_told 77 = .ok (.getfield 1086, 3) := by decide +kernel
theorem dX13_told_80 : decode cX13_told 80 = .ok (.ireturn, 1) := by decide +kernel
theorem dX13_told_81 : decode cX13_told 81 = .ok (.aload_n 0, 1) := by decide +kernel
theorem dX13_told_82 : decode cX13_told 82 = .ok (.getfield 1071, 3) := by decide +kernel
theorem dX13_told_85 : decode cX13_told 85 = .ok (.ireturn, 1) := by decide +kernel
theorem dX13_told_86 : decode cX13_told 86 = .ok (.aload_n 0, 1) := by decide +kernel
theorem dX13_told_87 : decode cX13_told 87 = .ok (.getfield 57, 3) := by decide +kernel
theorem dX13_told_90 : decode cX13_told 90 = .ok (.ireturn, 1) := by decide +kernel
theorem dX13_told_91 : decode cX13_told 91 = .ok (.aload_n 0, 1) := by decide +kernel
theorem dX13_told_92 : decode cX13_told 92 = .ok (.getfield 950, 3) := by decide +kernel
theorem dX13_told_95 : decode cX13_told 95 = .ok (.ireturn, 1) := by decide +kernel
theorem dX13_number_0 : decode cX13_number 0 = .ok (.iload_n 1, 1) := by decide +kernel
theorem dX13_number_1 : decode cX13_number 1 = .ok (.ifCond .lt 11, 3) := by decide +kernel
theorem dX13_number_4 : decode cX13_number 4 = .ok (.iload_n 1, 1) := by decide +kernel
theorem dX13_number_5 : decode cX13_number 5 = .ok (.aload_n 0, 1) := by decide +kernel
theorem dX13_number_6 : decode cX13_number 6 = .ok (.getfield 1358, 3) := by decide +kernel
theorem dX13_number_9 : decode cX13_number 9 = .ok (.if_icmp .lt 7, 3) := by decide +kernel
theorem dX13_number_12 : decode cX13_number 12 = .ok (.iconst 0, 1) := by decide +kernel
theorem dX13_number_13 : decode cX13_number 13 = .ok (.goto 9, 3) := by decide +kernel
theorem dX13_number_22 : decode cX13_number 22 = .ok (.ireturn, 1) := by decide +kernel
theorem dX13_event__0 : decode cX13_event_ 0 = .ok (.iload_n 1, 1) := by decide +kernel
theorem dX13_event__1 : decode cX13_event_ 1 = .ok (.ifCond .lt 11, 3) := by decide +kernel
theorem dX13_event__4 : decode cX13_event_ 4 = .ok (.iload_n 1, 1) := by decide +kernel
theorem dX13_event__5 : decode cX13_event_ 5 = .ok (.aload_n 0, 1) := by decide +kernel
theorem dX13_event__6 : decode cX13_event_ 6 = .ok (.getfield 1086, 3) := by decide +kernel
theorem dX13_event__9 : decode cX13_event_ 9 = .ok (.if_icmp .lt 7, 3) := by decide +kernel
theorem dX13_event__12 : decode cX13_event_ 12 = .ok (.iconst (-1), 1) := by decide +kernel
theorem dX13_event__13 : decode cX13_event_ 13 = .ok (.goto 9, 3) := by decide +kernel
theorem dX13_event__22 : decode cX13_event_ 22 = .ok (.ireturn, 1) := by decide +kernel
theorem dX13_name_0 : decode cX13_name 0 = .ok (.iload_n 1, 1) := by decide +kernel
theorem dX13_name_1 : decode cX13_name 1 = .ok (.ifCond .lt 11, 3) := by decide +kernel
theorem dX13_name_4 : decode cX13_name 4 = .ok (.iload_n 1, 1) := by decide +kernel
theorem dX13_name_5 : decode cX13_name 5 = .ok (.aload_n 0, 1) := by decide +kernel
theorem dX13_name_6 : decode cX13_name 6 = .ok (.getfield 1071, 3) := by decide +kernel
theorem dX13_name_9 : decode cX13_name 9 = .ok (.if_icmp .lt 5, 3) := by decide +kernel
theorem dX13_name_12 : decode cX13_name 12 = .ok (.iconst (-1), 1) := by decide +kernel
theorem dX13_name_13 : decode cX13_name 13 = .ok (.ireturn, 1) := by decide +kernel
theorem dX13_name_14 : decode cX13_name 14 = .ok (.aload_n 0, 1) := by decide +kernel
theorem dX13_name_15 : decode cX13_name 15 = .ok (.iconst 0, 1) := by decide +kernel
theorem dX13_name_16 : decode cX13_name 16 = .ok (.putfield 15, 3) := by decide +kernel
theorem dX13_name_19 : decode cX13_name 19 = .ok (.aload_n 0, 1) := by decide +kernel
theorem dX13_name_20 : decode cX13_name 20 = .ok (.aload_n 0, 1) := by decide +kernel
theorem dX13_name_21 : decode cX13_name 21 = .ok (.getfield 256, 3) := by decide +kernel
theorem dX13_name_24 : decode cX13_name 24 = .ok (.aload_n 0, 1) := by decide +kernel
theorem dX13_name_25 : decode cX13_name 25 = .ok (.getfield 1077, 3) := by decide +kernel
theorem dX13_name_28 : decode cX13_name 28 = .ok (.iload_n 1, 1) := by decide +kernel
theorem dX13_name_29 : decode cX13_name 29 = .ok (.iaload, 1) := by decide +kernel
theorem dX13_name_30 : decode cX13_name 30 = .ok (.laload, 1) := by decide +kernel
theorem dX13_name_31 : decode cX13_name 31 = .ok (.invokevirtual 53, 3) := by decide +kernel
theorem dX13_name_34 : decode cX13_name 34 = .ok (.aload_n 0, 1) := by decide +kernel
theorem dX13_name_35 : decode cX13_name 35 = .ok (.getfield 15, 3) := by decide +kernel
theorem dX13_name_38 : decode cX13_name 38 = .ok (.ireturn, 1) := by decide +kernel
theorem dX13_state_0 : decode cX13_state 0 = .ok (.iload_n 1, 1) := by decide +kernel
theorem dX13_state_1 : decode cX13_state 1 = .ok (.ifCond .lt 11, 3) := by decide +kernel
theorem dX13_state_4 : decode cX13_state 4 = .ok (.iload_n 1, 1) := by decide +kernel
theorem dX13_state_5 : decode cX13_state 5 = .ok (.aload_n 0, 1) := by decide +kernel
theorem dX13_state_6 : decode cX13_state 6 = .ok (.getfield 1071, 3) := by decide +kernel
theorem dX13_state_9 : decode cX13_state 9 = .ok (.if_icmp .lt 7, 3) := by decide +kernel
theorem dX13_state_12 : decode cX13_state 12 = .ok (.iconst (-1), 1) := by decide +kernel
theorem dX13_state_13 : decode cX13_state 13 = .ok (.goto 9, 3) := by decide +kernel
theorem dX13_state_16 : decode cX13_state 16 = .ok (.aload_n 0, 1) := by decide +kernel
theorem dX13_state_17 : decode cX13_state 17 = .ok (.getfield 1089, 3) := by decide +kernel
theorem dX13_state_20 : decode cX13_state 20 = .ok (.iload_n 1, 1) := by decide +kernel
theorem dX13_state_21 : decode cX13_state 21 = .ok (.iaload, 1) := by decide +kernel
theorem dX13_state_22 : decode cX13_state 22 = .ok (.ireturn, 1) := by decide +kernel
theorem dX13_classOf_0 : decode cX13_classOf 0 = .ok (.iload_n 1, 1) := by decide +kernel
theorem dX13_classOf_1 : decode cX13_classOf 1 = .ok (.iconst 1, 1) := by decide +kernel
theorem dX13_classOf_2 : decode cX13_classOf 2 = .ok (.if_icmp .lt 11, 3) := by decide +kernel
theorem dX13_classOf_5 : decode cX13_classOf 5 = .ok (.iload_n 1, 1) := by decide +kernel
theorem dX13_classOf_6 : decode cX13_classOf 6 = .ok (.aload_n 0, 1) := by decide +kernel
theorem dX13_classOf_7 : decode cX13_classOf 7 = .ok (.getfield 1198, 3) := by decide +kernel
theorem dX13_classOf_10 : decode cX13_classOf 10 = .ok (.if_icmp .le 7, 3) := by decide +kernel
theorem dX13_classOf_13 : decode cX13_classOf 13 = .ok (.iconst (-1), 1) := by decide +kernel
theorem dX13_classOf_14 : decode cX13_classOf 14 = .ok (.goto 14, 3) := by decide +kernel
theorem dX13_classOf_28 : decode cX13_classOf 28 = .ok (.ireturn, 1) := by decide +kernel
theorem dX13_fieldOf_0 : decode cX13_fieldOf 0 = .ok (.iload_n 1, 1) := by decide +kernel
theorem dX13_fieldOf_1 : decode cX13_fieldOf 1 = .ok (.iconst 1, 1) := by decide +kernel
theorem dX13_fieldOf_2 : decode cX13_fieldOf 2 = .ok (.if_icmp .lt 38, 3) := by decide +kernel
theorem dX13_fieldOf_5 : decode cX13_fieldOf 5 = .ok (.iload_n 1, 1) := by decide +kernel
theorem dX13_fieldOf_6 : decode cX13_fieldOf 6 = .ok (.aload_n 0, 1) := by decide +kernel
theorem dX13_fieldOf_7 : decode cX13_fieldOf 7 = .ok (.getfield 1198, 3) := by decide +kernel
theorem dX13_fieldOf_10 : decode cX13_fieldOf 10 = .ok (.if_icmp .gt 30, 3) := by decide +kernel
theorem dX13_fieldOf_40 : decode cX13_fieldOf 40 = .ok (.iconst 0, 1) := by decide +kernel
theorem dX13_fieldOf_41 : decode cX13_fieldOf 41 = .ok (.istore_n 3, 1) := by decide +kernel
theorem dX13_fieldOf_42 : decode cX13_fieldOf 42 = .ok (.iload_n 3, 1) := by decide +kernel
theorem dX13_fieldOf_43 : decode cX13_fieldOf 43 = .ok (.ifCond .eq 19, 3) := by decide +kernel
theorem dX13_fieldOf_62 : decode cX13_fieldOf 62 = .ok (.iconst 0, 1) := by decide +kernel
theorem dX13_fieldOf_63 : decode cX13_fieldOf 63 = .ok (.ireturn, 1) := by decide +kernel
theorem dX13_differ_0 : decode cX13_differ 0 = .ok (.aload_n 0, 1) := by decide +kernel
theorem dX13_differ_1 : decode cX13_differ 1 = .ok (.iload_n 1, 1) := by decide +kernel
theorem dX13_differ_2 : decode cX13_differ 2 = .ok (.iload_n 2, 1) := by decide +kernel
theorem dX13_differ_3 : decode cX13_differ 3 = .ok (.invokevirtual 992, 3) := by decide +kernel
theorem dX13_differ_6 : decode cX13_differ 6 = .ok (.istore 4, 2) := by decide +kernel
theorem dX13_differ_8 : decode cX13_differ 8 = .ok (.aload_n 0, 1) := by decide +kernel
theorem dX13_differ_9 : decode cX13_differ 9 = .ok (.iload_n 1, 1) := by decide +kernel
theorem dX13_differ_10 : decode cX13_differ 10 = .ok (.iload_n 3, 1) := by decide +kernel
theorem dX13_differ_11 : decode cX13_differ 11 = .ok (.invokevirtual 992, 3) := by decide +kernel
theorem dX13_differ_14 : decode cX13_differ 14 = .ok (.istore 5, 2) := by decide +kernel
theorem dX13_differ_16 : decode cX13_differ 16 = .ok (.iload 4, 2) := by decide +kernel
theorem dX13_differ_18 : decode cX13_differ 18 = .ok (.bipush (-2), 2) := by decide +kernel
theorem dX13_differ_20 : decode cX13_differ 20 = .ok (.if_icmp .eq 10, 3) := by decide +kernel
theorem dX13_differ_30 : decode cX13_differ 30 = .ok (.iconst (-1), 1) := by decide +kernel
theorem dX13_differ_31 : decode cX13_differ 31 = .ok (.ireturn, 1) := by decide +kernel
theorem dX13_change_0 : decode cX13_change 0 = .ok (.iload_n 1, 1) := by decide +kernel
theorem dX13_change_1 : decode cX13_change 1 = .ok (.ifCond .lt 20, 3) := by decide +kernel
theorem dX13_change_4 : decode cX13_change 4 = .ok (.iload_n 1, 1) := by decide +kernel
theorem dX13_change_5 : decode cX13_change 5 = .ok (.aload_n 0, 1) := by decide +kernel
theorem dX13_change_6 : decode cX13_change 6 = .ok (.getfield 1376, 3) := by decide +kernel
theorem dX13_change_9 : decode cX13_change 9 = .ok (.if_icmp .ge 12, 3) := by decide +kernel
theorem dX13_change_21 : decode cX13_change 21 = .ok (.iconst (-1), 1) := by decide +kernel
theorem dX13_change_22 : decode cX13_change 22 = .ok (.goto 13, 3) := by decide +kernel
theorem dX13_change_35 : decode cX13_change 35 = .ok (.ireturn, 1) := by decide +kernel
theorem dX13_word_0 : decode cX13_word 0 = .ok (.aload_n 0, 1) := by decide +kernel
theorem dX13_word_1 : decode cX13_word 1 = .ok (.iload_n 1, 1) := by decide +kernel
theorem dX13_word_2 : decode cX13_word 2 = .ok (.iload_n 2, 1) := by decide +kernel
theorem dX13_word_3 : decode cX13_word 3 = .ok (.invokevirtual 992, 3) := by decide +kernel
theorem dX13_word_6 : decode cX13_word 6 = .ok (.istore 4, 2) := by decide +kernel
theorem dX13_word_8 : decode cX13_word 8 = .ok (.aload_n 0, 1) := by decide +kernel
theorem dX13_word_9 : decode cX13_word 9 = .ok (.iload_n 1, 1) := by decide +kernel
theorem dX13_word_10 : decode cX13_word 10 = .ok (.iload_n 3, 1) := by decide +kernel
theorem dX13_word_11 : decode cX13_word 11 = .ok (.invokevirtual 992, 3) := by decide +kernel
theorem dX13_word_14 : decode cX13_word 14 = .ok (.istore 5, 2) := by decide +kernel
theorem dX13_word_16 : decode cX13_word 16 = .ok (.iload 4, 2) := by decide +kernel
theorem dX13_word_18 : decode cX13_word 18 = .ok (.bipush (-2), 2) := by decide +kernel
theorem dX13_word_20 : decode cX13_word 20 = .ok (.if_icmp .eq 10, 3) := by decide +kernel
theorem dX13_word_30 : decode cX13_word 30 = .ok (.iconst (-1), 1) := by decide +kernel
theorem dX13_word_31 : decode cX13_word 31 = .ok (.ireturn, 1) := by decide +kernel
theorem dX13_weave_0 : decode cX13_weave 0 = .ok (.aload_n 0, 1) := by decide +kernel
theorem dX13_weave_1 : decode cX13_weave 1 = .ok (.iload_n 1, 1) := by decide +kernel
theorem dX13_weave_2 : decode cX13_weave 2 = .ok (.iload_n 2, 1) := by decide +kernel
theorem dX13_weave_3 : decode cX13_weave 3 = .ok (.invokevirtual 992, 3) := by decide +kernel
theorem dX13_weave_6 : decode cX13_weave 6 = .ok (.istore 4, 2) := by decide +kernel
theorem dX13_weave_8 : decode cX13_weave 8 = .ok (.aload_n 0, 1) := by decide +kernel
theorem dX13_weave_9 : decode cX13_weave 9 = .ok (.iload_n 1, 1) := by decide +kernel
theorem dX13_weave_10 : decode cX13_weave 10 = .ok (.iload_n 3, 1) := by decide +kernel
theorem dX13_weave_11 : decode cX13_weave 11 = .ok (.invokevirtual 992, 3) := by decide +kernel
theorem dX13_weave_14 : decode cX13_weave 14 = .ok (.istore 5, 2) := by decide +kernel
theorem dX13_weave_16 : decode cX13_weave 16 = .ok (.iload 4, 2) := by decide +kernel
theorem dX13_weave_18 : decode cX13_weave 18 = .ok (.bipush (-2), 2) := by decide +kernel
theorem dX13_weave_20 : decode cX13_weave 20 = .ok (.if_icmp .eq 10, 3) := by decide +kernel
theorem dX13_weave_30 : decode cX13_weave 30 = .ok (.iconst (-1), 1) := by decide +kernel
theorem dX13_weave_31 : decode cX13_weave 31 = .ok (.ireturn, 1) := by decide +kernel
theorem dX13_init_0 : decode cX13_init 0 = .ok (.aload_n 0, 1) := by decide +kernel
theorem dX13_init_1 : decode cX13_init 1 = .ok (.invokespecial 1480, 3) := by decide +kernel
theorem dX13_init_4 : decode cX13_init 4 = .ok (.aload_n 0, 1) := by decide +kernel
theorem dX13_init_5 : decode cX13_init 5 = .ok (.sipush 4000, 3) := by decide +kernel
theorem dX13_init_8 : decode cX13_init 8 = .ok (.newarray .int, 2) := by decide +kernel
theorem dX13_init_10 : decode cX13_init 10 = .ok (.putfield 63, 3) := by decide +kernel
theorem dX13_init_13 : decode cX13_init 13 = .ok (.aload_n 0, 1) := by decide +kernel
theorem dX13_init_14 : decode cX13_init 14 = .ok (.sipush 4200, 3) := by decide +kernel
theorem dX13_init_17 : decode cX13_init 17 = .ok (.newarray .int, 2) := by decide +kernel
theorem dX13_init_19 : decode cX13_init 19 = .ok (.putfield 11, 3) := by decide +kernel
theorem dX13_init_22 : decode cX13_init 22 = .ok (.aload_n 0, 1) := by decide +kernel
theorem dX13_init_23 : decode cX13_init 23 = .ok (.sipush 4000, 3) := by decide +kernel
theorem dX13_init_26 : decode cX13_init 26 = .ok (.newarray .int, 2) := by decide +kernel
theorem dX13_init_28 : decode cX13_init 28 = .ok (.putfield 66, 3) := by decide +kernel
theorem dX13_init_31 : decode cX13_init 31 = .ok (.aload_n 0, 1) := by decide +kernel
theorem dX13_init_32 : decode cX13_init 32 = .ok (.ldc_w 1485, 3) := by decide +kernel
theorem dX13_init_35 : decode cX13_init 35 = .ok (.newarray .byte, 2) := by decide +kernel
theorem dX13_init_37 : decode cX13_init 37 = .ok (.putfield 87, 3) := by decide +kernel
theorem dX13_init_40 : decode cX13_init 40 = .ok (.aload_n 0, 1) := by decide +kernel
theorem dX13_init_41 : decode cX13_init 41 = .ok (.bipush 16, 2) := by decide +kernel
theorem dX13_init_43 : decode cX13_init 43 = .ok (.newarray .int, 2) := by decide +kernel
theorem dX13_init_45 : decode cX13_init 45 = .ok (.putfield 81, 3) := by decide +kernel
theorem dX13_init_48 : decode cX13_init 48 = .ok (.aload_n 0, 1) := by decide +kernel
theorem dX13_init_49 : decode cX13_init 49 = .ok (.bipush 16, 2) := by decide +kernel
theorem dX13_init_51 : decode cX13_init 51 = .ok (.newarray .int, 2) := by decide +kernel
theorem dX13_init_53 : decode cX13_init 53 = .ok (.putfield 538, 3) := by decide +kernel
theorem dX13_init_56 : decode cX13_init 56 = .ok (.aload_n 0, 1) := by decide +kernel
theorem dX13_init_57 : decode cX13_init 57 = .ok (.bipush 40, 2) := by decide +kernel
theorem dX13_init_59 : decode cX13_init 59 = .ok (.newarray .int, 2) := by decide +kernel
theorem dX13_init_61 : decode cX13_init 61 = .ok (.putfield 965, 3) := by decide +kernel
theorem dX13_init_64 : decode cX13_init 64 = .ok (.aload_n 0, 1) := by decide +kernel
theorem dX13_init_65 : decode cX13_init 65 = .ok (.iconst 5, 1) := by decide +kernel
theorem dX13_init_66 : decode cX13_init 66 = .ok (.newarray .int, 2) := by decide +kernel
theorem dX13_init_68 : decode cX13_init 68 = .ok (.putfield 947, 3) := by decide +kernel
theorem dX13_init_71 : decode cX13_init 71 = .ok (.aload_n 0, 1) := by decide +kernel
theorem dX13_init_72 : decode cX13_init 72 = .ok (.sipush 12636, 3) := by decide +kernel
theorem dX13_init_75 : decode cX13_init 75 = .ok (.newarray .int, 2) := by decide +kernel
theorem dX13_init_77 : decode cX13_init 77 = .ok (.putfield 103, 3) := by decide +kernel
theorem dX13_init_80 : decode cX13_init 80 = .ok (.aload_n 0, 1) := by decide +kernel
theorem dX13_init_81 : decode cX13_init 81 = .ok (.sipush 12636, 3) := by decide +kernel
theorem dX13_init_84 : decode cX13_init 84 = .ok (.newarray .int, 2) := by decide +kernel
theorem dX13_init_86 : decode cX13_init 86 = .ok (.putfield 94, 3) := by decide +kernel
theorem dX13_init_89 : decode cX13_init 89 = .ok (.aload_n 0, 1) := by decide +kernel
theorem dX13_init_90 : decode cX13_init 90 = .ok (.sipush 12636, 3) := by decide +kernel
theorem dX13_init_93 : decode cX13_init 93 = .ok (.newarray .int, 2) := by decide +kernel
theorem dX13_init_95 : decode cX13_init 95 = .ok (.putfield 110, 3) := by decide +kernel
theorem dX13_init_98 : decode cX13_init 98 = .ok (.aload_n 0, 1) := by decide +kernel
theorem dX13_init_99 : decode cX13_init 99 = .ok (.sipush 12636, 3) := by decide +kernel
theorem dX13_init_102 : decode cX13_init 102 = .ok (.newarray .long, 2) := by decide +kernel
theorem dX13_init_104 : decode cX13_init 104 = .ok (.putfield 97, 3) := by decide +kernel
theorem dX13_init_107 : decode cX13_init 107 = .ok (.aload_n 0, 1) := by decide +kernel
theorem dX13_init_108 : decode cX13_init 108 = .ok (.sipush 12636, 3) := by decide +kernel
theorem dX13_init_111 : decode cX13_init 111 = .ok (.newarray .int, 2) := by decide +kernel
theorem dX13_init_113 : decode cX13_init 113 = .ok (.putfield 100, 3) := by decide +kernel
theorem dX13_init_116 : decode cX13_init 116 = .ok (.aload_n 0, 1) := by decide +kernel
theorem dX13_init_117 : decode cX13_init 117 = .ok (.bipush 18, 2) := by decide +kernel
theorem dX13_init_119 : decode cX13_init 119 = .ok (.newarray .int, 2) := by decide +kernel
theorem dX13_init_121 : decode cX13_init 121 = .ok (.putfield 113, 3) := by decide +kernel
theorem dX13_init_124 : decode cX13_init 124 = .ok (.aload_n 0, 1) := by decide +kernel
theorem dX13_init_125 : decode cX13_init 125 = .ok (.bipush 32, 2) := by decide +kernel
theorem dX13_init_127 : decode cX13_init 127 = .ok (.newarray .long, 2) := by decide +kernel
theorem dX13_init_129 : decode cX13_init 129 = .ok (.putfield 71, 3) := by decide +kernel
theorem dX13_init_132 : decode cX13_init 132 = .ok (.aload_n 0, 1) := by decide +kernel
theorem dX13_init_133 : decode cX13_init 133 = .ok (.bipush 18, 2) := by decide +kernel
theorem dX13_init_135 : decode cX13_init 135 = .ok (.newarray .int, 2) := by decide +kernel
theorem dX13_init_137 : decode cX13_init 137 = .ok (.putfield 230, 3) := by decide +kernel
theorem dX13_init_140 : decode cX13_init 140 = .ok (.aload_n 0, 1) := by decide +kernel
theorem dX13_init_141 : decode cX13_init 141 = .ok (.sipush 216, 3) := by decide +kernel
theorem dX13_init_144 : decode cX13_init 144 = .ok (.newarray .long, 2) := by decide +kernel
theorem dX13_init_146 : decode cX13_init 146 = .ok (.putfield 256, 3) := by decide +kernel
theorem dX13_init_149 : decode cX13_init 149 = .ok (.aload_n 0, 1) := by decide +kernel
theorem dX13_init_150 : decode cX13_init 150 = .ok (.sipush 216, 3) := by decide +kernel
theorem dX13_init_153 : decode cX13_init 153 = .ok (.newarray .int, 2) := by decide +kernel
theorem dX13_init_155 : decode cX13_init 155 = .ok (.putfield 259, 3) := by decide +kernel
theorem dX13_init_158 : decode cX13_init 158 = .ok (.aload_n 0, 1) := by decide +kernel
theorem dX13_init_159 : decode cX13_init 159 = .ok (.sipush 216, 3) := by decide +kernel
theorem dX13_init_162 : decode cX13_init 162 = .ok (.newarray .boolean, 2) := by decide +kernel
theorem dX13_init_164 : decode cX13_init 164 = .ok (.putfield 262, 3) := by decide +kernel
theorem dX13_init_167 : decode cX13_init 167 = .ok (.aload_n 0, 1) := by decide +kernel
theorem dX13_init_168 : decode cX13_init 168 = .ok (.sipush 216, 3) := by decide +kernel
theorem dX13_init_171 : decode cX13_init 171 = .ok (.newarray .int, 2) := by decide +kernel
theorem dX13_init_173 : decode cX13_init 173 = .ok (.putfield 266, 3) := by decide +kernel
theorem dX13_init_176 : decode cX13_init 176 = .ok (.aload_n 0, 1) := by decide +kernel
theorem dX13_init_177 : decode cX13_init 177 = .ok (.sipush 216, 3) := by decide +kernel
theorem dX13_init_180 : decode cX13_init 180 = .ok (.newarray .long, 2) := by decide +kernel
theorem dX13_init_182 : decode cX13_init 182 = .ok (.putfield 269, 3) := by decide +kernel
theorem dX13_init_185 : decode cX13_init 185 = .ok (.aload_n 0, 1) := by decide +kernel
theorem dX13_init_186 : decode cX13_init 186 = .ok (.sipush 216, 3) := by decide +kernel
theorem dX13_init_189 : decode cX13_init 189 = .ok (.newarray .int, 2) := by decide +kernel
theorem dX13_init_191 : decode cX13_init 191 = .ok (.putfield 280, 3) := by decide +kernel
theorem dX13_init_194 : decode cX13_init 194 = .ok (.aload_n 0, 1) := by decide +kernel
theorem dX13_init_195 : decode cX13_init 195 = .ok (.sipush 864, 3) := by decide +kernel
theorem dX13_init_198 : decode cX13_init 198 = .ok (.newarray .long, 2) := by decide +kernel
theorem dX13_init_200 : decode cX13_init 200 = .ok (.putfield 288, 3) := by decide +kernel
theorem dX13_init_203 : decode cX13_init 203 = .ok (.aload_n 0, 1) := by decide +kernel
theorem dX13_init_204 : decode cX13_init 204 = .ok (.sipush 864, 3) := by decide +kernel
theorem dX13_init_207 : decode cX13_init 207 = .ok (.newarray .int, 2) := by decide +kernel
theorem dX13_init_209 : decode cX13_init 209 = .ok (.putfield 291, 3) := by decide +kernel
theorem dX13_init_212 : decode cX13_init 212 = .ok (.aload_n 0, 1) := by decide +kernel
theorem dX13_init_213 : decode cX13_init 213 = .ok (.sipush 216, 3) := by decide +kernel
theorem dX13_init_216 : decode cX13_init 216 = .ok (.newarray .int, 2) := by decide +kernel
theorem dX13_init_218 : decode cX13_init 218 = .ok (.putfield 283, 3) := by decide +kernel
theorem dX13_init_221 : decode cX13_init 221 = .ok (.aload_n 0, 1) := by decide +kernel
theorem dX13_init_222 : decode cX13_init 222 = .ok (.sipush 216, 3) := by decide +kernel
theorem dX13_init_225 : decode cX13_init 225 = .ok (.newarray .long, 2) := by decide +kernel
theorem dX13_init_227 : decode cX13_init 227 = .ok (.putfield 272, 3) := by decide +kernel
theorem dX13_init_230 : decode cX13_init 230 = .ok (.aload_n 0, 1) := by decide +kernel
theorem dX13_init_231 : decode cX13_init 231 = .ok (.sipush 216, 3) := by decide +kernel
theorem dX13_init_234 : decode cX13_init 234 = .ok (.newarray .int, 2) := by decide +kernel
theorem dX13_init_236 : decode cX13_init 236 = .ok (.putfield 300, 3) := by decide +kernel
theorem dX13_init_239 : decode cX13_init 239 = .ok (.aload_n 0, 1) := by decide +kernel
theorem dX13_init_240 : decode cX13_init 240 = .ok (.sipush 1728, 3) := by decide +kernel
theorem dX13_init_243 : decode cX13_init 243 = .ok (.newarray .long, 2) := by decide +kernel
theorem dX13_init_245 : decode cX13_init 245 = .ok (.putfield 308, 3) := by decide +kernel
theorem dX13_init_248 : decode cX13_init 248 = .ok (.aload_n 0, 1) := by decide +kernel
theorem dX13_init_249 : decode cX13_init 249 = .ok (.sipush 1728, 3) := by decide +kernel
theorem dX13_init_252 : decode cX13_init 252 = .ok (.newarray .int, 2) := by decide +kernel
theorem dX13_init_254 : decode cX13_init 254 = .ok (.putfield 311, 3) := by decide +kernel
theorem dX13_init_257 : decode cX13_init 257 = .ok (.aload_n 0, 1) := by decide +kernel
theorem dX13_init_258 : decode cX13_init 258 = .ok (.sipush 216, 3) := by decide +kernel
theorem dX13_init_261 : decode cX13_init 261 = .ok (.newarray .int, 2) := by decide +kernel
theorem dX13_init_263 : decode cX13_init 263 = .ok (.putfield 303, 3) := by decide +kernel
theorem dX13_init_266 : decode cX13_init 266 = .ok (.aload_n 0, 1) := by decide +kernel
theorem dX13_init_267 : decode cX13_init 267 = .ok (.sipush 1728, 3) := by decide +kernel
theorem dX13_init_270 : decode cX13_init 270 = .ok (.newarray .long, 2) := by decide +kernel
theorem dX13_init_272 : decode cX13_init 272 = .ok (.putfield 319, 3) := by decide +kernel
theorem dX13_init_275 : decode cX13_init 275 = .ok (.aload_n 0, 1) := by decide +kernel
theorem dX13_init_276 : decode cX13_init 276 = .ok (.sipush 1728, 3) := by decide +kernel
theorem dX13_init_279 : decode cX13_init 279 = .ok (.newarray .int, 2) := by decide +kernel
theorem dX13_init_281 : decode cX13_init 281 = .ok (.putfield 322, 3) := by decide +kernel
theorem dX13_init_284 : decode cX13_init 284 = .ok (.aload_n 0, 1) := by decide +kernel
theorem dX13_init_285 : decode cX13_init 285 = .ok (.sipush 216, 3) := by decide +kernel
theorem dX13_init_288 : decode cX13_init 288 = .ok (.newarray .int, 2) := by decide +kernel
theorem dX13_init_290 : decode cX13_init 290 = .ok (.putfield 314, 3) := by decide +kernel
theorem dX13_init_293 : decode cX13_init 293 = .ok (.aload_n 0, 1) := by decide +kernel
theorem dX13_init_294 : decode cX13_init 294 = .ok (.sipush 216, 3) := by decide +kernel
theorem dX13_init_297 : decode cX13_init 297 = .ok (.newarray .int, 2) := by decide +kernel
theorem dX13_init_299 : decode cX13_init 299 = .ok (.putfield 275, 3) := by decide +kernel
theorem dX13_init_302 : decode cX13_init 302 = .ok (.aload_n 0, 1) := by decide +kernel
theorem dX13_init_303 : decode cX13_init 303 = .ok (.sipush 7344, 3) := by decide +kernel
theorem dX13_init_306 : decode cX13_init 306 = .ok (.newarray .int, 2) := by decide +kernel
theorem dX13_init_308 : decode cX13_init 308 = .ok (.putfield 402, 3) := by decide +kernel
theorem dX13_init_311 : decode cX13_init 311 = .ok (.aload_n 0, 1) := by decide +kernel
theorem dX13_init_312 : decode cX13_init 312 = .ok (.sipush 7344, 3) := by decide +kernel
theorem dX13_init_315 : decode cX13_init 315 = .ok (.newarray .int, 2) := by decide +kernel
theorem dX13_init_317 : decode cX13_init 317 = .ok (.putfield 399, 3) := by decide +kernel
theorem dX13_init_320 : decode cX13_init 320 = .ok (.aload_n 0, 1) := by decide +kernel
theorem dX13_init_321 : decode cX13_init 321 = .ok (.sipush 7344, 3) := by decide +kernel
theorem dX13_init_324 : decode cX13_init 324 = .ok (.newarray .int, 2) := by decide +kernel
theorem dX13_init_326 : decode cX13_init 326 = .ok (.putfield 433, 3) := by decide +kernel
theorem dX13_init_329 : decode cX13_init 329 = .ok (.aload_n 0, 1) := by decide +kernel
theorem dX13_init_330 : decode cX13_init 330 = .ok (.sipush 7344, 3) := by decide +kernel
theorem dX13_init_333 : decode cX13_init 333 = .ok (.newarray .boolean, 2) := by decide +kernel
theorem dX13_init_335 : decode cX13_init 335 = .ok (.putfield 341, 3) := by decide +kernel
theorem dX13_init_338 : decode cX13_init 338 = .ok (.aload_n 0, 1) := by decide +kernel
theorem dX13_init_339 : decode cX13_init 339 = .ok (.sipush 7344, 3) := by decide +kernel
theorem dX13_init_342 : decode cX13_init 342 = .ok (.newarray .boolean, 2) := by decide +kernel
theorem dX13_init_344 : decode cX13_init 344 = .ok (.putfield 344, 3) := by decide +kernel
theorem dX13_init_347 : decode cX13_init 347 = .ok (.aload_n 0, 1) := by decide +kernel
theorem dX13_init_348 : decode cX13_init 348 = .ok (.sipush 7344, 3) := by decide +kernel
theorem dX13_init_351 : decode cX13_init 351 = .ok (.newarray .boolean, 2) := by decide +kernel
theorem dX13_init_353 : decode cX13_init 353 = .ok (.putfield 436, 3) := by decide +kernel
theorem dX13_init_356 : decode cX13_init 356 = .ok (.aload_n 0, 1) := by decide +kernel
theorem dX13_init_357 : decode cX13_init 357 = .ok (.sipush 7344, 3) := by decide +kernel
theorem dX13_init_360 : decode cX13_init 360 = .ok (.newarray .boolean, 2) := by decide +kernel
theorem dX13_init_362 : decode cX13_init 362 = .ok (.putfield 347, 3) := by decide +kernel
theorem dX13_init_365 : decode cX13_init 365 = .ok (.aload_n 0, 1) := by decide +kernel
theorem dX13_init_366 : decode cX13_init 366 = .ok (.sipush 7344, 3) := by decide +kernel
theorem dX13_init_369 : decode cX13_init 369 = .ok (.newarray .boolean, 2) := by decide +kernel
theorem dX13_init_371 : decode cX13_init 371 = .ok (.putfield 350, 3) := by decide +kernel
theorem dX13_init_374 : decode cX13_init 374 = .ok (.aload_n 0, 1) := by decide +kernel
theorem dX13_init_375 : decode cX13_init 375 = .ok (.sipush 7344, 3) := by decide +kernel
theorem dX13_init_378 : decode cX13_init 378 = .ok (.newarray .boolean, 2) := by decide +kernel
theorem dX13_init_380 : decode cX13_init 380 = .ok (.putfield 353, 3) := by decide +kernel
theorem dX13_init_383 : decode cX13_init 383 = .ok (.aload_n 0, 1) := by decide +kernel
theorem dX13_init_384 : decode cX13_init 384 = .ok (.sipush 7344, 3) := by decide +kernel
theorem dX13_init_387 : decode cX13_init 387 = .ok (.newarray .long, 2) := by decide +kernel
theorem dX13_init_389 : decode cX13_init 389 = .ok (.putfield 356, 3) := by decide +kernel
theorem dX13_init_392 : decode cX13_init 392 = .ok (.aload_n 0, 1) := by decide +kernel
theorem dX13_init_393 : decode cX13_init 393 = .ok (.sipush 7344, 3) := by decide +kernel
theorem dX13_init_396 : decode cX13_init 396 = .ok (.newarray .int, 2) := by decide +kernel
theorem dX13_init_398 : decode cX13_init 398 = .ok (.putfield 405, 3) := by decide +kernel
theorem dX13_init_401 : decode cX13_init 401 = .ok (.aload_n 0, 1) := by decide +kernel
theorem dX13_init_402 : decode cX13_init 402 = .ok (.sipush 7344, 3) := by decide +kernel
theorem dX13_init_405 : decode cX13_init 405 = .ok (.newarray .long, 2) := by decide +kernel
theorem dX13_init_407 : decode cX13_init 407 = .ok (.putfield 359, 3) := by decide +kernel
theorem dX13_init_410 : decode cX13_init 410 = .ok (.aload_n 0, 1) := by decide +kernel
theorem dX13_init_411 : decode cX13_init 411 = .ok (.sipush 7344, 3) := by decide +kernel
theorem dX13_init_414 : decode cX13_init 414 = .ok (.newarray .int, 2) := by decide +kernel
theorem dX13_init_416 : decode cX13_init 416 = .ok (.putfield 420, 3) := by decide +kernel
theorem dX13_init_419 : decode cX13_init 419 = .ok (.aload_n 0, 1) := by decide +kernel
theorem dX13_init_420 : decode cX13_init 420 = .ok (.sipush 7344, 3) := by decide +kernel
theorem dX13_init_423 : decode cX13_init 423 = .ok (.newarray .int, 2) := by decide +kernel
theorem dX13_init_425 : decode cX13_init 425 = .ok (.putfield 362, 3) := by decide +kernel
theorem dX13_init_428 : decode cX13_init 428 = .ok (.aload_n 0, 1) := by decide +kernel
theorem dX13_init_429 : decode cX13_init 429 = .ok (.sipush 29376, 3) := by decide +kernel
theorem dX13_init_432 : decode cX13_init 432 = .ok (.newarray .long, 2) := by decide +kernel
theorem dX13_init_434 : decode cX13_init 434 = .ok (.putfield 442, 3) := by decide +kernel
theorem dX13_init_437 : decode cX13_init 437 = .ok (.aload_n 0, 1) := by decide +kernel
theorem dX13_init_438 : decode cX13_init 438 = .ok (.sipush 29376, 3) := by decide +kernel
theorem dX13_init_441 : decode cX13_init 441 = .ok (.newarray .int, 2) := by decide +kernel
theorem dX13_init_443 : decode cX13_init 443 = .ok (.putfield 439, 3) := by decide +kernel
theorem dX13_init_446 : decode cX13_init 446 = .ok (.aload_n 0, 1) := by decide +kernel
theorem dX13_init_447 : decode cX13_init 447 = .ok (.sipush 29376, 3) := by decide +kernel
theorem dX13_init_450 : decode cX13_init 450 = .ok (.newarray .long, 2) := by decide +kernel
theorem dX13_init_452 : decode cX13_init 452 = .ok (.putfield 445, 3) := by decide +kernel
theorem dX13_init_455 : decode cX13_init 455 = .ok (.aload_n 0, 1) := by decide +kernel
theorem dX13_init_456 : decode cX13_init 456 = .ok (.sipush 29376, 3) := by decide +kernel

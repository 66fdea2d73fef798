theorem dX13_meet_11 : decode cX13_meet 11 = .ok (.bipush (-2), 2) := by decide +kernel
theorem dX13_meet_13 : decode cX13_meet 13 = .ok (.if_icmp .ne 5, 3) := by decide +kernel
theorem dX13_meet_16 : decode cX13_meet 16 = .ok (.iconst (-1), 1) := by decide +kernel
theorem dX13_meet_17 : decode cX13_meet 17 = .ok (.ireturn, 1) := by decide +kernel
theorem dX13_met_0 : decode cX13_met 0 = .ok (.aload_n 0, 1) := by decide +kernel
theorem dX13_met_1 : decode cX13_met 1 = .ok (.iconst 0, 1) := by decide +kernel
theorem dX13_met_2 : decode cX13_met 2 = .ok (.putfield 15, 3) := by decide +kernel
theorem dX13_met_5 : decode cX13_met 5 = .ok (.aload_n 0, 1) := by decide +kernel
theorem dX13_met_6 : decode cX13_met 6 = .ok (.getfield 1171, 3) := by decide +kernel
theorem dX13_met_9 : decode cX13_met 9 = .ok (.bipush (-2), 2) := by decide +kernel
theorem dX13_met_11 : decode cX13_met 11 = .ok (.if_icmp .eq 114, 3) := by decide +kernel
theorem dX13_met_125 : decode cX13_met 125 = .ok (.aload_n 0, 1) := by decide +kernel
theorem dX13_met_126 : decode cX13_met 126 = .ok (.getfield 15, 3) := by decide +kernel
theorem dX13_met_129 : decode cX13_met 129 = .ok (.ireturn, 1) := by decide +kernel
theorem dX13_looked_0 : decode cX13_looked 0 = .ok (.iload_n 1, 1) := by decide +kernel
theorem dX13_looked_1 : decode cX13_looked 1 = .ok (.ifCond .lt 11, 3) := by decide +kernel
theorem dX13_looked_4 : decode cX13_looked 4 = .ok (.iload_n 1, 1) := by decide +kernel
theorem dX13_looked_5 : decode cX13_looked 5 = .ok (.aload_n 0, 1) := by decide +kernel
theorem dX13_looked_6 : decode cX13_looked 6 = .ok (.getfield 1174, 3) := by decide +kernel
theorem dX13_looked_9 : decode cX13_looked 9 = .ok (.if_icmp .lt 7, 3) := by decide +kernel
theorem dX13_looked_12 : decode cX13_looked 12 = .ok (.iconst (-1), 1) := by decide +kernel
theorem dX13_looked_13 : decode cX13_looked 13 = .ok (.goto 9, 3) := by decide +kernel
theorem dX13_looked_22 : decode cX13_looked 22 = .ok (.ireturn, 1) := by decide +kernel
theorem dX13_broken_0 : decode cX13_broken 0 = .ok (.aload_n 0, 1) := by decide +kernel
theorem dX13_broken_1 : decode cX13_broken 1 = .ok (.iconst 0, 1) := by decide +kernel
theorem dX13_broken_2 : decode cX13_broken 2 = .ok (.putfield 1180, 3) := by decide +kernel
theorem dX13_broken_5 : decode cX13_broken 5 = .ok (.iconst 0, 1) := by decide +kernel
theorem dX13_broken_6 : decode cX13_broken 6 = .ok (.istore_n 1, 1) := by decide +kernel
theorem dX13_broken_7 : decode cX13_broken 7 = .ok (.iload_n 1, 1) := by decide +kernel
theorem dX13_broken_8 : decode cX13_broken 8 = .ok (.iconst 5, 1) := by decide +kernel
theorem dX13_broken_9 : decode cX13_broken 9 = .ok (.if_icmp .ge 138, 3) := by decide +kernel
theorem dX13_broken_12 : decode cX13_broken 12 = .ok (.aload_n 0, 1) := by decide +kernel
theorem dX13_broken_13 : decode cX13_broken 13 = .ok (.getfield 535, 3) := by decide +kernel
theorem dX13_broken_16 : decode cX13_broken 16 = .ok (.iload_n 1, 1) := by decide +kernel
theorem dX13_broken_17 : decode cX13_broken 17 = .ok (.iaload, 1) := by decide +kernel
theorem dX13_broken_18 : decode cX13_broken 18 = .ok (.istore_n 2, 1) := by decide +kernel
theorem dX13_broken_19 : decode cX13_broken 19 = .ok (.iconst 0, 1) := by decide +kernel
theorem dX13_broken_20 : decode cX13_broken 20 = .ok (.istore_n 3, 1) := by decide +kernel
theorem dX13_broken_21 : decode cX13_broken 21 = .ok (.iload_n 2, 1) := by decide +kernel
theorem dX13_broken_22 : decode cX13_broken 22 = .ok (.bipush (-2), 2) := by decide +kernel
theorem dX13_broken_24 : decode cX13_broken 24 = .ok (.if_icmp .eq 117, 3) := by decide +kernel
theorem dX13_broken_141 : decode cX13_broken 141 = .ok (.iinc 1 1, 3) := by decide +kernel
theorem dX13_broken_144 : decode cX13_broken 144 = .ok (.goto (-137), 3) := by decide +kernel
theorem dX13_broken_147 : decode cX13_broken 147 = .ok (.aload_n 0, 1) := by decide +kernel
theorem dX13_broken_148 : decode cX13_broken 148 = .ok (.getfield 1180, 3) := by decide +kernel
theorem dX13_broken_151 : decode cX13_broken 151 = .ok (.ireturn, 1) := by decide +kernel
theorem dX13_isBroken_0 : decode cX13_isBroken 0 = .ok (.iconst 0, 1) := by decide +kernel
theorem dX13_isBroken_1 : decode cX13_isBroken 1 = .ok (.istore_n 1, 1) := by decide +kernel
theorem dX13_isBroken_2 : decode cX13_isBroken 2 = .ok (.iload_n 1, 1) := by decide +kernel
theorem dX13_isBroken_3 : decode cX13_isBroken 3 = .ok (.iconst 5, 1) := by decide +kernel
theorem dX13_isBroken_4 : decode cX13_isBroken 4 = .ok (.if_icmp .ge 81, 3) := by decide +kernel
theorem dX13_isBroken_7 : decode cX13_isBroken 7 = .ok (.aload_n 0, 1) := by decide +kernel
theorem dX13_isBroken_8 : decode cX13_isBroken 8 = .ok (.getfield 535, 3) := by decide +kernel
theorem dX13_isBroken_11 : decode cX13_isBroken 11 = .ok (.iload_n 1, 1) := by decide +kernel
theorem dX13_isBroken_12 : decode cX13_isBroken 12 = .ok (.iaload, 1) := by decide +kernel
theorem dX13_isBroken_13 : decode cX13_isBroken 13 = .ok (.istore_n 2, 1) := by decide +kernel
theorem dX13_isBroken_14 : decode cX13_isBroken 14 = .ok (.iconst 0, 1) := by decide +kernel
theorem dX13_isBroken_15 : decode cX13_isBroken 15 = .ok (.istore_n 3, 1) := by decide +kernel
theorem dX13_isBroken_16 : decode cX13_isBroken 16 = .ok (.iload_n 2, 1) := by decide +kernel
theorem dX13_isBroken_17 : decode cX13_isBroken 17 = .ok (.bipush (-2), 2) := by decide +kernel
theorem dX13_isBroken_19 : decode cX13_isBroken 19 = .ok (.if_icmp .eq 60, 3) := by decide +kernel
theorem dX13_isBroken_79 : decode cX13_isBroken 79 = .ok (.iinc 1 1, 3) := by decide +kernel
theorem dX13_isBroken_82 : decode cX13_isBroken 82 = .ok (.goto (-80), 3) := by decide +kernel
theorem dX13_isBroken_85 : decode cX13_isBroken 85 = .ok (.iconst 0, 1) := by decide +kernel
theorem dX13_isBroken_86 : decode cX13_isBroken 86 = .ok (.ireturn, 1) := by decide +kernel
theorem dX13_brokenAt_0 : decode cX13_brokenAt 0 = .ok (.iload_n 1, 1) := by decide +kernel
theorem dX13_brokenAt_1 : decode cX13_brokenAt 1 = .ok (.ifCond .lt 20, 3) := by decide +kernel
theorem dX13_brokenAt_4 : decode cX13_brokenAt 4 = .ok (.iload_n 1, 1) := by decide +kernel
theorem dX13_brokenAt_5 : decode cX13_brokenAt 5 = .ok (.aload_n 0, 1) := by decide +kernel
theorem dX13_brokenAt_6 : decode cX13_brokenAt 6 = .ok (.getfield 1180, 3) := by decide +kernel
theorem dX13_brokenAt_9 : decode cX13_brokenAt 9 = .ok (.if_icmp .ge 12, 3) := by decide +kernel
theorem dX13_brokenAt_21 : decode cX13_brokenAt 21 = .ok (.iconst (-1), 1) := by decide +kernel
theorem dX13_brokenAt_22 : decode cX13_brokenAt 22 = .ok (.goto 13, 3) := by decide +kernel
theorem dX13_brokenAt_35 : decode cX13_brokenAt 35 = .ok (.ireturn, 1) := by decide +kernel
theorem dX13_stale_0 : decode cX13_stale 0 = .ok (.iconst 0, 1) := by decide +kernel
theorem dX13_stale_1 : decode cX13_stale 1 = .ok (.istore_n 1, 1) := by decide +kernel
theorem dX13_stale_2 : decode cX13_stale 2 = .ok (.iconst 0, 1) := by decide +kernel
theorem dX13_stale_3 : decode cX13_stale 3 = .ok (.istore_n 2, 1) := by decide +kernel
theorem dX13_stale_4 : decode cX13_stale 4 = .ok (.iload_n 2, 1) := by decide +kernel
theorem dX13_stale_5 : decode cX13_stale 5 = .ok (.iconst 5, 1) := by decide +kernel
theorem dX13_stale_6 : decode cX13_stale 6 = .ok (.if_icmp .ge 90, 3) := by decide +kernel
theorem dX13_stale_9 : decode cX13_stale 9 = .ok (.aload_n 0, 1) := by decide +kernel
theorem dX13_stale_10 : decode cX13_stale 10 = .ok (.getfield 535, 3) := by decide +kernel
theorem dX13_stale_13 : decode cX13_stale 13 = .ok (.iload_n 2, 1) := by decide +kernel
theorem dX13_stale_14 : decode cX13_stale 14 = .ok (.iaload, 1) := by decide +kernel
theorem dX13_stale_15 : decode cX13_stale 15 = .ok (.istore_n 3, 1) := by decide +kernel
theorem dX13_stale_16 : decode cX13_stale 16 = .ok (.iconst 0, 1) := by decide +kernel
theorem dX13_stale_17 : decode cX13_stale 17 = .ok (.istore 4, 2) := by decide +kernel
theorem dX13_stale_19 : decode cX13_stale 19 = .ok (.iload_n 3, 1) := by decide +kernel
theorem dX13_stale_20 : decode cX13_stale 20 = .ok (.bipush (-2), 2) := by decide +kernel
theorem dX13_stale_22 : decode cX13_stale 22 = .ok (.if_icmp .eq 68, 3) := by decide +kernel
theorem dX13_stale_90 : decode cX13_stale 90 = .ok (.iinc 2 1, 3) := by decide +kernel
theorem dX13_stale_93 : decode cX13_stale 93 = .ok (.goto (-89), 3) := by decide +kernel
theorem dX13_stale_96 : decode cX13_stale 96 = .ok (.iload_n 1, 1) := by decide +kernel
theorem dX13_stale_97 : decode cX13_stale 97 = .ok (.ireturn, 1) := by decide +kernel
theorem dX13_choose_0 : decode cX13_choose 0 = .ok (.iconst 0, 1) := by decide +kernel
theorem dX13_choose_1 : decode cX13_choose 1 = .ok (.istore_n 1, 1) := by decide +kernel
theorem dX13_choose_2 : decode cX13_choose 2 = .ok (.iload_n 1, 1) := by decide +kernel
theorem dX13_choose_3 : decode cX13_choose 3 = .ok (.iconst 5, 1) := by decide +kernel
theorem dX13_choose_4 : decode cX13_choose 4 = .ok (.if_icmp .ge 35, 3) := by decide +kernel
theorem dX13_choose_7 : decode cX13_choose 7 = .ok (.aload_n 0, 1) := by decide +kernel
theorem dX13_choose_8 : decode cX13_choose 8 = .ok (.getfield 1186, 3) := by decide +kernel
theorem dX13_choose_11 : decode cX13_choose 11 = .ok (.iload_n 1, 1) := by decide +kernel
theorem dX13_choose_12 : decode cX13_choose 12 = .ok (.aload_n 0, 1) := by decide +kernel
theorem dX13_choose_13 : decode cX13_choose 13 = .ok (.getfield 535, 3) := by decide +kernel
theorem dX13_choose_16 : decode cX13_choose 16 = .ok (.iload_n 1, 1) := by decide +kernel
theorem dX13_choose_17 : decode cX13_choose 17 = .ok (.iaload, 1) := by decide +kernel
theorem dX13_choose_18 : decode cX13_choose 18 = .ok (.iastore, 1) := by decide +kernel
theorem dX13_choose_19 : decode cX13_choose 19 = .ok (.aload_n 0, 1) := by decide +kernel
theorem dX13_choose_20 : decode cX13_choose 20 = .ok (.getfield 1189, 3) := by decide +kernel
theorem dX13_choose_23 : decode cX13_choose 23 = .ok (.iload_n 1, 1) := by decide +kernel
theorem dX13_choose_24 : decode cX13_choose 24 = .ok (.aload_n 0, 1) := by decide +kernel
theorem dX13_choose_25 : decode cX13_choose 25 = .ok (.getfield 947, 3) := by decide +kernel
theorem dX13_choose_28 : decode cX13_choose 28 = .ok (.iload_n 1, 1) := by decide +kernel
theorem dX13_choose_29 : decode cX13_choose 29 = .ok (.iaload, 1) := by decide +kernel
theorem dX13_choose_30 : decode cX13_choose 30 = .ok (.iconst 1, 1) := by decide +kernel
theorem dX13_choose_31 : decode cX13_choose 31 = .ok (.isub, 1) := by decide +kernel
theorem dX13_choose_32 : decode cX13_choose 32 = .ok (.iastore, 1) := by decide +kernel
theorem dX13_choose_33 : decode cX13_choose 33 = .ok (.iinc 1 1, 3) := by decide +kernel
theorem dX13_choose_36 : decode cX13_choose 36 = .ok (.goto (-34), 3) := by decide +kernel
theorem dX13_choose_39 : decode cX13_choose 39 = .ok (.iconst 0, 1) := by decide +kernel
theorem dX13_choose_40 : decode cX13_choose 40 = .ok (.istore_n 1, 1) := by decide +kernel
theorem dX13_choose_41 : decode cX13_choose 41 = .ok (.iconst 1, 1) := by decide +kernel
theorem dX13_choose_42 : decode cX13_choose 42 = .ok (.istore_n 2, 1) := by decide +kernel
theorem dX13_choose_43 : decode cX13_choose 43 = .ok (.iload_n 2, 1) := by decide +kernel
theorem dX13_choose_44 : decode cX13_choose 44 = .ok (.ifCond .eq 134, 3) := by decide +kernel
theorem dX13_choose_47 : decode cX13_choose 47 = .ok (.iconst 0, 1) := by decide +kernel
theorem dX13_choose_48 : decode cX13_choose 48 = .ok (.istore_n 3, 1) := by decide +kernel
theorem dX13_choose_49 : decode cX13_choose 49 = .ok (.iload_n 3, 1) := by decide +kernel
theorem dX13_choose_50 : decode cX13_choose 50 = .ok (.iconst 5, 1) := by decide +kernel
theorem dX13_choose_51 : decode cX13_choose 51 = .ok (.if_icmp .ge 45, 3) := by decide +kernel
theorem dX13_choose_54 : decode cX13_choose 54 = .ok (.aload_n 0, 1) := by decide +kernel
theorem dX13_choose_55 : decode cX13_choose 55 = .ok (.getfield 535, 3) := by decide +kernel
theorem dX13_choose_58 : decode cX13_choose 58 = .ok (.iload_n 3, 1) := by decide +kernel
theorem dX13_choose_59 : decode cX13_choose 59 = .ok (.aload_n 0, 1) := by decide +kernel
theorem dX13_choose_60 : decode cX13_choose 60 = .ok (.getfield 1189, 3) := by decide +kernel
theorem dX13_choose_63 : decode cX13_choose 63 = .ok (.iload_n 3, 1) := by decide +kernel
theorem dX13_choose_64 : decode cX13_choose 64 = .ok (.iaload, 1) := by decide +kernel
theorem dX13_choose_65 : decode cX13_choose 65 = .ok (.ifCond .ge 8, 3) := by decide +kernel
theorem dX13_choose_68 : decode cX13_choose 68 = .ok (.bipush (-2), 2) := by decide +kernel
theorem dX13_choose_70 : decode cX13_choose 70 = .ok (.goto 19, 3) := by decide +kernel
theorem dX13_choose_89 : decode cX13_choose 89 = .ok (.iastore, 1) := by decide +kernel
theorem dX13_choose_90 : decode cX13_choose 90 = .ok (.iinc 3 1, 3) := by decide +kernel
theorem dX13_choose_93 : decode cX13_choose 93 = .ok (.goto (-44), 3) := by decide +kernel
theorem dX13_choose_96 : decode cX13_choose 96 = .ok (.aload_n 0, 1) := by decide +kernel
theorem dX13_choose_97 : decode cX13_choose 97 = .ok (.invokevirtual 1192, 3) := by decide +kernel
theorem dX13_choose_100 : decode cX13_choose 100 = .ok (.iinc 1 1, 3) := by decide +kernel
theorem dX13_choose_103 : decode cX13_choose 103 = .ok (.aload_n 0, 1) := by decide +kernel
theorem dX13_choose_104 : decode cX13_choose 104 = .ok (.invokevirtual 1195, 3) := by decide +kernel
theorem dX13_choose_107 : decode cX13_choose 107 = .ok (.ifCond .ne 9, 3) := by decide +kernel
theorem dX13_choose_110 : decode cX13_choose 110 = .ok (.aload_n 0, 1) := by decide +kernel
theorem dX13_choose_111 : decode cX13_choose 111 = .ok (.invokevirtual 998, 3) := by decide +kernel
theorem dX13_choose_114 : decode cX13_choose 114 = .ok (.iload_n 1, 1) := by decide +kernel
theorem dX13_choose_115 : decode cX13_choose 115 = .ok (.ireturn, 1) := by decide +kernel
theorem dX13_settle_0 : decode cX13_settle 0 = .ok (.aload_n 0, 1) := by decide +kernel
theorem dX13_settle_1 : decode cX13_settle 1 = .ok (.invokevirtual 1192, 3) := by decide +kernel
theorem dX13_settle_4 : decode cX13_settle 4 = .ok (.aload_n 0, 1) := by decide +kernel
theorem dX13_settle_5 : decode cX13_settle 5 = .ok (.iconst 0, 1) := by decide +kernel
theorem dX13_settle_6 : decode cX13_settle 6 = .ok (.putfield 1180, 3) := by decide +kernel
theorem dX13_settle_9 : decode cX13_settle 9 = .ok (.aload_n 0, 1) := by decide +kernel
theorem dX13_settle_10 : decode cX13_settle 10 = .ok (.iconst 0, 1) := by decide +kernel
theorem dX13_settle_11 : decode cX13_settle 11 = .ok (.invokevirtual 1163, 3) := by decide +kernel
theorem dX13_settle_14 : decode cX13_settle 14 = .ok (.aload_n 0, 1) := by decide +kernel
theorem dX13_settle_15 : decode cX13_settle 15 = .ok (.iconst 0, 1) := by decide +kernel
theorem dX13_settle_16 : decode cX13_settle 16 = .ok (.putfield 1086, 3) := by decide +kernel
theorem dX13_settle_19 : decode cX13_settle 19 = .ok (.aload_n 0, 1) := by decide +kernel
theorem dX13_settle_20 : decode cX13_settle 20 = .ok (.iconst 0, 1) := by decide +kernel
theorem dX13_settle_21 : decode cX13_settle 21 = .ok (.putfield 1198, 3) := by decide +kernel
theorem dX13_settle_24 : decode cX13_settle 24 = .ok (.aload_n 0, 1) := by decide +kernel
theorem dX13_settle_25 : decode cX13_settle 25 = .ok (.iconst 0, 1) := by decide +kernel
theorem dX13_settle_26 : decode cX13_settle 26 = .ok (.putfield 1201, 3) := by decide +kernel
theorem dX13_settle_29 : decode cX13_settle 29 = .ok (.iconst 0, 1) := by decide +kernel
theorem dX13_settle_30 : decode cX13_settle 30 = .ok (.istore_n 1, 1) := by decide +kernel
theorem dX13_settle_31 : decode cX13_settle 31 = .ok (.iload_n 1, 1) := by decide +kernel
theorem dX13_settle_32 : decode cX13_settle 32 = .ok (.sipush 7344, 3) := by decide +kernel
theorem dX13_settle_35 : decode cX13_settle 35 = .ok (.if_icmp .ge 16, 3) := by decide +kernel
theorem dX13_settle_38 : decode cX13_settle 38 = .ok (.aload_n 0, 1) := by decide +kernel
theorem dX13_settle_39 : decode cX13_settle 39 = .ok (.getfield 1204, 3) := by decide +kernel
theorem dX13_settle_42 : decode cX13_settle 42 = .ok (.iload_n 1, 1) := by decide +kernel
theorem dX13_settle_43 : decode cX13_settle 43 = .ok (.iconst 0, 1) := by decide +kernel
theorem dX13_settle_44 : decode cX13_settle 44 = .ok (.iastore, 1) := by decide +kernel
theorem dX13_settle_45 : decode cX13_settle 45 = .ok (.iinc 1 1, 3) := by decide +kernel
theorem dX13_settle_48 : decode cX13_settle 48 = .ok (.goto (-17), 3) := by decide +kernel
theorem dX13_settle_51 : decode cX13_settle 51 = .ok (.return_, 1) := by decide +kernel
theorem dX13_fresh_0 : decode cX13_fresh 0 = .ok (.iconst 0, 1) := by decide +kernel
theorem dX13_fresh_1 : decode cX13_fresh 1 = .ok (.istore_n 1, 1) := by decide +kernel
theorem dX13_fresh_2 : decode cX13_fresh 2 = .ok (.iconst 2, 1) := by decide +kernel
theorem dX13_fresh_3 : decode cX13_fresh 3 = .ok (.istore_n 2, 1) := by decide +kernel
theorem dX13_fresh_4 : decode cX13_fresh 4 = .ok (.iload_n 2, 1) := by decide +kernel
theorem dX13_fresh_5 : decode cX13_fresh 5 = .ok (.aload_n 0, 1) := by decide +kernel
theorem dX13_fresh_6 : decode cX13_fresh 6 = .ok (.getfield 1071, 3) := by decide +kernel
theorem dX13_fresh_9 : decode cX13_fresh 9 = .ok (.if_icmp .ge 33, 3) := by decide +kernel
theorem dX13_fresh_42 : decode cX13_fresh 42 = .ok (.aload_n 0, 1) := by decide +kernel
theorem dX13_fresh_43 : decode cX13_fresh 43 = .ok (.getfield 1180, 3) := by decide +kernel
theorem dX13_fresh_46 : decode cX13_fresh 46 = .ok (.istore_n 2, 1) := by decide +kernel
theorem dX13_fresh_47 : decode cX13_fresh 47 = .ok (.aload_n 0, 1) := by decide +kernel
theorem dX13_fresh_48 : decode cX13_fresh 48 = .ok (.invokevirtual 998, 3) := by decide +kernel
theorem dX13_fresh_51 : decode cX13_fresh 51 = .ok (.aload_n 0, 1) := by decide +kernel
theorem dX13_fresh_52 : decode cX13_fresh 52 = .ok (.iload_n 2, 1) := by decide +kernel
theorem dX13_fresh_53 : decode cX13_fresh 53 = .ok (.putfield 1180, 3) := by decide +kernel
theorem dX13_fresh_56 : decode cX13_fresh 56 = .ok (.iload_n 1, 1) := by decide +kernel
theorem dX13_fresh_57 : decode cX13_fresh 57 = .ok (.ireturn, 1) := by decide +kernel
theorem dX13_touch_0 : decode cX13_touch 0 = .ok (.aload_n 0, 1) := by decide +kernel
theorem dX13_touch_1 : decode cX13_touch 1 = .ok (.iload_n 1, 1) := by decide +kernel
theorem dX13_touch_2 : decode cX13_touch 2 = .ok (.iload_n 2, 1) := by decide +kernel
theorem dX13_touch_3 : decode cX13_touch 3 = .ok (.iload_n 3, 1) := by decide +kernel
theorem dX13_touch_4 : decode cX13_touch 4 = .ok (.invokevirtual 1062, 3) := by decide +kernel
theorem dX13_touch_7 : decode cX13_touch 7 = .ok (.istore 4, 2) := by decide +kernel
theorem dX13_touch_9 : decode cX13_touch 9 = .ok (.iload 4, 2) := by decide +kernel
theorem dX13_touch_11 : decode cX13_touch 11 = .ok (.bipush (-2), 2) := by decide +kernel
theorem dX13_touch_13 : decode cX13_touch 13 = .ok (.if_icmp .ne 7, 3) := by decide +kernel
theorem dX13_touch_16 : decode cX13_touch 16 = .ok (.iconst (-1), 1) := by decide +kernel
theorem dX13_touch_17 : decode cX13_touch 17 = .ok (.goto 24, 3) := by decide +kernel
theorem dX13_touch_41 : decode cX13_touch 41 = .ok (.ireturn, 1) := by decide +kernel
theorem dX13_named_0 : decode cX13_named 0 = .ok (.iconst 0, 1) := by decide +kernel
theorem dX13_named_1 : decode cX13_named 1 = .ok (.istore_n 1, 1) := by decide +kernel
theorem dX13_named_2 : decode cX13_named 2 = .ok (.iconst 0, 1) := by decide +kernel
theorem dX13_named_3 : decode cX13_named 3 = .ok (.istore_n 2, 1) := by decide +kernel
theorem dX13_named_4 : decode cX13_named 4 = .ok (.aload_n 0, 1) := by decide +kernel
theorem dX13_named_5 : decode cX13_named 5 = .ok (.getfield 57, 3) := by decide +kernel
theorem dX13_named_8 : decode cX13_named 8 = .ok (.iconst 5, 1) := by decide +kernel
theorem dX13_named_9 : decode cX13_named 9 = .ok (.if_icmp .lt 38, 3) := by decide +kernel
theorem dX13_named_47 : decode cX13_named 47 = .ok (.bipush (-2), 2) := by decide +kernel
theorem dX13_named_49 : decode cX13_named 49 = .ok (.ireturn, 1) := by decide +kernel
theorem dX13_run_0 : decode cX13_run 0 = .ok (.aload_n 0, 1) := by decide +kernel
theorem dX13_run_1 : decode cX13_run 1 = .ok (.invokevirtual 1370, 3) := by decide +kernel
theorem dX13_run_4 : decode cX13_run 4 = .ok (.istore_n 1, 1) := by decide +kernel
theorem dX13_run_5 : decode cX13_run 5 = .ok (.aload_n 0, 1) := by decide +kernel
theorem dX13_run_6 : decode cX13_run 6 = .ok (.iconst 0, 1) := by decide +kernel
theorem dX13_run_7 : decode cX13_run 7 = .ok (.putfield 57, 3) := by decide +kernel
theorem dX13_run_10 : decode cX13_run 10 = .ok (.iload_n 1, 1) := by decide +kernel
theorem dX13_run_11 : decode cX13_run 11 = .ok (.bipush (-2), 2) := by decide +kernel
theorem dX13_run_13 : decode cX13_run 13 = .ok (.if_icmp .ne 6, 3) := by decide +kernel
theorem dX13_run_16 : decode cX13_run 16 = .ok (.bipush (-2), 2) := by decide +kernel
theorem dX13_run_18 : decode cX13_run 18 = .ok (.ireturn, 1) := by decide +kernel
theorem dX13_value_0 : decode cX13_value 0 = .ok (.aload_n 0, 1) := by decide +kernel
theorem dX13_value_1 : decode cX13_value 1 = .ok (.getfield 1373, 3) := by decide +kernel
theorem dX13_value_4 : decode cX13_value 4 = .ok (.ireturn, 1) := by decide +kernel
theorem dX13_told_0 : decode cX13_told 0 = .ok (.iload_n 1, 1) := by decide +kernel
theorem dX13_told_1 : decode cX13_told 1 = .ok (.ifCond .lt 9, 3) := by decide +kernel
theorem dX13_told_4 : decode cX13_told 4 = .ok (.iload_n 1, 1) := by decide +kernel
theorem dX13_told_5 : decode cX13_told 5 = .ok (.bipush 7, 2) := by decide +kernel
theorem dX13_told_7 : decode cX13_told 7 = .ok (.if_icmp .le 5, 3) := by decide +kernel
theorem dX13_told_10 : decode cX13_told 10 = .ok (.iconst (-1), 1) := by decide +kernel
theorem dX13_told_11 : decode cX13_told 11 = .ok (.ireturn, 1) := by decide +kernel
theorem dX13_told_12 : decode cX13_told 12 = .ok (.iload_n 1, 1) := by decide +kernel
theorem dX13_told_13 : decode cX13_told 13 = .ok (.tableswitch 78 0 6 #[43, 48, 53, 58, 63, 68, 73], 43) := by decide +kernel
theorem dX13_told_56 : decode cX13_told 56 = .ok (.aload_n 0, 1) := by decide +kernel
theorem dX13_told_57 : decode cX13_told 57 = .ok (.getfield 1268, 3) := by decide +kernel
theorem dX13_told_60 : decode cX13_told 60 = .ok (.ireturn, 1) := by decide +kernel
theorem dX13_told_61 : decode cX13_told 61 = .ok (.aload_n 0, 1) := by decide +kernel
theorem dX13_told_62 : decode cX13_told 62 = .ok (.getfield 1358, 3) := by decide +kernel
theorem dX13_told_65 : decode cX13_told 65 = .ok (.ireturn, 1) := by decide +kernel
theorem dX13_told_66 : decode cX13_told 66 = .ok (.aload_n 0, 1) := by decide +kernel
theorem dX13_told_67 : decode cX13_told 67 = .ok (.getfield 1198, 3) := by decide +kernel
theorem dX13_told_70 : decode cX13_told 70 = .ok (.ireturn, 1) := by decide +kernel
theorem dX13_told_71 : decode cX13_told 71 = .ok (.aload_n 0, 1) := by decide +kernel
theorem dX13_told_72 : decode cX13_told 72 = .ok (.getfield 1201, 3) := by decide +kernel
theorem dX13_told_75 : decode cX13_told 75 = .ok (.ireturn, 1) := by decide +kernel
theorem dX13_told_76 : decode cX13_told 76 = .ok (.aload_n 0, 1) := by decide +kernel
theorem dX13_told_77 : decode cX13_told 77 = .ok (.getfield 1086, 3) := by decide +kernel
theorem dX13_told_80 : decode cX13_told 80 = .ok (.ireturn, 1) := by decide +kernel
theorem dX13_told_81 : decode cX13_told 81 = .ok (.aload_n 0, 1) := by decide +kernel
theorem dX13_told_82 : decode cX13_told 82 = .ok (.getfield 1071, 3) := by decide +kernel
theorem dX13_told_85 : decode cX13_told 85 = .ok (.ireturn, 1) := by decide +kernel
theorem dX13_told_86 : decode cX13_told 86 = .ok (.aload_n 0, 1) := by decide +kernel
theorem dX13_told_87 : decode cX13_told 87 = .ok (.getfield 57, 3) := by decide +kernel
theorem dX13_told_90 : decode cX13_told 90 = .ok (.ireturn, 1) := by decide +kernel
theorem dX13_told_91 : decode cX13_told 91 = .ok (.aload_n 0, 1) := by decide +kernel
theorem dX13_told_92 : decode cX13_told 92 = .ok (.getfield 950, 3) := by decide +kernel
theorem dX13_told_95 : decode cX13_told 95 = .ok (.ireturn, 1) := by decide +kernel
theorem dX13_number_0 : decode cX13_number 0 = .ok (.iload_n 1, 1) := by decide +kernel
theorem dX13_number_1 : decode cX13_number 1 = .ok (.ifCond .lt 11, 3) := by decide +kernel
theorem dX13_number_4 : decode cX13_number 4 = .ok (.iload_n 1, 1) := by decide +kernel
theorem dX13_number_5 : decode cX13_number 5 = .ok (.aload_n 0, 1) := by decide +kernel
theorem dX13_number_6 : decode cX13_number 6 = .ok (.getfield 1358, 3) := by decide +kernel
theorem dX13_number_9 : decode cX13_number 9 = .ok (.if_icmp .lt 7, 3) := by decide +kernel
theorem dX13_number_12 : decode cX13_number 12 = .ok (.iconst 0, 1) := by decide +kernel
theorem dX13_number_13 : decode cX13_number 13 = .ok (.goto 9, 3) := by decide +kernel
theorem dX13_number_22 : decode cX13_number 22 = .ok (.ireturn, 1) := by decide +kernel
theorem dX13_event__0 : decode cX13_event_ 0 = .ok (.iload_n 1, 1) := by decide +kernel
theorem dX13_event__1 : decode cX13_event_ 1 = .ok (.ifCond .lt 11, 3) := by decide +kernel
theorem dX13_event__4 : decode cX13_event_ 4 = .ok (.iload_n 1, 1) := by decide +kernel
theorem dX13_event__5 : decode cX13_event_ 5 = .ok (.aload_n 0, 1) := by decide +kernel
theorem dX13_event__6 : decode cX13_event_ 6 = .ok (.getfield 1086, 3) := by decide +kernel
theorem dX13_event__9 : decode cX13_event_ 9 = .ok (.if_icmp .lt 7, 3) := by decide +kernel
theorem dX13_event__12 : decode cX13_event_ 12 = .ok (.iconst (-1), 1) := by decide +kernel
theorem dX13_event__13 : decode cX13_event_ 13 = .ok (.goto 9, 3) := by decide +kernel
theorem dX13_event__22 : decode cX13_event_ 22 = .ok (.ireturn, 1) := by decide +kernel
theorem dX13_name_0 : decode cX13_name 0 = .ok (.iload_n 1, 1) := by decide +kernel
theorem dX13_name_1 : decode cX13_name 1 = .ok (.ifCond .lt 11, 3) := by decide +kernel
theorem dX13_name_4 : decode cX13_name 4 = .ok (.iload_n 1, 1) := by decide +kernel
theorem dX13_name_5 : decode cX13_name 5 = .ok (.aload_n 0, 1) := by decide +kernel
theorem dX13_name_6 : decode cX13_name 6 = .ok (.getfield 1071, 3) := by decide +kernel
theorem dX13_name_9 : decode cX13_name 9 = .ok (.if_icmp .lt 5, 3) := by decide +kernel
theorem dX13_name_12 : decode cX13_name 12 = .ok (.iconst (-1), 1) := by decide +kernel
theorem dX13_name_13 : decode cX13_name 13 = .ok (.ireturn, 1) := by decide +kernel
theorem dX13_name_14 : decode cX13_name 14 = .ok (.aload_n 0, 1) := by decide +kernel
theorem dX13_name_15 : decode cX13_name 15 = .ok (.iconst 0, 1) := by decide +kernel
theorem dX13_name_16 : decode cX13_name 16 = .ok (.putfield 15, 3) := by decide +kernel
theorem dX13_name_19 : decode cX13_name 19 = .ok (.aload_n 0, 1) := by decide +kernel
theorem dX13_name_20 : decode cX13_name 20 = .ok (.aload_n 0, 1) := by decide +kernel
theorem dX13_name_21 : decode cX13_name 21 = .ok (.getfield 256, 3) := by decide +kernel
theorem dX13_name_24 : decode cX13_name 24 = .ok (.aload_n 0, 1) := by decide +kernel
theorem dX13_name_25 : decode cX13_name 25 = .ok (.getfield 1077, 3) := by decide +kernel
theorem dX13_name_28 : decode cX13_name 28 = .ok (.iload_n 1, 1) := by decide +kernel
theorem dX13_name_29 : decode cX13_name 29 = .ok (.iaload, 1) := by decide +kernel
theorem dX13_name_30 : decode cX13_name 30 = .ok (.laload, 1) := by decide +kernel
theorem dX13_name_31 : decode cX13_name 31 = .ok (.invokevirtual 53, 3) := by decide +kernel
theorem dX13_name_34 : decode cX13_name 34 = .ok (.aload_n 0, 1) := by decide +kernel
theorem dX13_name_35 : decode cX13_name 35 = .ok (.getfield 15, 3) := by decide +kernel
theorem dX13_name_38 : decode cX13_name 38 = .ok (.ireturn, 1) := by decide +kernel
theorem dX13_state_0 : decode cX13_state 0 = .ok (.iload_n 1, 1) := by decide +kernel
theorem dX13_state_1 : decode cX13_state 1 = .ok (.ifCond .lt 11, 3) := by decide +kernel
theorem dX13_state_4 : decode cX13_state 4 = .ok (.iload_n 1, 1) := by decide +kernel
theorem dX13_state_5 : decode cX13_state 5 = .ok (.aload_n 0, 1) := by decide +kernel
theorem dX13_state_6 : decode cX13_state 6 = .ok (.getfield 1071, 3) := by decide +kernel
theorem dX13_state_9 : decode cX13_state 9 = .ok (.if_icmp .lt 7, 3) := by decide +kernel
theorem dX13_state_12 : decode cX13_state 12 = .ok (.iconst (-1), 1) := by decide +kernel
theorem dX13_state_13 : decode cX13_state 13 = .ok (.goto 9, 3) := by decide +kernel
theorem dX13_state_16 : decode cX13_state 16 = .ok (.aload_n 0, 1) := by decide +kernel
theorem dX13_state_17 : decode cX13_state 17 = .ok (.getfield 1089, 3) := by decide +kernel
theorem dX13_state_20 : decode cX13_state 20 = .ok (.iload_n 1, 1) := by decide +kernel
theorem dX13_state_21 : decode cX13_state 21 = .ok (.iaload, 1) := by decide +kernel
theorem dX13_state_22 : decode cX13_state 22 = .ok (.ireturn, 1) := by decide +kernel
theorem dX13_classOf_0 : decode cX13_classOf 0 = .ok (.iload_n 1, 1) := by decide +kernel
theorem dX13_classOf_1 : decode cX13_classOf 1 = .ok (.iconst 1, 1) := by decide +kernel
theorem dX13_classOf_2 : decode cX13_classOf 2 = .ok (.if_icmp .lt 11, 3) := by decide +kernel
theorem dX13_classOf_5 : decode cX13_classOf 5 = .ok (.iload_n 1, 1) := by decide +kernel
theorem dX13_classOf_6 : decode cX13_classOf 6 = .ok (.aload_n 0, 1) := by decide +kernel
theorem dX13_classOf_7 : decode cX13_classOf 7 = .ok (.getfield 1198, 3) := by decide +kernel
theorem dX13_classOf_10 : decode cX13_classOf 10 = .ok (.if_icmp .le 7, 3) := by decide +kernel
theorem dX13_classOf_13 : decode cX13_classOf 13 = .ok (.iconst (-1), 1) := by decide +kernel
theorem dX13_classOf_14 : decode cX13_classOf 14 = .ok (.goto 14, 3) := by decide +kernel
theorem dX13_classOf_28 : decode cX13_classOf 28 = .ok (.ireturn, 1) := by decide +kernel
theorem dX13_fieldOf_0 : decode cX13_fieldOf 0 = .ok (.iload_n 1, 1) := by decide +kernel
theorem dX13_fieldOf_1 : decode cX13_fieldOf 1 = .ok (.iconst 1, 1) := by decide +kernel
theorem dX13_fieldOf_2 : decode cX13_fieldOf 2 = .ok (.if_icmp .lt 38, 3) := by decide +kernel
theorem dX13_fieldOf_5 : decode cX13_fieldOf 5 = .ok (.iload_n 1, 1) := by decide +kernel
theorem dX13_fieldOf_6 : decode cX13_fieldOf 6 = .ok (.aload_n 0, 1) := by decide +kernel
theorem dX13_fieldOf_7 : decode cX13_fieldOf 7 = .ok (.getfield 1198, 3) := by decide +kernel
theorem dX13_fieldOf_10 : decode cX13_fieldOf 10 = .ok (.if_icmp .gt 30, 3) := by decide +kernel
theorem dX13_fieldOf_40 : decode cX13_fieldOf 40 = .ok (.iconst 0, 1) := by decide +kernel
theorem dX13_fieldOf_41 : decode cX13_fieldOf 41 = .ok (.istore_n 3, 1) := by decide +kernel
theorem dX13_fieldOf_42 : decode cX13_fieldOf 42 = .ok (.iload_n 3, 1) := by decide +kernel
theorem dX13_fieldOf_43 : decode cX13_fieldOf 43 = .ok (.ifCond .eq 19, 3) := by decide +kernel
theorem dX13_fieldOf_62 : decode cX13_fieldOf 62 = .ok (.iconst 0, 1) := by decide +kernel
theorem dX13_fieldOf_63 : decode cX13_fieldOf 63 = .ok (.ireturn, 1) := by decide +kernel
theorem dX13_differ_0 : decode cX13_differ 0 = .ok (.aload_n 0, 1) := by decide +kernel
theorem dX13_differ_1 : decode cX13_differ 1 = .ok (.iload_n 1, 1) := by decide +kernel
theorem dX13_differ_2 : decode cX13_differ 2 = .ok (.iload_n 2, 1) := by decide +kernel
theorem dX13_differ_3 : decode cX13_differ 3 = .ok (.invokevirtual 992, 3) := by decide +kernel
theorem dX13_differ_6 : decode cX13_differ 6 = .ok (.istore 4, 2) := by decide +kernel
theorem dX13_differ_8 : decode cX13_differ 8 = .ok (.aload_n 0, 1) := by decide +kernel
theorem dX13_differ_9 : decode cX13_differ 9 = .ok (.iload_n 1, 1) := by decide +kernel
theorem dX13_differ_10 : decode cX13_differ 10 = .ok (.iload_n 3, 1) := by decide +kernel
theorem dX13_differ_11 : decode cX13_differ 11 = .ok (.invokevirtual 992, 3) := by decide +kernel
theorem dX13_differ_14 : decode cX13_differ 14 = .ok (.istore 5, 2) := by decide +kernel
theorem dX13_differ_16 : decode cX13_differ 16 = .ok (.iload 4, 2) := by decide +kernel
theorem dX13_differ_18 : decode cX13_differ 18 = .ok (.bipush (-2), 2) := by decide +kernel
theorem dX13_differ_20 : decode cX13_differ 20 = .ok (.if_icmp .eq 10, 3) := by decide +kernel
theorem dX13_differ_30 : decode cX13_differ 30 = .ok (.iconst (-1), 1) := by decide +kernel
theorem dX13_differ_31 : decode cX13_differ 31 = .ok (.ireturn, 1) := by decide +kernel
theorem dX13_change_0 : decode cX13_change 0 = .ok (.iload_n 1, 1) := by decide +kernel
theorem dX13_change_1 : decode cX13_change 1 = .ok (.ifCond .lt 20, 3) := by decide +kernel
theorem dX13_change_4 : decode cX13_change 4 = .ok (.iload_n 1, 1) := by decide +kernel
theorem dX13_change_5 : decode cX13_change 5 = .ok (.aload_n 0, 1) := by decide +kernel
theorem dX13_change_6 : decode cX13_change 6 = .ok (.getfield 1376, 3) := by decide +kernel
theorem dX13_change_9 : decode cX13_change 9 = .ok (.if_icmp .ge 12, 3) := by decide +kernel
theorem dX13_change_21 : decode cX13_change 21 = .ok (.iconst (-1), 1) := by decide +kernel
theorem dX13_change_22 : decode cX13_change 22 = .ok (.goto 13, 3) := by decide +kernel
theorem dX13_change_35 : decode cX13_change 35 = .ok (.ireturn, 1) := by decide +kernel
theorem dX13_word_0 : decode cX13_word 0 = .ok (.aload_n 0, 1) := by decide +kernel
theorem dX13_word_1 : decode cX13_word 1 = .ok (.iload_n 1, 1) := by decide +kernel
theorem dX13_word_2 : decode cX13_word 2 = .ok (.iload_n 2, 1) := by decide +kernel
theorem dX13_word_3 : decode cX13_word 3 = .ok (.invokevirtual 992, 3) := by decide +kernel
theorem dX13_word_6 : decode cX13_word 6 = .ok (.istore 4, 2) := by decide +kernel
theorem dX13_word_8 : decode cX13_word 8 = .ok (.aload_n 0, 1) := by decide +kernel
theorem dX13_word_9 : decode cX13_word 9 = .ok (.iload_n 1, 1) := by decide +kernel
theorem dX13_word_10 : decode cX13_word 10 = .ok (.iload_n 3, 1) := by decide +kernel
theorem dX13_word_11 : decode cX13_word 11 = .ok (.invokevirtual 992, 3) := by decide +kernel
theorem dX13_word_14 : decode cX13_word 14 = .ok (.istore 5, 2) := by decide +kernel
theorem dX13_word_16 : decode cX13_word 16 = .ok (.iload 4, 2) := by decide +kernel
theorem dX13_word_18 : decode cX13_word 18 = .ok (.bipush (-2), 2) := by decide +kernel
theorem dX13_word_20 : decode cX13_word 20 = .ok (.if_icmp .eq 10, 3) := by decide +kernel
theorem dX13_word_30 : decode cX13_word 30 = .ok (.iconst (-1), 1) := by decide +kernel
theorem dX13_word_31 : decode cX13_word 31 = .ok (.ireturn, 1) := by decide +kernel
theorem dX13_weave_0 : decode cX13_weave 0 = .ok (.aload_n 0, 1) := by decide +kernel
theorem dX13_weave_1 : decode cX13_weave 1 = .ok (.iload_n 1, 1) := by decide +kernel
theorem dX13_weave_2 : decode cX13_weave 2 = .ok (.iload_n 2, 1) := by decide +kernel
theorem dX13_weave_3 : decode cX13_weave 3 = .ok (.invokevirtual 992, 3) := by decide +kernel
theorem dX13_weave_6 : decode cX13_weave 6 = .ok (.istore 4, 2) := by decide +kernel
theorem dX13_weave_8 : decode cX13_weave 8 = .ok (.aload_n 0, 1) := by decide +kernel
theorem dX13_weave_9 : decode cX13_weave 9 = .ok (.iload_n 1, 1) := by decide +kernel
theorem dX13_weave_10 : decode cX13_weave 10 = .ok (.iload_n 3, 1) := by decide +kernel
theorem dX13_weave_11 : decode cX13_weave 11 = .ok (.invokevirtual 992, 3) := by decide +kernel
theorem dX13_weave_14 : decode cX13_weave 14 = .ok (.istore 5, 2) := by decide +kernel
theorem dX13_weave_16 : decode cX13_weave 16 = .ok (.iload 4, 2) := by decide +kernel
theorem dX13_weave_18 : decode cX13_weave 18 = .ok (.bipush (-2), 2) := by decide +kernel
theorem dX13_weave_20 : decode cX13_weave 20 = .ok (.if_icmp .eq 10, 3) := by decide +kernel
theorem dX13_weave_30 : decode cX13_weave 30 = .ok (.iconst (-1), 1) := by decide +kernel
theorem dX13_weave_31 : decode cX13_weave 31 = .ok (.ireturn, 1) := by decide +kernel
theorem dX13_init_0 : decode cX13_init 0 = .ok (.aload_n 0, 1) := by decide +kernel
theorem dX13_init_1 : decode cX13_init 1 = .ok (.invokespecial 1480, 3) := by decide +kernel
theorem dX13_init_4 : decode cX13_init 4 = .ok (.aload_n 0, 1) := by decide +kernel
theorem dX13_init_5 : decode cX13_init 5 = .ok (.sipush 4000, 3) := by decide +kernel
theorem dX13_init_8 : decode cX13_init 8 = .ok (.newarray .int, 2) := by decide +kernel
theorem dX13_init_10 : decode cX13_init 10 = .ok (.putfield 63, 3) := by decide +kernel
theorem dX13_init_13 : decode cX13_init 13 = .ok (.aload_n 0, 1) := by decide +kernel
theorem dX13_init_14 : decode cX13_init 14 = .ok (.sipush 4200, 3) := by decide +kernel
theorem dX13_init_17 : decode cX13_init 17 = .ok (.newarray .int, 2) := by decide +kernel
theorem dX13_init_19 : decode cX13_init 19 = .ok (.putfield 11, 3) := by decide +kernel
theorem dX13_init_22 : decode cX13_init 22 = .ok (.aload_n 0, 1) := by decide +kernel
theorem dX13_init_23 : decode cX13_init 23 = .ok (.sipush 4000, 3) := by decide +kernel
theorem dX13_init_26 : decode cX13_init 26 = .ok (.newarray .int, 2) := by decide +kernel
theorem dX13_init_28 : decode cX13_init 28 = .ok (.putfield 66, 3) := by decide +kernel
theorem dX13_init_31 : decode cX13_init 31 = .ok (.aload_n 0, 1) := by decide +kernel
theorem dX13_init_32 : decode cX13_init 32 = .ok (.ldc_w 1485, 3) := by decide +kernel
theorem dX13_init_35 : decode cX13_init 35 = .ok (.newarray .byte, 2) := by decide +kernel
theorem dX13_init_37 : decode cX13_init 37 = .ok (.putfield 87, 3) := by decide +kernel
theorem dX13_init_40 : decode cX13_init 40 = .ok (.aload_n 0, 1) := by decide +kernel
theorem dX13_init_41 : decode cX13_init 41 = .ok (.bipush 16, 2) := by decide +kernel
theorem dX13_init_43 : decode cX13_init 43 = .ok (.newarray .int, 2) := by decide +kernel
theorem dX13_init_45 : decode cX13_init 45 = .ok (.putfield 81, 3) := by decide +kernel
theorem dX13_init_48 : decode cX13_init 48 = .ok (.aload_n 0, 1) := by decide +kernel
theorem dX13_init_49 : decode cX13_init 49 = .ok (.bipush 16, 2) := by decide +kernel
theorem dX13_init_51 : decode cX13_init 51 = .ok (.newarray .int, 2) := by decide +kernel
theorem dX13_init_53 : decode cX13_init 53 = .ok (.putfield 538, 3) := by decide +kernel
theorem dX13_init_56 : decode cX13_init 56 = .ok (.aload_n 0, 1) := by decide +kernel
theorem dX13_init_57 : decode cX13_init 57 = .ok (.bipush 40, 2) := by decide +kernel
theorem dX13_init_59 : decode cX13_init 59 = .ok (.newarray .int, 2) := by decide +kernel
theorem dX13_init_61 : decode cX13_init 61 = .ok (.putfield 965, 3) := by decide +kernel
theorem dX13_init_64 : decode cX13_init 64 = .ok (.aload_n 0, 1) := by decide +kernel
theorem dX13_init_65 : decode cX13_init 65 = .ok (.iconst 5, 1) := by decide +kernel
theorem dX13_init_66 : decode cX13_init 66 = .ok (.newarray .int, 2) := by decide +kernel
theorem dX13_init_68 : decode cX13_init 68 = .ok (.putfield 947, 3) := by decide +kernel
theorem dX13_init_71 : decode cX13_init 71 = .ok (.aload_n 0, 1) := by decide +kernel
theorem dX13_init_72 : decode cX13_init 72 = .ok (.sipush 12636, 3) := by decide +kernel
theorem dX13_init_75 : decode cX13_init 75 = .ok (.newarray .int, 2) := by decide +kernel
theorem dX13_init_77 : decode cX13_init 77 = .ok (.putfield 103, 3) := by decide +kernel
theorem dX13_init_80 : decode cX13_init 80 = .ok (.aload_n 0, 1) := by decide +kernel
theorem dX13_init_81 : decode cX13_init 81 = .ok (.sipush 12636, 3) := by decide +kernel
theorem dX13_init_84 : decode cX13_init 84 = .ok (.newarray .int, 2) := by decide +kernel
theorem dX13_init_86 : decode cX13_init 86 = .ok (.putfield 94, 3) := by decide +kernel
theorem dX13_init_89 : decode cX13_init 89 = .ok (.aload_n 0, 1) := by decide +kernel
theorem dX13_init_90 : decode cX13_init 90 = .ok (.sipush 12636, 3) := by decide +kernel
theorem dX13_init_93 : decode cX13_init 93 = .ok (.newarray .int, 2) := by decide +kernel
theorem dX13_init_95 : decode cX13_init 95 = .ok (.putfield 110, 3) := by decide +kernel
theorem dX13_init_98 : decode cX13_init 98 = .ok (.aload_n 0, 1) := by decide +kernel
theorem dX13_init_99 : decode cX13_init 99 = .ok (.sipush 12636, 3) := by decide +kernel
theorem dX13_init_102 : decode cX13_init 102 = .ok (.newarray .long, 2) := by decide +kernel
theorem dX13_init_104 : decode cX13_init 104 = .ok (.putfield 97, 3) := by decide +kernel
theorem dX13_init_107 : decode cX13_init 107 = .ok (.aload_n 0, 1) := by decide +kernel
theorem dX13_init_108 : decode cX13_init 108 = .ok (.sipush 12636, 3) := by decide +kernel
theorem dX13_init_111 : decode cX13_init 111 = .ok (.newarray .int, 2) := by decide +kernel
theorem dX13_init_113 : decode cX13_init 113 = .ok (.putfield 100, 3) := by decide +kernel
theorem dX13_init_116 : decode cX13_init 116 = .ok (.aload_n 0, 1) := by decide +kernel
theorem dX13_init_117 : decode cX13_init 117 = .ok (.bipush 18, 2) := by decide +kernel
theorem dX13_init_119 : decode cX13_init 119 = .ok (.newarray .int, 2) := by decide +kernel
theorem dX13_init_121 : decode cX13_init 121 = .ok (.putfield 113, 3) := by decide +kernel
theorem dX13_init_124 : decode cX13_init 124 = .ok (.aload_n 0, 1) := by decide +kernel
theorem dX13_init_125 : decode cX13_init 125 = .ok (.bipush 32, 2) := by decide +kernel
theorem dX13_init_127 : decode cX13_init 127 = .ok (.newarray .long, 2) := by decide +kernel
theorem dX13_init_129 : decode cX13_init 129 = .ok (.putfield 71, 3) := by decide +kernel
theorem dX13_init_132 : decode cX13_init 132 = .ok (.aload_n 0, 1) := by decide +kernel
theorem dX13_init_133 : decode cX13_init 133 = .ok (.bipush 18, 2) := by decide +kernel
theorem dX13_init_135 : decode cX13_init 135 = .ok (.newarray .int, 2) := by decide +kernel
theorem dX13_init_137 : decode cX13_init 137 = .ok (.putfield 230, 3) := by decide +kernel
theorem dX13_init_140 : decode cX13_init 140 = .ok (.aload_n 0, 1) := by decide +kernel
theorem dX13_init_141 : decode cX13_init 141 = .ok (.sipush 216, 3) := by decide +kernel
theorem dX13_init_144 : decode cX13_init 144 = .ok (.newarray .long, 2) := by decide +kernel
theorem dX13_init_146 : decode cX13_init 146 = .ok (.putfield 256, 3) := by decide +kernel
theorem dX13_init_149 : decode cX13_init 149 = .ok (.aload_n 0, 1) := by decide +kernel
theorem dX13_init_150 : decode cX13_init 150 = .ok (.sipush 216, 3) := by decide +kernel
theorem dX13_init_153 : decode cX13_init 153 = .ok (.newarray .int, 2) := by decide +kernel
theorem dX13_init_155 : decode cX13_init 155 = .ok (.putfield 259, 3) := by decide +kernel
theorem dX13_init_158 : decode cX13_init 158 = .ok (.aload_n 0, 1) := by decide +kernel
theorem dX13_init_159 : decode cX13_init 159 = .ok (.sipush 216, 3) := by decide +kernel
theorem dX13_init_162 : decode cX13_init 162 = .ok (.newarray .boolean, 2) := by decide +kernel
theorem dX13_init_164 : decode cX13_init 164 = .ok (.putfield 262, 3) := by decide +kernel
theorem dX13_init_167 : decode cX13_init 167 = .ok (.aload_n 0, 1) := by decide +kernel
theorem dX13_init_168 : decode cX13_init 168 = .ok (.sipush 216, 3) := by decide +kernel
theorem dX13_init_171 : decode cX13_init 171 = .ok (.newarray .int, 2) := by decide +kernel
theorem dX13_init_173 : decode cX13_init 173 = .ok (.putfield 266, 3) := by decide +kernel
theorem dX13_init_176 : decode cX13_init 176 = .ok (.aload_n 0, 1) := by decide +kernel
theorem dX13_init_177 : decode cX13_init 177 = .ok (.sipush 216, 3) := by decide +kernel
theorem dX13_init_180 : decode cX13_init 180 = .ok (.newarray .long, 2) := by decide +kernel
theorem dX13_init_182 : decode cX13_init 182 = .ok (.putfield 269, 3) := by decide +kernel
theorem dX13_init_185 : decode cX13_init 185 = .ok (.aload_n 0, 1) := by decide +kernel
theorem dX13_init_186 : decode cX13_init 186 = .ok (.sipush 216, 3) := by decide +kernel
theorem dX13_init_189 : decode cX13_init 189 = .ok (.newarray .int, 2) := by decide +kernel
theorem dX13_init_191 : decode cX13_init 191 = .ok (.putfield 280, 3) := by decide +kernel
theorem dX13_init_194 : decode cX13_init 194 = .ok (.aload_n 0, 1) := by decide +kernel
theorem dX13_init_195 : decode cX13_init 195 = .ok (.sipush 864, 3) := by decide +kernel
theorem dX13_init_198 : decode cX13_init 198 = .ok (.newarray .long, 2) := by decide +kernel
theorem dX13_init_200 : decode cX13_init 200 = .ok (.putfield 288, 3) := by decide +kernel
theorem dX13_init_203 : decode cX13_init 203 = .ok (.aload_n 0, 1) := by decide +kernel
theorem dX13_init_204 : decode cX13_init 204 = .ok (.sipush 864, 3) := by decide +kernel
theorem dX13_init_207 : decode cX13_init 207 = .ok (.newarray .int, 2) := by decide +kernel
theorem dX13_init_209 : decode cX13_init 209 = .ok (.putfield 291, 3) := by decide +kernel
theorem dX13_init_212 : decode cX13_init 212 = .ok (.aload_n 0, 1) := by decide +kernel
theorem dX13_init_213 : decode cX13_init 213 = .ok (.sipush 216, 3) := by decide +kernel
theorem dX13_init_216 : decode cX13_init 216 = .ok (.newarray .int, 2) := by decide +kernel
theorem dX13_init_218 : decode cX13_init 218 = .ok (.putfield 283, 3) := by decide +kernel
theorem dX13_init_221 : decode cX13_init 221 = .ok (.aload_n 0, 1) := by decide +kernel
theorem dX13_init_222 : decode cX13_init 222 = .ok (.sipush 216, 3) := by decide +kernel
theorem dX13_init_225 : decode cX13_init 225 = .ok (.newarray .long, 2) := by decide +kernel
theorem dX13_init_227 : decode cX13_init 227 = .ok (.putfield 272, 3) := by decide +kernel
theorem dX13_init_230 : decode cX13_init 230 = .ok (.aload_n 0, 1) := by decide +kernel
theorem dX13_init_231 : decode cX13_init 231 = .ok (.sipush 216, 3) := by decide +kernel
theorem dX13_init_234 : decode cX13_init 234 = .ok (.newarray .int, 2) := by decide +kernel
theorem dX13_init_236 : decode cX13_init 236 = .ok (.putfield 300, 3) := by decide +kernel
theorem dX13_init_239 : decode cX13_init 239 = .ok (.aload_n 0, 1) := by decide +kernel
theorem dX13_init_240 : decode cX13_init 240 = .ok (.sipush 1728, 3) := by decide +kernel
theorem dX13_init_243 : decode cX13_init 243 = .ok (.newarray .long, 2) := by decide +kernel
theorem dX13_init_245 : decode cX13_init 245 = .ok (.putfield 308, 3) := by decide +kernel
theorem dX13_init_248 : decode cX13_init 248 = .ok (.aload_n 0, 1) := by decide +kernel
theorem dX13_init_249 : decode cX13_init 249 = .ok (.sipush 1728, 3) := by decide +kernel
theorem dX13_init_252 : decode cX13_init 252 = .ok (.newarray .int, 2) := by decide +kernel
theorem dX13_init_254 : decode cX13_init 254 = .ok (.putfield 311, 3) := by decide +kernel
theorem dX13_init_257 : decode cX13_init 257 = .ok (.aload_n 0, 1) := by decide +kernel
theorem dX13_init_258 : decode cX13_init 258 = .ok (.sipush 216, 3) := by decide +kernel
theorem dX13_init_261 : decode cX13_init 261 = .ok (.newarray .int, 2) := by decide +kernel
theorem dX13_init_263 : decode cX13_init 263 = .ok (.putfield 303, 3) := by decide +kernel
theorem dX13_init_266 : decode cX13_init 266 = .ok (.aload_n 0, 1) := by decide +kernel
theorem dX13_init_267 : decode cX13_init 267 = .ok (.sipush 1728, 3) := by decide +kernel
theorem dX13_init_270 : decode cX13_init 270 = .ok (.newarray .long, 2) := by decide +kernel
theorem dX13_init_272 : decode cX13_init 272 = .ok (.putfield 319, 3) := by decide +kernel
theorem dX13_init_275 : decode cX13_init 275 = .ok (.aload_n 0, 1) := by decide +kernel
theorem dX13_init_276 : decode cX13_init 276 = .ok (.sipush 1728, 3) := by decide +kernel
theorem dX13_init_279 : decode cX13_init 279 = .ok (.newarray .int, 2) := by decide +kernel
theorem dX13_init_281 : decode cX13_init 281 = .ok (.putfield 322, 3) := by decide +kernel
theorem dX13_init_284 : decode cX13_init 284 = .ok (.aload_n 0, 1) := by decide +kernel
theorem dX13_init_285 : decode cX13_init 285 = .ok (.sipush 216, 3) := by decide +kernel
theorem dX13_init_288 : decode cX13_init 288 = .ok (.newarray .int, 2) := by decide +kernel
theorem dX13_init_290 : decode cX13_init 290 = .ok (.putfield 314, 3) := by decide +kernel
theorem dX13_init_293 : decode cX13_init 293 = .ok (.aload_n 0, 1) := by decide +kernel
theorem dX13_init_294 : decode cX13_init 294 = .ok (.sipush 216, 3) := by decide +kernel
theorem dX13_init_297 : decode cX13_init 297 = .ok (.newarray .int, 2) := by decide +kernel
theorem dX13_init_299 : decode cX13_init 299 = .ok (.putfield 275, 3) := by decide +kernel
theorem dX13_init_302 : decode cX13_init 302 = .ok (.aload_n 0, 1) := by decide +kernel
theorem dX13_init_303 : decode cX13_init 303 = .ok (.sipush 7344, 3) := by decide +kernel
theorem dX13_init_306 : decode cX13_init 306 = .ok (.newarray .int, 2) := by decide +kernel
theorem dX13_init_308 : decode cX13_init 308 = .ok (.putfield 402, 3) := by decide +kernel
theorem dX13_init_311 : decode cX13_init 311 = .ok (.aload_n 0, 1) := by decide +kernel
theorem dX13_init_312 : decode cX13_init 312 = .ok (.sipush 7344, 3) := by decide +kernel
theorem dX13_init_315 : decode cX13_init 315 = .ok (.newarray .int, 2) := by decide +kernel
theorem dX13_init_317 : decode cX13_init 317 = .ok (.putfield 399, 3) := by decide +kernel
theorem dX13_init_320 : decode cX13_init 320 = .ok (.aload_n 0, 1) := by decide +kernel
theorem dX13_init_321 : decode cX13_init 321 = .ok (.sipush 7344, 3) := by decide +kernel
theorem dX13_init_324 : decode cX13_init 324 = .ok (.newarray .int, 2) := by decide +kernel
theorem dX13_init_326 : decode cX13_init 326 = .ok (.putfield 433, 3) := by decide +kernel
theorem dX13_init_329 : decode cX13_init 329 = .ok (.aload_n 0, 1) := by decide +kernel
theorem dX13_init_330 : decode cX13_init 330 = .ok (.sipush 7344, 3) := by decide +kernel
theorem dX13_init_333 : decode cX13_init 333 = .ok (.newarray .boolean, 2) := by decide +kernel
theorem dX13_init_335 : decode cX13_init 335 = .ok (.putfield 341, 3) := by decide +kernel
theorem dX13_init_338 : decode cX13_init 338 = .ok (.aload_n 0, 1) := by decide +kernel
theorem dX13_init_339 : decode cX13_init 339 = .ok (.sipush 7344, 3) := by decide +kernel
theorem dX13_init_342 : decode cX13_init 342 = .ok (.newarray .boolean, 2) := by decide +kernel
theorem dX13_init_344 : decode cX13_init 344 = .ok (.putfield 344, 3) := by decide +kernel
theorem dX13_init_347 : decode cX13_init 347 = .ok (.aload_n 0, 1) := by decide +kernel
theorem dX13_init_348 : decode cX13_init 348 = .ok (.sipush 7344, 3) := by decide +kernel
theorem dX13_init_351 : decode cX13_init 351 = .ok (.newarray .boolean, 2) := by decide +kernel
theorem dX13_init_353 : decode cX13_init 353 = .ok (.putfield 436, 3) := by decide +kernel
theorem dX13_init_356 : decode cX13_init 356 = .ok (.aload_n 0, 1) := by decide +kernel
theorem dX13_init_357 : decode cX13_init 357 = .ok (.sipush 7344, 3) := by decide +kernel
theorem dX13_init_360 : decode cX13_init 360 = .ok (.newarray .boolean, 2) := by decide +kernel
theorem dX13_init_362 : decode cX13_init 362 = .ok (.putfield 347, 3) := by decide +kernel
theorem dX13_init_365 : decode cX13_init 365 = .ok (.aload_n 0, 1) := by decide +kernel
theorem dX13_init_366 : decode cX13_init 366 = .ok (.sipush 7344, 3) := by decide +kernel
theorem dX13_init_369 : decode cX13_init 369 = .ok (.newarray .boolean, 2) := by decide +kernel
theorem dX13_init_371 : decode cX13_init 371 = .ok (.putfield 350, 3) := by decide +kernel
theorem dX13_init_374 : decode cX13_init 374 = .ok (.aload_n 0, 1) := by decide +kernel
theorem dX13_init_375 : decode cX13_init 375 = .ok (.sipush 7344, 3) := by decide +kernel
theorem dX13_init_378 : decode cX13_init 378 = .ok (.newarray .boolean, 2) := by decide +kernel
theorem dX13_init_380 : decode cX13_init 380 = .ok (.putfield 353, 3) := by decide +kernel
theorem dX13_init_383 : decode cX13_init 383 = .ok (.aload_n 0, 1) := by decide +kernel
theorem dX13_init_384 : decode cX13_init 384 = .ok (.sipush 7344, 3) := by decide +kernel
theorem dX13_init_387 : decode cX13_init 387 = .ok (.newarray .long, 2) := by decide +kernel
theorem dX13_init_389 : decode cX13_init 389 = .ok (.putfield 356, 3) := by decide +kernel
theorem dX13_init_392 : decode cX13_init 392 = .ok (.aload_n 0, 1) := by decide +kernel
theorem dX13_init_393 : decode cX13_init 393 = .ok (.sipush 7344, 3) := by decide +kernel
theorem dX13_init_396 : decode cX13_init 396 = .ok (.newarray .int, 2) := by decide +kernel
theorem dX13_init_398 : decode cX13_init 398 = .ok (.putfield 405, 3) := by decide +kernel
theorem dX13_init_401 : decode cX13_init 401 = .ok (.aload_n 0, 1) := by decide +kernel
theorem dX13_init_402 : decode cX13_init 402 = .ok (.sipush 7344, 3) := by decide +kernel
theorem dX13_init_405 : decode cX13_init 405 = .ok (.newarray .long, 2) := by decide +kernel
theorem dX13_init_407 : decode cX13_init 407 = .ok (.putfield 359, 3) := by decide +kernel
theorem dX13_init_410 : decode cX13_init 410 = .ok (.aload_n 0, 1) := by decide +kernel
theorem dX13_init_411 : decode cX13_init 411 = .ok (.sipush 7344, 3) := by decide +kernel
theorem dX13_init_414 : decode cX13_init 414 = .ok (.newarray .int, 2) := by decide +kernel
theorem dX13_init_416 : decode cX13_init 416 = .ok (.putfield 420, 3) := by decide +kernel
theorem dX13_init_419 : decode cX13_init 419 = .ok (.aload_n 0, 1) := by decide +kernel
theorem dX13_init_420 : decode cX13_init 420 = .ok (.sipush 7344, 3) := by decide +kernel
theorem dX13_init_423 : decode cX13_init 423 = .ok (.newarray .int, 2) := by decide +kernel
theorem dX13_init_425 : decode cX13_init 425 = .ok (.putfield 362, 3) := by decide +kernel
theorem dX13_init_428 : decode cX13_init 428 = .ok (.aload_n 0, 1) := by decide +kernel
theorem dX13_init_429 : decode cX13_init 429 = .ok (.sipush 29376, 3) := by decide +kernel
theorem dX13_init_432 : decode cX13_init 432 = .ok (.newarray .long, 2) := by decide +kernel
theorem dX13_init_434 : decode cX13_init 434 = .ok (.putfield 442, 3) := by decide +kernel
theorem dX13_init_437 : decode cX13_init 437 = .ok (.aload_n 0, 1) := by decide +kernel
theorem dX13_init_438 : decode cX13_init 438 = .ok (.sipush 29376, 3) := by decide +kernel
theorem dX13_init_441 : decode cX13_init 441 = .ok (.newarray .int, 2) := by decide +kernel
theorem dX13_init_443 : decode cX13_init 443 = .ok (.putfield 439, 3) := by decide +kernel
theorem dX13_init_446 : decode cX13_init 446 = .ok (.aload_n 0, 1) := by decide +kernel
theorem dX13_init_447 : decode cX13_init 447 = .ok (.sipush 29376, 3) := by decide +kernel
theorem dX13_init_450 : decode cX13_init 450 = .ok (.newarray .long, 2) := by decide +kernel
theorem dX13_init_452 : decode cX13_init 452 = .ok (.putfield 445, 3) := by decide +kernel
theorem dX13_init_455 : decode cX13_init 455 = .ok (.aload_n 0, 1) := by decide +kernel
theorem dX13_init_456 : decode cX13_init 456 = .ok (.sipush 29376, 3) := by decide +kernel
theorem dX13_init_459 : decode cX13_init 459 = .ok (.newarray .int, 2) := by decide +kernel
theorem dX13_init_461 : decode cX13_init 461 = .ok (.putfield 448, 3) := by decide +kernel
theorem dX13_init_464 : decode cX13_init 464 = .ok (.aload_n 0, 1) := by decide +kernel
theorem dX13_init_465 : decode cX13_init 465 = .ok (.sipush 7344, 3) := by decide +kernel
theorem dX13_init_468 : decode cX13_init 468 = .ok (.newarray .int, 2) := by decide +kernel
theorem dX13_init_470 : decode cX13_init 470 = .ok (.putfield 365, 3) := by decide +kernel
theorem dX13_init_473 : decode cX13_init 473 = .ok (.aload_n 0, 1) := by decide +kernel
theorem dX13_init_474 : decode cX13_init 474 = .ok (.sipush 7344, 3) := by decide +kernel
theorem dX13_init_477 : decode cX13_init 477 = .ok (.newarray .int, 2) := by decide +kernel
theorem dX13_init_479 : decode cX13_init 479 = .ok (.putfield 368, 3) := by decide +kernel
theorem dX13_init_482 : decode cX13_init 482 = .ok (.aload_n 0, 1) := by decide +kernel
theorem dX13_init_483 : decode cX13_init 483 = .ok (.sipush 7344, 3) := by decide +kernel
theorem dX13_init_486 : decode cX13_init 486 = .ok (.newarray .int, 2) := by decide +kernel
theorem dX13_init_488 : decode cX13_init 488 = .ok (.putfield 371, 3) := by decide +kernel
theorem dX13_init_491 : decode cX13_init 491 = .ok (.aload_n 0, 1) := by decide +kernel
theorem dX13_init_492 : decode cX13_init 492 = .ok (.sipush 7344, 3) := by decide +kernel
theorem dX13_init_495 : decode cX13_init 495 = .ok (.newarray .int, 2) := by decide +kernel
theorem dX13_init_497 : decode cX13_init 497 = .ok (.putfield 374, 3) := by decide +kernel
theorem dX13_init_500 : decode cX13_init 500 = .ok (.aload_n 0, 1) := by decide +kernel
theorem dX13_init_501 : decode cX13_init 501 = .ok (.sipush 7344, 3) := by decide +kernel
theorem dX13_init_504 : decode cX13_init 504 = .ok (.newarray .boolean, 2) := by decide +kernel
theorem dX13_init_506 : decode cX13_init 506 = .ok (.putfield 377, 3) := by decide +kernel
theorem dX13_init_509 : decode cX13_init 509 = .ok (.aload_n 0, 1) := by decide +kernel
theorem dX13_init_510 : decode cX13_init 510 = .ok (.sipush 7344, 3) := by decide +kernel
theorem dX13_init_513 : decode cX13_init 513 = .ok (.newarray .int, 2) := by decide +kernel
theorem dX13_init_515 : decode cX13_init 515 = .ok (.putfield 380, 3) := by decide +kernel
theorem dX13_init_518 : decode cX13_init 518 = .ok (.aload_n 0, 1) := by decide +kernel
theorem dX13_init_519 : decode cX13_init 519 = .ok (.sipush 7344, 3) := by decide +kernel
theorem dX13_init_522 : decode cX13_init 522 = .ok (.newarray .long, 2) := by decide +kernel
theorem dX13_init_524 : decode cX13_init 524 = .ok (.putfield 383, 3) := by decide +kernel
theorem dX13_init_527 : decode cX13_init 527 = .ok (.aload_n 0, 1) := by decide +kernel
theorem dX13_init_528 : decode cX13_init 528 = .ok (.sipush 7344, 3) := by decide +kernel
theorem dX13_init_531 : decode cX13_init 531 = .ok (.newarray .int, 2) := by decide +kernel
theorem dX13_init_533 : decode cX13_init 533 = .ok (.putfield 386, 3) := by decide +kernel
theorem dX13_init_536 : decode cX13_init 536 = .ok (.aload_n 0, 1) := by decide +kernel
theorem dX13_init_537 : decode cX13_init 537 = .ok (.sipush 7344, 3) := by decide +kernel
theorem dX13_init_540 : decode cX13_init 540 = .ok (.newarray .int, 2) := by decide +kernel
theorem dX13_init_542 : decode cX13_init 542 = .ok (.putfield 389, 3) := by decide +kernel
theorem dX13_init_545 : decode cX13_init 545 = .ok (.aload_n 0, 1) := by decide +kernel
theorem dX13_init_546 : decode cX13_init 546 = .ok (.bipush 18, 2) := by decide +kernel
theorem dX13_init_548 : decode cX13_init 548 = .ok (.newarray .int, 2) := by decide +kernel
theorem dX13_init_550 : decode cX13_init 550 = .ok (.putfield 170, 3) := by decide +kernel
theorem dX13_init_553 : decode cX13_init 553 = .ok (.aload_n 0, 1) := by decide +kernel
theorem dX13_init_554 : decode cX13_init 554 = .ok (.sipush 30600, 3) := by decide +kernel
theorem dX13_init_557 : decode cX13_init 557 = .ok (.newarray .int, 2) := by decide +kernel
theorem dX13_init_559 : decode cX13_init 559 = .ok (.putfield 173, 3) := by decide +kernel
theorem dX13_init_562 : decode cX13_init 562 = .ok (.aload_n 0, 1) := by decide +kernel
theorem dX13_init_563 : decode cX13_init 563 = .ok (.sipush 30600, 3) := by decide +kernel
theorem dX13_init_566 : decode cX13_init 566 = .ok (.newarray .int, 2) := by decide +kernel
theorem dX13_init_568 : decode cX13_init 568 = .ok (.putfield 176, 3) := by decide +kernel
theorem dX13_init_571 : decode cX13_init 571 = .ok (.aload_n 0, 1) := by decide +kernel
theorem dX13_init_572 : decode cX13_init 572 = .ok (.sipush 30600, 3) := by decide +kernel
theorem dX13_init_575 : decode cX13_init 575 = .ok (.newarray .int, 2) := by decide +kernel
theorem dX13_init_577 : decode cX13_init 577 = .ok (.putfield 179, 3) := by decide +kernel
theorem dX13_init_580 : decode cX13_init 580 = .ok (.aload_n 0, 1) := by decide +kernel
theorem dX13_init_581 : decode cX13_init 581 = .ok (.sipush 30600, 3) := by decide +kernel
theorem dX13_init_584 : decode cX13_init 584 = .ok (.newarray .int, 2) := by decide +kernel
theorem dX13_init_586 : decode cX13_init 586 = .ok (.putfield 182, 3) := by decide +kernel
theorem dX13_init_589 : decode cX13_init 589 = .ok (.aload_n 0, 1) := by decide +kernel
theorem dX13_init_590 : decode cX13_init 590 = .ok (.sipush 30600, 3) := by decide +kernel
theorem dX13_init_593 : decode cX13_init 593 = .ok (.newarray .long, 2) := by decide +kernel
theorem dX13_init_595 : decode cX13_init 595 = .ok (.putfield 185, 3) := by decide +kernel
theorem dX13_init_598 : decode cX13_init 598 = .ok (.aload_n 0, 1) := by decide +kernel
theorem dX13_init_599 : decode cX13_init 599 = .ok (.sipush 30600, 3) := by decide +kernel
theorem dX13_init_602 : decode cX13_init 602 = .ok (.newarray .long, 2) := by decide +kernel
theorem dX13_init_604 : decode cX13_init 604 = .ok (.putfield 188, 3) := by decide +kernel
theorem dX13_init_607 : decode cX13_init 607 = .ok (.aload_n 0, 1) := by decide +kernel
theorem dX13_init_608 : decode cX13_init 608 = .ok (.sipush 30600, 3) := by decide +kernel
theorem dX13_init_611 : decode cX13_init 611 = .ok (.newarray .long, 2) := by decide +kernel
theorem dX13_init_613 : decode cX13_init 613 = .ok (.putfield 191, 3) := by decide +kernel
theorem dX13_init_616 : decode cX13_init 616 = .ok (.aload_n 0, 1) := by decide +kernel
theorem dX13_init_617 : decode cX13_init 617 = .ok (.sipush 30600, 3) := by decide +kernel
theorem dX13_init_620 : decode cX13_init 620 = .ok (.newarray .int, 2) := by decide +kernel
theorem dX13_init_622 : decode cX13_init 622 = .ok (.putfield 194, 3) := by decide +kernel
theorem dX13_init_625 : decode cX13_init 625 = .ok (.aload_n 0, 1) := by decide +kernel
theorem dX13_init_626 : decode cX13_init 626 = .ok (.sipush 30600, 3) := by decide +kernel
theorem dX13_init_629 : decode cX13_init 629 = .ok (.newarray .int, 2) := by decide +kernel
theorem dX13_init_631 : decode cX13_init 631 = .ok (.putfield 197, 3) := by decide +kernel
theorem dX13_init_634 : decode cX13_init 634 = .ok (.aload_n 0, 1) := by decide +kernel
theorem dX13_init_635 : decode cX13_init 635 = .ok (.sipush 30600, 3) := by decide +kernel
theorem dX13_init_638 : decode cX13_init 638 = .ok (.newarray .int, 2) := by decide +kernel
theorem dX13_init_640 : decode cX13_init 640 = .ok (.putfield 200, 3) := by decide +kernel
theorem dX13_init_643 : decode cX13_init 643 = .ok (.aload_n 0, 1) := by decide +kernel
theorem dX13_init_644 : decode cX13_init 644 = .ok (.sipush 30600, 3) := by decide +kernel
theorem dX13_init_647 : decode cX13_init 647 = .ok (.newarray .int, 2) := by decide +kernel
theorem dX13_init_649 : decode cX13_init 649 = .ok (.putfield 203, 3) := by decide +kernel
theorem dX13_init_652 : decode cX13_init 652 = .ok (.aload_n 0, 1) := by decide +kernel
theorem dX13_init_653 : decode cX13_init 653 = .ok (.sipush 30600, 3) := by decide +kernel
theorem dX13_init_656 : decode cX13_init 656 = .ok (.newarray .int, 2) := by decide +kernel
theorem dX13_init_658 : decode cX13_init 658 = .ok (.putfield 206, 3) := by decide +kernel
theorem dX13_init_661 : decode cX13_init 661 = .ok (.aload_n 0, 1) := by decide +kernel
theorem dX13_init_662 : decode cX13_init 662 = .ok (.sipush 30600, 3) := by decide +kernel
theorem dX13_init_665 : decode cX13_init 665 = .ok (.newarray .int, 2) := by decide +kernel
theorem dX13_init_667 : decode cX13_init 667 = .ok (.putfield 209, 3) := by decide +kernel
theorem dX13_init_670 : decode cX13_init 670 = .ok (.aload_n 0, 1) := by decide +kernel
theorem dX13_init_671 : decode cX13_init 671 = .ok (.sipush 30600, 3) := by decide +kernel
theorem dX13_init_674 : decode cX13_init 674 = .ok (.newarray .long, 2) := by decide +kernel
theorem dX13_init_676 : decode cX13_init 676 = .ok (.putfield 212, 3) := by decide +kernel
theorem dX13_init_679 : decode cX13_init 679 = .ok (.aload_n 0, 1) := by decide +kernel
theorem dX13_init_680 : decode cX13_init 680 = .ok (.sipush 30600, 3) := by decide +kernel
theorem dX13_init_683 : decode cX13_init 683 = .ok (.newarray .long, 2) := by decide +kernel
theorem dX13_init_685 : decode cX13_init 685 = .ok (.putfield 215, 3) := by decide +kernel
theorem dX13_init_688 : decode cX13_init 688 = .ok (.aload_n 0, 1) := by decide +kernel
theorem dX13_init_689 : decode cX13_init 689 = .ok (.sipush 30600, 3) := by decide +kernel
theorem dX13_init_692 : decode cX13_init 692 = .ok (.newarray .int, 2) := by decide +kernel
theorem dX13_init_694 : decode cX13_init 694 = .ok (.putfield 218, 3) := by decide +kernel
theorem dX13_init_697 : decode cX13_init 697 = .ok (.aload_n 0, 1) := by decide +kernel
theorem dX13_init_698 : decode cX13_init 698 = .ok (.ldc_w 1486, 3) := by decide +kernel
theorem dX13_init_701 : decode cX13_init 701 = .ok (.newarray .long, 2) := by decide +kernel
theorem dX13_init_703 : decode cX13_init 703 = .ok (.putfield 825, 3) := by decide +kernel
theorem dX13_init_706 : decode cX13_init 706 = .ok (.aload_n 0, 1) := by decide +kernel
theorem dX13_init_707 : decode cX13_init 707 = .ok (.sipush 30600, 3) := by decide +kernel
theorem dX13_init_710 : decode cX13_init 710 = .ok (.newarray .int, 2) := by decide +kernel
theorem dX13_init_712 : decode cX13_init 712 = .ok (.putfield 221, 3) := by decide +kernel
theorem dX13_init_715 : decode cX13_init 715 = .ok (.aload_n 0, 1) := by decide +kernel
theorem dX13_init_716 : decode cX13_init 716 = .ok (.sipush 30600, 3) := by decide +kernel
theorem dX13_init_719 : decode cX13_init 719 = .ok (.newarray .int, 2) := by decide +kernel
theorem dX13_init_721 : decode cX13_init 721 = .ok (.putfield 224, 3) := by decide +kernel
theorem dX13_init_724 : decode cX13_init 724 = .ok (.aload_n 0, 1) := by decide +kernel
theorem dX13_init_725 : decode cX13_init 725 = .ok (.iconst 5, 1) := by decide +kernel
theorem dX13_init_726 : decode cX13_init 726 = .ok (.newarray .int, 2) := by decide +kernel
theorem dX13_init_728 : decode cX13_init 728 = .ok (.putfield 535, 3) := by decide +kernel
theorem dX13_init_731 : decode cX13_init 731 = .ok (.aload_n 0, 1) := by decide +kernel
theorem dX13_init_732 : decode cX13_init 732 = .ok (.bipush (-2), 2) := by decide +kernel
theorem dX13_init_734 : decode cX13_init 734 = .ok (.putfield 528, 3) := by decide +kernel
theorem dX13_init_737 : decode cX13_init 737 = .ok (.aload_n 0, 1) := by decide +kernel
theorem dX13_init_738 : decode cX13_init 738 = .ok (.sipush 216, 3) := by decide +kernel
theorem dX13_init_741 : decode cX13_init 741 = .ok (.newarray .int, 2) := by decide +kernel
theorem dX13_init_743 : decode cX13_init 743 = .ok (.putfield 567, 3) := by decide +kernel
theorem dX13_init_746 : decode cX13_init 746 = .ok (.aload_n 0, 1) := by decide +kernel
theorem dX13_init_747 : decode cX13_init 747 = .ok (.sipush 216, 3) := by decide +kernel
theorem dX13_init_750 : decode cX13_init 750 = .ok (.newarray .int, 2) := by decide +kernel
theorem dX13_init_752 : decode cX13_init 752 = .ok (.putfield 570, 3) := by decide +kernel
theorem dX13_init_755 : decode cX13_init 755 = .ok (.aload_n 0, 1) := by decide +kernel
theorem dX13_init_756 : decode cX13_init 756 = .ok (.sipush 4000, 3) := by decide +kernel
theorem dX13_init_759 : decode cX13_init 759 = .ok (.newarray .int, 2) := by decide +kernel
theorem dX13_init_761 : decode cX13_init 761 = .ok (.putfield 576, 3) := by decide +kernel
theorem dX13_init_764 : decode cX13_init 764 = .ok (.aload_n 0, 1) := by decide +kernel
theorem dX13_init_765 : decode cX13_init 765 = .ok (.sipush 216, 3) := by decide +kernel
theorem dX13_init_768 : decode cX13_init 768 = .ok (.newarray .int, 2) := by decide +kernel
theorem dX13_init_770 : decode cX13_init 770 = .ok (.putfield 611, 3) := by decide +kernel
theorem dX13_init_773 : decode cX13_init 773 = .ok (.aload_n 0, 1) := by decide +kernel
theorem dX13_init_774 : decode cX13_init 774 = .ok (.sipush 216, 3) := by decide +kernel
theorem dX13_init_777 : decode cX13_init 777 = .ok (.newarray .int, 2) := by decide +kernel
theorem dX13_init_779 : decode cX13_init 779 = .ok (.putfield 637, 3) := by decide +kernel
theorem dX13_init_782 : decode cX13_init 782 = .ok (.aload_n 0, 1) := by decide +kernel
theorem dX13_init_783 : decode cX13_init 783 = .ok (.sipush 216, 3) := by decide +kernel
theorem dX13_init_786 : decode cX13_init 786 = .ok (.newarray .int, 2) := by decide +kernel
theorem dX13_init_788 : decode cX13_init 788 = .ok (.putfield 630, 3) := by decide +kernel
theorem dX13_init_791 : decode cX13_init 791 = .ok (.aload_n 0, 1) := by decide +kernel
theorem dX13_init_792 : decode cX13_init 792 = .ok (.sipush 432, 3) := by decide +kernel
theorem dX13_init_795 : decode cX13_init 795 = .ok (.newarray .int, 2) := by decide +kernel
theorem dX13_init_797 : decode cX13_init 797 = .ok (.putfield 668, 3) := by decide +kernel
theorem dX13_init_800 : decode cX13_init 800 = .ok (.aload_n 0, 1) := by decide +kernel
theorem dX13_init_801 : decode cX13_init 801 = .ok (.sipush 216, 3) := by decide +kernel
theorem dX13_init_804 : decode cX13_init 804 = .ok (.newarray .int, 2) := by decide +kernel
theorem dX13_init_806 : decode cX13_init 806 = .ok (.putfield 674, 3) := by decide +kernel
theorem dX13_init_809 : decode cX13_init 809 = .ok (.aload_n 0, 1) := by decide +kernel
theorem dX13_init_810 : decode cX13_init 810 = .ok (.sipush 216, 3) := by decide +kernel
theorem dX13_init_813 : decode cX13_init 813 = .ok (.newarray .int, 2) := by decide +kernel
theorem dX13_init_815 : decode cX13_init 815 = .ok (.putfield 705, 3) := by decide +kernel
theorem dX13_init_818 : decode cX13_init 818 = .ok (.aload_n 0, 1) := by decide +kernel
theorem dX13_init_819 : decode cX13_init 819 = .ok (.sipush 1704, 3) := by decide +kernel
theorem dX13_init_822 : decode cX13_init 822 = .ok (.newarray .int, 2) := by decide +kernel
theorem dX13_init_824 : decode cX13_init 824 = .ok (.putfield 726, 3) := by decide +kernel
theorem dX13_init_827 : decode cX13_init 827 = .ok (.aload_n 0, 1) := by decide +kernel
theorem dX13_init_828 : decode cX13_init 828 = .ok (.sipush 720, 3) := by decide +kernel
theorem dX13_init_831 : decode cX13_init 831 = .ok (.newarray .long, 2) := by decide +kernel
theorem dX13_init_833 : decode cX13_init 833 = .ok (.putfield 780, 3) := by decide +kernel
theorem dX13_init_836 : decode cX13_init 836 = .ok (.aload_n 0, 1) := by decide +kernel
theorem dX13_init_837 : decode cX13_init 837 = .ok (.sipush 720, 3) := by decide +kernel
theorem dX13_init_840 : decode cX13_init 840 = .ok (.newarray .long, 2) := by decide +kernel
theorem dX13_init_842 : decode cX13_init 842 = .ok (.putfield 783, 3) := by decide +kernel
theorem dX13_init_845 : decode cX13_init 845 = .ok (.aload_n 0, 1) := by decide +kernel
theorem dX13_init_846 : decode cX13_init 846 = .ok (.sipush 432, 3) := by decide +kernel
theorem dX13_init_849 : decode cX13_init 849 = .ok (.newarray .int, 2) := by decide +kernel
theorem dX13_init_851 : decode cX13_init 851 = .ok (.putfield 841, 3) := by decide +kernel
theorem dX13_init_854 : decode cX13_init 854 = .ok (.aload_n 0, 1) := by decide +kernel
theorem dX13_init_855 : decode cX13_init 855 = .ok (.sipush 216, 3) := by decide +kernel
theorem dX13_init_858 : decode cX13_init 858 = .ok (.newarray .int, 2) := by decide +kernel
theorem dX13_init_860 : decode cX13_init 860 = .ok (.putfield 844, 3) := by decide +kernel
theorem dX13_init_863 : decode cX13_init 863 = .ok (.aload_n 0, 1) := by decide +kernel
theorem dX13_init_864 : decode cX13_init 864 = .ok (.bipush 17, 2) := by decide +kernel
theorem dX13_init_866 : decode cX13_init 866 = .ok (.newarray .int, 2) := by decide +kernel
theorem dX13_init_868 : decode cX13_init 868 = .ok (.putfield 863, 3) := by decide +kernel
theorem dX13_init_871 : decode cX13_init 871 = .ok (.aload_n 0, 1) := by decide +kernel
theorem dX13_init_872 : decode cX13_init 872 = .ok (.sipush 30600, 3) := by decide +kernel
theorem dX13_init_875 : decode cX13_init 875 = .ok (.newarray .int, 2) := by decide +kernel
theorem dX13_init_877 : decode cX13_init 877 = .ok (.putfield 866, 3) := by decide +kernel
theorem dX13_init_880 : decode cX13_init 880 = .ok (.aload_n 0, 1) := by decide +kernel
theorem dX13_init_881 : decode cX13_init 881 = .ok (.sipush 30600, 3) := by decide +kernel
theorem dX13_init_884 : decode cX13_init 884 = .ok (.newarray .int, 2) := by decide +kernel
theorem dX13_init_886 : decode cX13_init 886 = .ok (.putfield 869, 3) := by decide +kernel
theorem dX13_init_889 : decode cX13_init 889 = .ok (.aload_n 0, 1) := by decide +kernel
theorem dX13_init_890 : decode cX13_init 890 = .ok (.sipush 30600, 3) := by decide +kernel
theorem dX13_init_893 : decode cX13_init 893 = .ok (.newarray .long, 2) := by decide +kernel
theorem dX13_init_895 : decode cX13_init 895 = .ok (.putfield 872, 3) := by decide +kernel
theorem dX13_init_898 : decode cX13_init 898 = .ok (.aload_n 0, 1) := by decide +kernel
theorem dX13_init_899 : decode cX13_init 899 = .ok (.sipush 30600, 3) := by decide +kernel
theorem dX13_init_902 : decode cX13_init 902 = .ok (.newarray .long, 2) := by decide +kernel
theorem dX13_init_904 : decode cX13_init 904 = .ok (.putfield 875, 3) := by decide +kernel
theorem dX13_init_907 : decode cX13_init 907 = .ok (.aload_n 0, 1) := by decide +kernel
theorem dX13_init_908 : decode cX13_init 908 = .ok (.sipush 30600, 3) := by decide +kernel
theorem dX13_init_911 : decode cX13_init 911 = .ok (.newarray .long, 2) := by decide +kernel
theorem dX13_init_913 : decode cX13_init 913 = .ok (.putfield 878, 3) := by decide +kernel
theorem dX13_init_916 : decode cX13_init 916 = .ok (.aload_n 0, 1) := by decide +kernel
theorem dX13_init_917 : decode cX13_init 917 = .ok (.sipush 30600, 3) := by decide +kernel
theorem dX13_init_920 : decode cX13_init 920 = .ok (.newarray .int, 2) := by decide +kernel
theorem dX13_init_922 : decode cX13_init 922 = .ok (.putfield 881, 3) := by decide +kernel
theorem dX13_init_925 : decode cX13_init 925 = .ok (.aload_n 0, 1) := by decide +kernel
theorem dX13_init_926 : decode cX13_init 926 = .ok (.ldc_w 1486, 3) := by decide +kernel
theorem dX13_init_929 : decode cX13_init 929 = .ok (.newarray .long, 2) := by decide +kernel
theorem dX13_init_931 : decode cX13_init 931 = .ok (.putfield 890, 3) := by decide +kernel
theorem dX13_init_934 : decode cX13_init 934 = .ok (.aload_n 0, 1) := by decide +kernel
theorem dX13_init_935 : decode cX13_init 935 = .ok (.sipush 30600, 3) := by decide +kernel
theorem dX13_init_938 : decode cX13_init 938 = .ok (.newarray .long, 2) := by decide +kernel
theorem dX13_init_940 : decode cX13_init 940 = .ok (.putfield 884, 3) := by decide +kernel
theorem dX13_init_943 : decode cX13_init 943 = .ok (.aload_n 0, 1) := by decide +kernel
theorem dX13_init_944 : decode cX13_init 944 = .ok (.sipush 30600, 3) := by decide +kernel
theorem dX13_init_947 : decode cX13_init 947 = .ok (.newarray .int, 2) := by decide +kernel
theorem dX13_init_949 : decode cX13_init 949 = .ok (.putfield 887, 3) := by decide +kernel
theorem dX13_init_952 : decode cX13_init 952 = .ok (.aload_n 0, 1) := by decide +kernel
theorem dX13_init_953 : decode cX13_init 953 = .ok (.bipush (-2), 2) := by decide +kernel
theorem dX13_init_955 : decode cX13_init 955 = .ok (.putfield 962, 3) := by decide +kernel
theorem dX13_init_958 : decode cX13_init 958 = .ok (.aload_n 0, 1) := by decide +kernel
theorem dX13_init_959 : decode cX13_init 959 = .ok (.bipush 64, 2) := by decide +kernel
theorem dX13_init_961 : decode cX13_init 961 = .ok (.newarray .int, 2) := by decide +kernel
theorem dX13_init_963 : decode cX13_init 963 = .ok (.putfield 1077, 3) := by decide +kernel
theorem dX13_init_966 : decode cX13_init 966 = .ok (.aload_n 0, 1) := by decide +kernel
theorem dX13_init_967 : decode cX13_init 967 = .ok (.sipush 216, 3) := by decide +kernel
theorem dX13_init_970 : decode cX13_init 970 = .ok (.newarray .int, 2) := by decide +kernel
theorem dX13_init_972 : decode cX13_init 972 = .ok (.putfield 1068, 3) := by decide +kernel
theorem dX13_init_975 : decode cX13_init 975 = .ok (.aload_n 0, 1) := by decide +kernel
theorem dX13_init_976 : decode cX13_init 976 = .ok (.sipush 128, 3) := by decide +kernel
theorem dX13_init_979 : decode cX13_init 979 = .ok (.newarray .int, 2) := by decide +kernel
theorem dX13_init_981 : decode cX13_init 981 = .ok (.putfield 1089, 3) := by decide +kernel
theorem dX13_init_984 : decode cX13_init 984 = .ok (.aload_n 0, 1) := by decide +kernel
theorem dX13_init_985 : decode cX13_init 985 = .ok (.sipush 128, 3) := by decide +kernel
theorem dX13_init_988 : decode cX13_init 988 = .ok (.newarray .int, 2) := by decide +kernel
theorem dX13_init_990 : decode cX13_init 990 = .ok (.putfield 1092, 3) := by decide +kernel
theorem dX13_init_993 : decode cX13_init 993 = .ok (.aload_n 0, 1) := by decide +kernel
theorem dX13_init_994 : decode cX13_init 994 = .ok (.sipush 600, 3) := by decide +kernel
theorem dX13_init_997 : decode cX13_init 997 = .ok (.newarray .int, 2) := by decide +kernel
theorem dX13_init_999 : decode cX13_init 999 = .ok (.putfield 1083, 3) := by decide +kernel
theorem dX13_init_1002 : decode cX13_init 1002 = .ok (.aload_n 0, 1) := by decide +kernel
theorem dX13_init_1003 : decode cX13_init 1003 = .ok (.sipush 216, 3) := by decide +kernel
theorem dX13_init_1006 : decode cX13_init 1006 = .ok (.newarray .int, 2) := by decide +kernel
theorem dX13_init_1008 : decode cX13_init 1008 = .ok (.putfield 1177, 3) := by decide +kernel
theorem dX13_init_1011 : decode cX13_init 1011 = .ok (.aload_n 0, 1) := by decide +kernel
theorem dX13_init_1012 : decode cX13_init 1012 = .ok (.sipush 216, 3) := by decide +kernel
theorem dX13_init_1015 : decode cX13_init 1015 = .ok (.newarray .int, 2) := by decide +kernel
theorem dX13_init_1017 : decode cX13_init 1017 = .ok (.putfield 1118, 3) := by decide +kernel
theorem dX13_init_1020 : decode cX13_init 1020 = .ok (.aload_n 0, 1) := by decide +kernel
theorem dX13_init_1021 : decode cX13_init 1021 = .ok (.sipush 216, 3) := by decide +kernel
theorem dX13_init_1024 : decode cX13_init 1024 = .ok (.newarray .int, 2) := by decide +kernel
theorem dX13_init_1026 : decode cX13_init 1026 = .ok (.putfield 1148, 3) := by decide +kernel
theorem dX13_init_1029 : decode cX13_init 1029 = .ok (.aload_n 0, 1) := by decide +kernel
theorem dX13_init_1030 : decode cX13_init 1030 = .ok (.sipush 27000, 3) := by decide +kernel
theorem dX13_init_1033 : decode cX13_init 1033 = .ok (.newarray .int, 2) := by decide +kernel
theorem dX13_init_1035 : decode cX13_init 1035 = .ok (.putfield 1183, 3) := by decide +kernel
theorem dX13_init_1038 : decode cX13_init 1038 = .ok (.aload_n 0, 1) := by decide +kernel
theorem dX13_init_1039 : decode cX13_init 1039 = .ok (.iconst 5, 1) := by decide +kernel
theorem dX13_init_1040 : decode cX13_init 1040 = .ok (.newarray .int, 2) := by decide +kernel
theorem dX13_init_1042 : decode cX13_init 1042 = .ok (.putfield 1189, 3) := by decide +kernel
theorem dX13_init_1045 : decode cX13_init 1045 = .ok (.aload_n 0, 1) := by decide +kernel
theorem dX13_init_1046 : decode cX13_init 1046 = .ok (.iconst 5, 1) := by decide +kernel
theorem dX13_init_1047 : decode cX13_init 1047 = .ok (.newarray .int, 2) := by decide +kernel
theorem dX13_init_1049 : decode cX13_init 1049 = .ok (.putfield 1186, 3) := by decide +kernel
theorem dX13_init_1052 : decode cX13_init 1052 = .ok (.aload_n 0, 1) := by decide +kernel
theorem dX13_init_1053 : decode cX13_init 1053 = .ok (.sipush 7344, 3) := by decide +kernel
theorem dX13_init_1056 : decode cX13_init 1056 = .ok (.newarray .int, 2) := by decide +kernel
theorem dX13_init_1058 : decode cX13_init 1058 = .ok (.putfield 1204, 3) := by decide +kernel
theorem dX13_init_1061 : decode cX13_init 1061 = .ok (.aload_n 0, 1) := by decide +kernel
theorem dX13_init_1062 : decode cX13_init 1062 = .ok (.sipush 202, 3) := by decide +kernel
theorem dX13_init_1065 : decode cX13_init 1065 = .ok (.newarray .int, 2) := by decide +kernel
theorem dX13_init_1067 : decode cX13_init 1067 = .ok (.putfield 1216, 3) := by decide +kernel
theorem dX13_init_1070 : decode cX13_init 1070 = .ok (.aload_n 0, 1) := by decide +kernel
theorem dX13_init_1071 : decode cX13_init 1071 = .ok (.sipush 202, 3) := by decide +kernel
theorem dX13_init_1074 : decode cX13_init 1074 = .ok (.newarray .int, 2) := by decide +kernel
theorem dX13_init_1076 : decode cX13_init 1076 = .ok (.putfield 1262, 3) := by decide +kernel
theorem dX13_init_1079 : decode cX13_init 1079 = .ok (.aload_n 0, 1) := by decide +kernel
theorem dX13_init_1080 : decode cX13_init 1080 = .ok (.sipush 2001, 3) := by decide +kernel
theorem dX13_init_1083 : decode cX13_init 1083 = .ok (.newarray .int, 2) := by decide +kernel
theorem dX13_init_1085 : decode cX13_init 1085 = .ok (.putfield 1265, 3) := by decide +kernel
theorem dX13_init_1088 : decode cX13_init 1088 = .ok (.aload_n 0, 1) := by decide +kernel
theorem dX13_init_1089 : decode cX13_init 1089 = .ok (.sipush 6240, 3) := by decide +kernel
theorem dX13_init_1092 : decode cX13_init 1092 = .ok (.newarray .int, 2) := by decide +kernel
theorem dX13_init_1094 : decode cX13_init 1094 = .ok (.putfield 1282, 3) := by decide +kernel
theorem dX13_init_1097 : decode cX13_init 1097 = .ok (.aload_n 0, 1) := by decide +kernel
theorem dX13_init_1098 : decode cX13_init 1098 = .ok (.sipush 17280, 3) := by decide +kernel
theorem dX13_init_1101 : decode cX13_init 1101 = .ok (.newarray .int, 2) := by decide +kernel
theorem dX13_init_1103 : decode cX13_init 1103 = .ok (.putfield 1297, 3) := by decide +kernel
theorem dX13_init_1106 : decode cX13_init 1106 = .ok (.aload_n 0, 1) := by decide +kernel
theorem dX13_init_1107 : decode cX13_init 1107 = .ok (.sipush 17280, 3) := by decide +kernel
theorem dX13_init_1110 : decode cX13_init 1110 = .ok (.newarray .int, 2) := by decide +kernel
theorem dX13_init_1112 : decode cX13_init 1112 = .ok (.putfield 1303, 3) := by decide +kernel
theorem dX13_init_1115 : decode cX13_init 1115 = .ok (.aload_n 0, 1) := by decide +kernel
theorem dX13_init_1116 : decode cX13_init 1116 = .ok (.sipush 17280, 3) := by decide +kernel
theorem dX13_init_1119 : decode cX13_init 1119 = .ok (.newarray .int, 2) := by decide +kernel
theorem dX13_init_1121 : decode cX13_init 1121 = .ok (.putfield 1328, 3) := by decide +kernel
theorem dX13_init_1124 : decode cX13_init 1124 = .ok (.aload_n 0, 1) := by decide +kernel
theorem dX13_init_1125 : decode cX13_init 1125 = .ok (.sipush 17280, 3) := by decide +kernel
theorem dX13_init_1128 : decode cX13_init 1128 = .ok (.newarray .int, 2) := by decide +kernel
theorem dX13_init_1130 : decode cX13_init 1130 = .ok (.putfield 1306, 3) := by decide +kernel
theorem dX13_init_1133 : decode cX13_init 1133 = .ok (.aload_n 0, 1) := by decide +kernel
theorem dX13_init_1134 : decode cX13_init 1134 = .ok (.sipush 17280, 3) := by decide +kernel
theorem dX13_init_1137 : decode cX13_init 1137 = .ok (.newarray .int, 2) := by decide +kernel
theorem dX13_init_1139 : decode cX13_init 1139 = .ok (.putfield 1349, 3) := by decide +kernel
theorem dX13_init_1142 : decode cX13_init 1142 = .ok (.aload_n 0, 1) := by decide +kernel
theorem dX13_init_1143 : decode cX13_init 1143 = .ok (.bipush 100, 2) := by decide +kernel
theorem dX13_init_1145 : decode cX13_init 1145 = .ok (.newarray .int, 2) := by decide +kernel
theorem dX13_init_1147 : decode cX13_init 1147 = .ok (.putfield 1361, 3) := by decide +kernel
theorem dX13_init_1150 : decode cX13_init 1150 = .ok (.aload_n 0, 1) := by decide +kernel
theorem dX13_init_1151 : decode cX13_init 1151 = .ok (.sipush 216, 3) := by decide +kernel
theorem dX13_init_1154 : decode cX13_init 1154 = .ok (.newarray .int, 2) := by decide +kernel
theorem dX13_init_1156 : decode cX13_init 1156 = .ok (.putfield 1245, 3) := by decide +kernel
theorem dX13_init_1159 : decode cX13_init 1159 = .ok (.aload_n 0, 1) := by decide +kernel
theorem dX13_init_1160 : decode cX13_init 1160 = .ok (.sipush 8000, 3) := by decide +kernel
theorem dX13_init_1163 : decode cX13_init 1163 = .ok (.newarray .int, 2) := by decide +kernel
theorem dX13_init_1165 : decode cX13_init 1165 = .ok (.putfield 1239, 3) := by decide +kernel
theorem dX13_init_1168 : decode cX13_init 1168 = .ok (.aload_n 0, 1) := by decide +kernel
theorem dX13_init_1169 : decode cX13_init 1169 = .ok (.sipush 30000, 3) := by decide +kernel
theorem dX13_init_1172 : decode cX13_init 1172 = .ok (.newarray .int, 2) := by decide +kernel
theorem dX13_init_1174 : decode cX13_init 1174 = .ok (.putfield 1379, 3) := by decide +kernel
theorem dX13_init_1177 : decode cX13_init 1177 = .ok (.aload_n 0, 1) := by decide +kernel
theorem dX13_init_1178 : decode cX13_init 1178 = .ok (.sipush 702, 3) := by decide +kernel
theorem dX13_init_1181 : decode cX13_init 1181 = .ok (.newarray .int, 2) := by decide +kernel
theorem dX13_init_1183 : decode cX13_init 1183 = .ok (.putfield 1429, 3) := by decide +kernel
theorem dX13_init_1186 : decode cX13_init 1186 = .ok (.aload_n 0, 1) := by decide +kernel
theorem dX13_init_1187 : decode cX13_init 1187 = .ok (.sipush 702, 3) := by decide +kernel
theorem dX13_init_1190 : decode cX13_init 1190 = .ok (.newarray .int, 2) := by decide +kernel
theorem dX13_init_1192 : decode cX13_init 1192 = .ok (.putfield 1435, 3) := by decide +kernel
theorem dX13_init_1195 : decode cX13_init 1195 = .ok (.aload_n 0, 1) := by decide +kernel
theorem dX13_init_1196 : decode cX13_init 1196 = .ok (.sipush 30000, 3) := by decide +kernel
theorem dX13_init_1199 : decode cX13_init 1199 = .ok (.newarray .int, 2) := by decide +kernel
theorem dX13_init_1201 : decode cX13_init 1201 = .ok (.putfield 1441, 3) := by decide +kernel
theorem dX13_init_1204 : decode cX13_init 1204 = .ok (.aload_n 0, 1) := by decide +kernel
theorem dX13_init_1205 : decode cX13_init 1205 = .ok (.sipush 1800, 3) := by decide +kernel
theorem dX13_init_1208 : decode cX13_init 1208 = .ok (.newarray .int, 2) := by decide +kernel
theorem dX13_init_1210 : decode cX13_init 1210 = .ok (.putfield 1474, 3) := by decide +kernel
theorem dX13_init_1213 : decode cX13_init 1213 = .ok (.aload_n 0, 1) := by decide +kernel
theorem dX13_init_1214 : decode cX13_init 1214 = .ok (.invokevirtual 1487, 3) := by decide +kernel
theorem dX13_init_1217 : decode cX13_init 1217 = .ok (.iconst 0, 1) := by decide +kernel
theorem dX13_init_1218 : decode cX13_init 1218 = .ok (.istore_n 1, 1) := by decide +kernel
theorem dX13_init_1219 : decode cX13_init 1219 = .ok (.iload_n 1, 1) := by decide +kernel
theorem dX13_init_1220 : decode cX13_init 1220 = .ok (.iconst 5, 1) := by decide +kernel
theorem dX13_init_1221 : decode cX13_init 1221 = .ok (.if_icmp .ge 17, 3) := by decide +kernel
theorem dX13_init_1224 : decode cX13_init 1224 = .ok (.aload_n 0, 1) := by decide +kernel
theorem dX13_init_1225 : decode cX13_init 1225 = .ok (.getfield 535, 3) := by decide +kernel
theorem dX13_init_1228 : decode cX13_init 1228 = .ok (.iload_n 1, 1) := by decide +kernel
theorem dX13_init_1229 : decode cX13_init 1229 = .ok (.bipush (-2), 2) := by decide +kernel
theorem dX13_init_1231 : decode cX13_init 1231 = .ok (.iastore, 1) := by decide +kernel
theorem dX13_init_1232 : decode cX13_init 1232 = .ok (.iinc 1 1, 3) := by decide +kernel
theorem dX13_init_1235 : decode cX13_init 1235 = .ok (.goto (-16), 3) := by decide +kernel
theorem dX13_init_1238 : decode cX13_init 1238 = .ok (.aload_n 0, 1) := by decide +kernel
theorem dX13_init_1239 : decode cX13_init 1239 = .ok (.invokevirtual 1490, 3) := by decide +kernel
theorem dX13_init_1242 : decode cX13_init 1242 = .ok (.aload_n 0, 1) := by decide +kernel
theorem dX13_init_1243 : decode cX13_init 1243 = .ok (.invokevirtual 998, 3) := by decide +kernel
theorem dX13_init_1246 : decode cX13_init 1246 = .ok (.aload_n 0, 1) := by decide +kernel
theorem dX13_init_1247 : decode cX13_init 1247 = .ok (.bipush (-2), 2) := by decide +kernel
theorem dX13_init_1249 : decode cX13_init 1249 = .ok (.putfield 1171, 3) := by decide +kernel
theorem dX13_init_1252 : decode cX13_init 1252 = .ok (.return_, 1) := by decide +kernel
theorem dJ9_max_7cf53_0 : decode cJ9_max_7cf53 0 = .ok (.iload_n 0, 1) := by decide +kernel
theorem dJ9_max_7cf53_1 : decode cJ9_max_7cf53 1 = .ok (.iload_n 1, 1) := by decide +kernel
theorem dJ9_max_7cf53_2 : decode cJ9_max_7cf53 2 = .ok (.if_icmp .lt 7, 3) := by decide +kernel
theorem dJ9_max_7cf53_9 : decode cJ9_max_7cf53 9 = .ok (.iload_n 1, 1) := by decide +kernel
theorem dJ9_max_7cf53_10 : decode cJ9_max_7cf53 10 = .ok (.ireturn, 1) := by decide +kernel
theorem dJ9_min_7cf53_0 : decode cJ9_min_7cf53 0 = .ok (.iload_n 0, 1) := by decide +kernel
theorem dJ9_min_7cf53_1 : decode cJ9_min_7cf53 1 = .ok (.iload_n 1, 1) := by decide +kernel
theorem dJ9_min_7cf53_2 : decode cJ9_min_7cf53 2 = .ok (.if_icmp .gt 7, 3) := by decide +kernel
theorem dJ9_min_7cf53_5 : decode cJ9_min_7cf53 5 = .ok (.iload_n 0, 1) := by decide +kernel
theorem dJ9_min_7cf53_6 : decode cJ9_min_7cf53 6 = .ok (.goto 4, 3) := by decide +kernel
theorem dJ9_min_7cf53_10 : decode cJ9_min_7cf53 10 = .ok (.ireturn, 1) := by decide +kernel
theorem dJ0_length_8abf5_0 : decode cJ0_length_8abf5 0 = .ok (.aload_n 0, 1) := by decide +kernel
theorem dJ0_length_8abf5_1 : decode cJ0_length_8abf5 1 = .ok (.getfield 9, 3) := by decide +kernel
theorem dJ0_length_8abf5_4 : decode cJ0_length_8abf5 4 = .ok (.arraylength, 1) := by decide +kernel
theorem dJ0_length_8abf5_5 : decode cJ0_length_8abf5 5 = .ok (.aload_n 0, 1) := by decide +kernel
theorem dJ0_length_8abf5_6 : decode cJ0_length_8abf5 6 = .ok (.invokevirtual 335, 3) := by decide +kernel
theorem dJ0_length_8abf5_9 : decode cJ0_length_8abf5 9 = .ok (.ishr, 1) := by decide +kernel
theorem dJ0_length_8abf5_10 : decode cJ0_length_8abf5 10 = .ok (.ireturn, 1) := by decide +kernel
theorem dJ0_charAt_5068e_0 : decode cJ0_charAt_5068e 0 = .ok (.aload_n 0, 1) := by decide +kernel
theorem dJ0_charAt_5068e_1 : decode cJ0_charAt_5068e 1 = .ok (.invokevirtual 492, 3) := by decide +kernel
theorem dJ0_charAt_5068e_4 : decode cJ0_charAt_5068e 4 = .ok (.ifCond .eq 12, 3) := by decide +kernel
theorem dJ0_charAt_5068e_7 : decode cJ0_charAt_5068e 7 = .ok (.aload_n 0, 1) := by decide +kernel
theorem dJ0_charAt_5068e_8 : decode cJ0_charAt_5068e 8 = .ok (.getfield 9, 3) := by decide +kernel
theorem dJ0_charAt_5068e_11 : decode cJ0_charAt_5068e 11 = .ok (.iload_n 1, 1) := by decide +kernel
theorem dJ0_charAt_5068e_12 : decode cJ0_charAt_5068e 12 = .ok (.invokestatic 495, 3) := by decide +kernel
theorem dJ0_charAt_5068e_15 : decode cJ0_charAt_5068e 15 = .ok (.ireturn, 1) := by decide +kernel
theorem dJ0_coder_7d493_0 : decode cJ0_coder_7d493 0 = .ok (.getstatic 38, 3) := by decide +kernel
theorem dJ0_coder_7d493_3 : decode cJ0_coder_7d493 3 = .ok (.ifCond .eq 10, 3) := by decide +kernel
theorem dJ0_coder_7d493_6 : decode cJ0_coder_7d493 6 = .ok (.aload_n 0, 1) := by decide +kernel
theorem dJ0_coder_7d493_7 : decode cJ0_coder_7d493 7 = .ok (.getfield 15, 3) := by decide +kernel
theorem dJ0_coder_7d493_10 : decode cJ0_coder_7d493 10 = .ok (.goto 4, 3) := by decide +kernel
theorem dJ0_coder_7d493_14 : decode cJ0_coder_7d493 14 = .ok (.ireturn, 1) := by decide +kernel
theorem dJ0_isLatin1_aae02_0 : decode cJ0_isLatin1_aae02 0 = .ok (.getstatic 38, 3) := by decide +kernel
theorem dJ0_isLatin1_aae02_3 : decode cJ0_isLatin1_aae02 3 = .ok (.ifCond .eq 14, 3) := by decide +kernel
theorem dJ0_isLatin1_aae02_6 : decode cJ0_isLatin1_aae02 6 = .ok (.aload_n 0, 1) := by decide +kernel
theorem dJ0_isLatin1_aae02_7 : decode cJ0_isLatin1_aae02 7 = .ok (.getfield 15, 3) := by decide +kernel
theorem dJ0_isLatin1_aae02_10 : decode cJ0_isLatin1_aae02 10 = .ok (.ifCond .ne 7, 3) := by decide +kernel
theorem dJ0_isLatin1_aae02_13 : decode cJ0_isLatin1_aae02 13 = .ok (.iconst 1, 1) := by decide +kernel
theorem dJ0_isLatin1_aae02_14 : decode cJ0_isLatin1_aae02 14 = .ok (.goto 4, 3) := by decide +kernel
theorem dJ0_isLatin1_aae02_18 : decode cJ0_isLatin1_aae02 18 = .ok (.ireturn, 1) := by decide +kernel
theorem dJ0_checkIndex_df160_0 : decode cJ0_checkIndex_df160 0 = .ok (.iload_n 0, 1) := by decide +kernel
theorem dJ0_checkIndex_df160_1 : decode cJ0_checkIndex_df160 1 = .ok (.iload_n 1, 1) := by decide +kernel
theorem dJ0_checkIndex_df160_2 : decode cJ0_checkIndex_df160 2 = .ok (.getstatic 1053, 3) := by decide +kernel
theorem dJ0_checkIndex_df160_5 : decode cJ0_checkIndex_df160 5 = .ok (.invokestatic 1059, 3) := by decide +kernel
theorem dJ0_checkIndex_df160_8 : decode cJ0_checkIndex_df160 8 = .ok (.pop, 1) := by decide +kernel
theorem dJ0_checkIndex_df160_9 : decode cJ0_checkIndex_df160 9 = .ok (.return_, 1) := by decide +kernel
theorem dJ1_charAt_3b067_0 : decode cJ1_charAt_3b067 0 = .ok (.iload_n 1, 1) := by decide +kernel
theorem dJ1_charAt_3b067_1 : decode cJ1_charAt_3b067 1 = .ok (.aload_n 0, 1) := by decide +kernel
theorem dJ1_charAt_3b067_2 : decode cJ1_charAt_3b067 2 = .ok (.arraylength, 1) := by decide +kernel
theorem dJ1_charAt_3b067_3 : decode cJ1_charAt_3b067 3 = .ok (.invokestatic 9, 3) := by decide +kernel
theorem dJ1_charAt_3b067_6 : decode cJ1_charAt_3b067 6 = .ok (.aload_n 0, 1) := by decide +kernel
theorem dJ1_charAt_3b067_7 : decode cJ1_charAt_3b067 7 = .ok (.iload_n 1, 1) := by decide +kernel
theorem dJ1_charAt_3b067_8 : decode cJ1_charAt_3b067 8 = .ok (.baload, 1) := by decide +kernel
theorem dJ1_charAt_3b067_9 : decode cJ1_charAt_3b067 9 = .ok (.sipush 255, 3) := by decide +kernel
theorem dJ1_charAt_3b067_12 : decode cJ1_charAt_3b067 12 = .ok (.iand, 1) := by decide +kernel
theorem dJ1_charAt_3b067_13 : decode cJ1_charAt_3b067 13 = .ok (.i2c, 1) := by decide +kernel
theorem dJ1_charAt_3b067_14 : decode cJ1_charAt_3b067 14 = .ok (.ireturn, 1) := by decide +kernel
theorem dJ7_fill_d0a16_0 : decode cJ7_fill_d0a16 0 = .ok (.iconst 0, 1) := by decide +kernel
theorem dJ7_fill_d0a16_1 : decode cJ7_fill_d0a16 1 = .ok (.istore_n 3, 1) := by decide +kernel
theorem dJ7_fill_d0a16_2 : decode cJ7_fill_d0a16 2 = .ok (.aload_n 0, 1) := by decide +kernel
theorem dJ7_fill_d0a16_3 : decode cJ7_fill_d0a16 3 = .ok (.arraylength, 1) := by decide +kernel
theorem dJ7_fill_d0a16_4 : decode cJ7_fill_d0a16 4 = .ok (.istore 4, 2) := by decide +kernel
theorem dJ7_fill_d0a16_6 : decode cJ7_fill_d0a16 6 = .ok (.iload_n 3, 1) := by decide +kernel
theorem dJ7_fill_d0a16_7 : decode cJ7_fill_d0a16 7 = .ok (.iload 4, 2) := by decide +kernel
theorem dJ7_fill_d0a16_9 : decode cJ7_fill_d0a16 9 = .ok (.if_icmp .ge 13, 3) := by decide +kernel
theorem dJ7_fill_d0a16_12 : decode cJ7_fill_d0a16 12 = .ok (.aload_n 0, 1) := by decide +kernel
theorem dJ7_fill_d0a16_13 : decode cJ7_fill_d0a16 13 = .ok (.iload_n 3, 1) := by decide +kernel
theorem dJ7_fill_d0a16_14 : decode cJ7_fill_d0a16 14 = .ok (.lload_n 1, 1) := by decide +kernel
theorem dJ7_fill_d0a16_15 : decode cJ7_fill_d0a16 15 = .ok (.lastore, 1) := by decide +kernel
theorem dJ7_fill_d0a16_16 : decode cJ7_fill_d0a16 16 = .ok (.iinc 3 1, 3) := by decide +kernel
theorem dJ7_fill_d0a16_19 : decode cJ7_fill_d0a16 19 = .ok (.goto (-13), 3) := by decide +kernel
theorem dJ7_fill_d0a16_22 : decode cJ7_fill_d0a16 22 = .ok (.return_, 1) := by decide +kernel
theorem dJ7_fill_53178_0 : decode cJ7_fill_53178 0 = .ok (.iconst 0, 1) := by decide +kernel
theorem dJ7_fill_53178_1 : decode cJ7_fill_53178 1 = .ok (.istore_n 2, 1) := by decide +kernel
theorem dJ7_fill_53178_2 : decode cJ7_fill_53178 2 = .ok (.aload_n 0, 1) := by decide +kernel
theorem dJ7_fill_53178_3 : decode cJ7_fill_53178 3 = .ok (.arraylength, 1) := by decide +kernel
theorem dJ7_fill_53178_4 : decode cJ7_fill_53178 4 = .ok (.istore_n 3, 1) := by decide +kernel
theorem dJ7_fill_53178_5 : decode cJ7_fill_53178 5 = .ok (.iload_n 2, 1) := by decide +kernel
theorem dJ7_fill_53178_6 : decode cJ7_fill_53178 6 = .ok (.iload_n 3, 1) := by decide +kernel
theorem dJ7_fill_53178_7 : decode cJ7_fill_53178 7 = .ok (.if_icmp .ge 13, 3) := by decide +kernel
theorem dJ7_fill_53178_10 : decode cJ7_fill_53178 10 = .ok (.aload_n 0, 1) := by decide +kernel
theorem dJ7_fill_53178_11 : decode cJ7_fill_53178 11 = .ok (.iload_n 2, 1) := by decide +kernel
theorem dJ7_fill_53178_12 : decode cJ7_fill_53178 12 = .ok (.iload_n 1, 1) := by decide +kernel
theorem dJ7_fill_53178_13 : decode cJ7_fill_53178 13 = .ok (.iastore, 1) := by decide +kernel
theorem dJ7_fill_53178_14 : decode cJ7_fill_53178 14 = .ok (.iinc 2 1, 3) := by decide +kernel
theorem dJ7_fill_53178_17 : decode cJ7_fill_53178 17 = .ok (.goto (-12), 3) := by decide +kernel
theorem dJ7_fill_53178_20 : decode cJ7_fill_53178 20 = .ok (.return_, 1) := by decide +kernel
theorem dJ3_checkIndex_8e157_0 : decode cJ3_checkIndex_8e157 0 = .ok (.iload_n 0, 1) := by decide +kernel
theorem dJ3_checkIndex_8e157_1 : decode cJ3_checkIndex_8e157 1 = .ok (.ifCond .lt 8, 3) := by decide +kernel
theorem dJ3_checkIndex_8e157_4 : decode cJ3_checkIndex_8e157 4 = .ok (.iload_n 0, 1) := by decide +kernel
theorem dJ3_checkIndex_8e157_5 : decode cJ3_checkIndex_8e157 5 = .ok (.iload_n 1, 1) := by decide +kernel
theorem dJ3_checkIndex_8e157_6 : decode cJ3_checkIndex_8e157 6 = .ok (.if_icmp .lt 10, 3) := by decide +kernel
theorem dJ3_checkIndex_8e157_16 : decode cJ3_checkIndex_8e157 16 = .ok (.iload_n 0, 1) := by decide +kernel
theorem dJ3_checkIndex_8e157_17 : decode cJ3_checkIndex_8e157 17 = .ok (.ireturn, 1) := by decide +kernel

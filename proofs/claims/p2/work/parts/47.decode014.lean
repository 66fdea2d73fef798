theorem dX12_list_16 : decode cX12_list 16 = .ok (.aload_n 0, 1) := by decide +kernel
theorem dX12_list_17 : decode cX12_list 17 = .ok (.getfield 86, 3) := by decide +kernel
theorem dX12_list_20 : decode cX12_list 20 = .ok (.iconst 3, 1) := by decide +kernel
theorem dX12_list_21 : decode cX12_list 21 = .ok (.aload_n 0, 1) := by decide +kernel
theorem dX12_list_22 : decode cX12_list 22 = .ok (.getfield 227, 3) := by decide +kernel
theorem dX12_list_25 : decode cX12_list 25 = .ok (.imul, 1) := by decide +kernel
theorem dX12_list_26 : decode cX12_list 26 = .ok (.iload_n 1, 1) := by decide +kernel
theorem dX12_list_27 : decode cX12_list 27 = .ok (.iastore, 1) := by decide +kernel
theorem dX12_list_28 : decode cX12_list 28 = .ok (.aload_n 0, 1) := by decide +kernel
theorem dX12_list_29 : decode cX12_list 29 = .ok (.getfield 86, 3) := by decide +kernel
theorem dX12_list_32 : decode cX12_list 32 = .ok (.iconst 3, 1) := by decide +kernel
theorem dX12_list_33 : decode cX12_list 33 = .ok (.aload_n 0, 1) := by decide +kernel
theorem dX12_list_34 : decode cX12_list 34 = .ok (.getfield 227, 3) := by decide +kernel
theorem dX12_list_37 : decode cX12_list 37 = .ok (.imul, 1) := by decide +kernel
theorem dX12_list_38 : decode cX12_list 38 = .ok (.iconst 1, 1) := by decide +kernel
theorem dX12_list_39 : decode cX12_list 39 = .ok (.iadd, 1) := by decide +kernel
theorem dX12_list_40 : decode cX12_list 40 = .ok (.iload_n 2, 1) := by decide +kernel
theorem dX12_list_41 : decode cX12_list 41 = .ok (.iastore, 1) := by decide +kernel
theorem dX12_list_42 : decode cX12_list 42 = .ok (.aload_n 0, 1) := by decide +kernel
theorem dX12_list_43 : decode cX12_list 43 = .ok (.getfield 86, 3) := by decide +kernel
theorem dX12_list_46 : decode cX12_list 46 = .ok (.iconst 3, 1) := by decide +kernel
theorem dX12_list_47 : decode cX12_list 47 = .ok (.aload_n 0, 1) := by decide +kernel
theorem dX12_list_48 : decode cX12_list 48 = .ok (.getfield 227, 3) := by decide +kernel
theorem dX12_list_51 : decode cX12_list 51 = .ok (.imul, 1) := by decide +kernel
theorem dX12_list_52 : decode cX12_list 52 = .ok (.iconst 2, 1) := by decide +kernel
theorem dX12_list_53 : decode cX12_list 53 = .ok (.iadd, 1) := by decide +kernel
theorem dX12_list_54 : decode cX12_list 54 = .ok (.iload_n 3, 1) := by decide +kernel
theorem dX12_list_55 : decode cX12_list 55 = .ok (.iastore, 1) := by decide +kernel
theorem dX12_list_56 : decode cX12_list 56 = .ok (.aload_n 0, 1) := by decide +kernel
theorem dX12_list_57 : decode cX12_list 57 = .ok (.dup, 1) := by decide +kernel
theorem dX12_list_58 : decode cX12_list 58 = .ok (.getfield 227, 3) := by decide +kernel
theorem dX12_list_61 : decode cX12_list 61 = .ok (.iconst 1, 1) := by decide +kernel
theorem dX12_list_62 : decode cX12_list 62 = .ok (.iadd, 1) := by decide +kernel
theorem dX12_list_63 : decode cX12_list 63 = .ok (.putfield 227, 3) := by decide +kernel
theorem dX12_list_66 : decode cX12_list 66 = .ok (.return_, 1) := by decide +kernel
theorem dX12_brokenAt_0 : decode cX12_brokenAt 0 = .ok (.iload_n 1, 1) := by decide +kernel
theorem dX12_brokenAt_1 : decode cX12_brokenAt 1 = .ok (.ifCond .lt 20, 3) := by decide +kernel
theorem dX12_brokenAt_4 : decode cX12_brokenAt 4 = .ok (.iload_n 1, 1) := by decide +kernel
theorem dX12_brokenAt_5 : decode cX12_brokenAt 5 = .ok (.aload_n 0, 1) := by decide +kernel
theorem dX12_brokenAt_6 : decode cX12_brokenAt 6 = .ok (.getfield 227, 3) := by decide +kernel
theorem dX12_brokenAt_9 : decode cX12_brokenAt 9 = .ok (.if_icmp .ge 12, 3) := by decide +kernel
theorem dX12_brokenAt_12 : decode cX12_brokenAt 12 = .ok (.iload_n 2, 1) := by decide +kernel
theorem dX12_brokenAt_13 : decode cX12_brokenAt 13 = .ok (.ifCond .lt 8, 3) := by decide +kernel
theorem dX12_brokenAt_16 : decode cX12_brokenAt 16 = .ok (.iload_n 2, 1) := by decide +kernel
theorem dX12_brokenAt_17 : decode cX12_brokenAt 17 = .ok (.iconst 2, 1) := by decide +kernel
theorem dX12_brokenAt_18 : decode cX12_brokenAt 18 = .ok (.if_icmp .le 7, 3) := by decide +kernel
theorem dX12_brokenAt_21 : decode cX12_brokenAt 21 = .ok (.iconst (-1), 1) := by decide +kernel
theorem dX12_brokenAt_22 : decode cX12_brokenAt 22 = .ok (.goto 13, 3) := by decide +kernel
theorem dX12_brokenAt_25 : decode cX12_brokenAt 25 = .ok (.aload_n 0, 1) := by decide +kernel
theorem dX12_brokenAt_26 : decode cX12_brokenAt 26 = .ok (.getfield 86, 3) := by decide +kernel
theorem dX12_brokenAt_29 : decode cX12_brokenAt 29 = .ok (.iconst 3, 1) := by decide +kernel
theorem dX12_brokenAt_30 : decode cX12_brokenAt 30 = .ok (.iload_n 1, 1) := by decide +kernel
theorem dX12_brokenAt_31 : decode cX12_brokenAt 31 = .ok (.imul, 1) := by decide +kernel
theorem dX12_brokenAt_32 : decode cX12_brokenAt 32 = .ok (.iload_n 2, 1) := by decide +kernel
theorem dX12_brokenAt_33 : decode cX12_brokenAt 33 = .ok (.iadd, 1) := by decide +kernel
theorem dX12_brokenAt_34 : decode cX12_brokenAt 34 = .ok (.iaload, 1) := by decide +kernel
theorem dX12_brokenAt_35 : decode cX12_brokenAt 35 = .ok (.ireturn, 1) := by decide +kernel
theorem dX12_stale_0 : decode cX12_stale 0 = .ok (.iconst 0, 1) := by decide +kernel
theorem dX12_stale_1 : decode cX12_stale 1 = .ok (.istore_n 1, 1) := by decide +kernel
theorem dX12_stale_2 : decode cX12_stale 2 = .ok (.aload_n 0, 1) := by decide +kernel
theorem dX12_stale_3 : decode cX12_stale 3 = .ok (.getfield 83, 3) := by decide +kernel
theorem dX12_stale_6 : decode cX12_stale 6 = .ok (.aload_n 0, 1) := by decide +kernel
theorem dX12_stale_7 : decode cX12_stale 7 = .ok (.getfield 67, 3) := by decide +kernel
theorem dX12_stale_10 : decode cX12_stale 10 = .ok (.invokevirtual 453, 3) := by decide +kernel
theorem dX12_stale_13 : decode cX12_stale 13 = .ok (.iconst 0, 1) := by decide +kernel
theorem dX12_stale_14 : decode cX12_stale 14 = .ok (.istore_n 2, 1) := by decide +kernel
theorem dX12_stale_15 : decode cX12_stale 15 = .ok (.iload_n 2, 1) := by decide +kernel
theorem dX12_stale_16 : decode cX12_stale 16 = .ok (.iconst 5, 1) := by decide +kernel
theorem dX12_stale_17 : decode cX12_stale 17 = .ok (.if_icmp .ge 116, 3) := by decide +kernel
theorem dX12_stale_20 : decode cX12_stale 20 = .ok (.aload_n 0, 1) := by decide +kernel
theorem dX12_stale_21 : decode cX12_stale 21 = .ok (.iload_n 2, 1) := by decide +kernel
theorem dX12_stale_22 : decode cX12_stale 22 = .ok (.aload_n 0, 1) := by decide +kernel
theorem dX12_stale_23 : decode cX12_stale 23 = .ok (.getfield 26, 3) := by decide +kernel
theorem dX12_stale_26 : decode cX12_stale 26 = .ok (.iload_n 2, 1) := by decide +kernel
theorem dX12_stale_27 : decode cX12_stale 27 = .ok (.iaload, 1) := by decide +kernel
theorem dX12_stale_28 : decode cX12_stale 28 = .ok (.invokevirtual 139, 3) := by decide +kernel
theorem dX12_stale_31 : decode cX12_stale 31 = .ok (.astore_n 3, 1) := by decide +kernel
theorem dX12_stale_32 : decode cX12_stale 32 = .ok (.iconst 0, 1) := by decide +kernel
theorem dX12_stale_33 : decode cX12_stale 33 = .ok (.istore 4, 2) := by decide +kernel
theorem dX12_stale_35 : decode cX12_stale 35 = .ok (.aload_n 3, 1) := by decide +kernel
theorem dX12_stale_36 : decode cX12_stale 36 = .ok (.ifnull 91, 3) := by decide +kernel
theorem dX12_stale_39 : decode cX12_stale 39 = .ok (.iload 4, 2) := by decide +kernel
theorem dX12_stale_41 : decode cX12_stale 41 = .ok (.aload_n 3, 1) := by decide +kernel
theorem dX12_stale_42 : decode cX12_stale 42 = .ok (.getfield 414, 3) := by decide +kernel
theorem dX12_stale_45 : decode cX12_stale 45 = .ok (.if_icmp .ge 82, 3) := by decide +kernel
theorem dX12_stale_48 : decode cX12_stale 48 = .ok (.aload_n 3, 1) := by decide +kernel
theorem dX12_stale_49 : decode cX12_stale 49 = .ok (.getfield 421, 3) := by decide +kernel
theorem dX12_stale_52 : decode cX12_stale 52 = .ok (.iload 4, 2) := by decide +kernel
theorem dX12_stale_54 : decode cX12_stale 54 = .ok (.iaload, 1) := by decide +kernel
theorem dX12_stale_55 : decode cX12_stale 55 = .ok (.bipush 16, 2) := by decide +kernel
theorem dX12_stale_57 : decode cX12_stale 57 = .ok (.if_icmp .ne 19, 3) := by decide +kernel
theorem dX12_stale_60 : decode cX12_stale 60 = .ok (.aload_n 0, 1) := by decide +kernel
theorem dX12_stale_61 : decode cX12_stale 61 = .ok (.iload_n 2, 1) := by decide +kernel
theorem dX12_stale_62 : decode cX12_stale 62 = .ok (.aload_n 0, 1) := by decide +kernel
theorem dX12_stale_63 : decode cX12_stale 63 = .ok (.getfield 26, 3) := by decide +kernel
theorem dX12_stale_66 : decode cX12_stale 66 = .ok (.iload_n 2, 1) := by decide +kernel
theorem dX12_stale_67 : decode cX12_stale 67 = .ok (.iaload, 1) := by decide +kernel
theorem dX12_stale_68 : decode cX12_stale 68 = .ok (.iload 4, 2) := by decide +kernel
theorem dX12_stale_70 : decode cX12_stale 70 = .ok (.invokevirtual 449, 3) := by decide +kernel
theorem dX12_stale_73 : decode cX12_stale 73 = .ok (.goto 5, 3) := by decide +kernel
theorem dX12_stale_76 : decode cX12_stale 76 = .ok (.bipush (-2), 2) := by decide +kernel
theorem dX12_stale_78 : decode cX12_stale 78 = .ok (.istore 5, 2) := by decide +kernel
theorem dX12_stale_80 : decode cX12_stale 80 = .ok (.iload_n 1, 1) := by decide +kernel
theorem dX12_stale_81 : decode cX12_stale 81 = .ok (.iload 5, 2) := by decide +kernel
theorem dX12_stale_83 : decode cX12_stale 83 = .ok (.ifCond .lt 35, 3) := by decide +kernel
theorem dX12_stale_86 : decode cX12_stale 86 = .ok (.aload_n 0, 1) := by decide +kernel
theorem dX12_stale_87 : decode cX12_stale 87 = .ok (.getfield 83, 3) := by decide +kernel
theorem dX12_stale_90 : decode cX12_stale 90 = .ok (.iload 5, 2) := by decide +kernel
theorem dX12_stale_92 : decode cX12_stale 92 = .ok (.iload 4, 2) := by decide +kernel
theorem dX12_stale_94 : decode cX12_stale 94 = .ok (.aload_n 0, 1) := by decide +kernel
theorem dX12_stale_95 : decode cX12_stale 95 = .ok (.getfield 67, 3) := by decide +kernel
theorem dX12_stale_98 : decode cX12_stale 98 = .ok (.getfield 446, 3) := by decide +kernel
theorem dX12_stale_101 : decode cX12_stale 101 = .ok (.iload 5, 2) := by decide +kernel
theorem dX12_stale_103 : decode cX12_stale 103 = .ok (.aaload, 1) := by decide +kernel
theorem dX12_stale_104 : decode cX12_stale 104 = .ok (.getfield 454, 3) := by decide +kernel
theorem dX12_stale_107 : decode cX12_stale 107 = .ok (.isub, 1) := by decide +kernel
theorem dX12_stale_108 : decode cX12_stale 108 = .ok (.invokevirtual 457, 3) := by decide +kernel
theorem dX12_stale_111 : decode cX12_stale 111 = .ok (.ifCond .eq 7, 3) := by decide +kernel
theorem dX12_stale_114 : decode cX12_stale 114 = .ok (.iconst 1, 1) := by decide +kernel
theorem dX12_stale_115 : decode cX12_stale 115 = .ok (.goto 4, 3) := by decide +kernel
theorem dX12_stale_118 : decode cX12_stale 118 = .ok (.iconst 0, 1) := by decide +kernel
theorem dX12_stale_119 : decode cX12_stale 119 = .ok (.iadd, 1) := by decide +kernel
theorem dX12_stale_120 : decode cX12_stale 120 = .ok (.istore_n 1, 1) := by decide +kernel
theorem dX12_stale_121 : decode cX12_stale 121 = .ok (.iinc 4 1, 3) := by decide +kernel
theorem dX12_stale_124 : decode cX12_stale 124 = .ok (.goto (-89), 3) := by decide +kernel
theorem dX12_stale_127 : decode cX12_stale 127 = .ok (.iinc 2 1, 3) := by decide +kernel
theorem dX12_stale_130 : decode cX12_stale 130 = .ok (.goto (-115), 3) := by decide +kernel
theorem dX12_stale_133 : decode cX12_stale 133 = .ok (.iload_n 1, 1) := by decide +kernel
theorem dX12_stale_134 : decode cX12_stale 134 = .ok (.ireturn, 1) := by decide +kernel
theorem dX12_choose_0 : decode cX12_choose 0 = .ok (.iconst 1, 1) := by decide +kernel
theorem dX12_choose_1 : decode cX12_choose 1 = .ok (.istore_n 1, 1) := by decide +kernel
theorem dX12_choose_2 : decode cX12_choose 2 = .ok (.iconst 0, 1) := by decide +kernel
theorem dX12_choose_3 : decode cX12_choose 3 = .ok (.istore_n 2, 1) := by decide +kernel
theorem dX12_choose_4 : decode cX12_choose 4 = .ok (.iload_n 2, 1) := by decide +kernel
theorem dX12_choose_5 : decode cX12_choose 5 = .ok (.iconst 5, 1) := by decide +kernel
theorem dX12_choose_6 : decode cX12_choose 6 = .ok (.if_icmp .ge 33, 3) := by decide +kernel
theorem dX12_choose_9 : decode cX12_choose 9 = .ok (.aload_n 0, 1) := by decide +kernel
theorem dX12_choose_10 : decode cX12_choose 10 = .ok (.getfield 29, 3) := by decide +kernel
theorem dX12_choose_13 : decode cX12_choose 13 = .ok (.iload_n 2, 1) := by decide +kernel
theorem dX12_choose_14 : decode cX12_choose 14 = .ok (.aload_n 0, 1) := by decide +kernel
theorem dX12_choose_15 : decode cX12_choose 15 = .ok (.iload_n 2, 1) := by decide +kernel
theorem dX12_choose_16 : decode cX12_choose 16 = .ok (.invokevirtual 492, 3) := by decide +kernel
theorem dX12_choose_19 : decode cX12_choose 19 = .ok (.iastore, 1) := by decide +kernel
theorem dX12_choose_20 : decode cX12_choose 20 = .ok (.iload_n 1, 1) := by decide +kernel
theorem dX12_choose_21 : decode cX12_choose 21 = .ok (.aload_n 0, 1) := by decide +kernel
theorem dX12_choose_22 : decode cX12_choose 22 = .ok (.getfield 22, 3) := by decide +kernel
theorem dX12_choose_25 : decode cX12_choose 25 = .ok (.iload_n 2, 1) := by decide +kernel
theorem dX12_choose_26 : decode cX12_choose 26 = .ok (.iaload, 1) := by decide +kernel
theorem dX12_choose_27 : decode cX12_choose 27 = .ok (.iconst 1, 1) := by decide +kernel
theorem dX12_choose_28 : decode cX12_choose 28 = .ok (.invokestatic 495, 3) := by decide +kernel
theorem dX12_choose_31 : decode cX12_choose 31 = .ok (.imul, 1) := by decide +kernel
theorem dX12_choose_32 : decode cX12_choose 32 = .ok (.istore_n 1, 1) := by decide +kernel
theorem dX12_choose_33 : decode cX12_choose 33 = .ok (.iinc 2 1, 3) := by decide +kernel
theorem dX12_choose_36 : decode cX12_choose 36 = .ok (.goto (-32), 3) := by decide +kernel
theorem dX12_choose_39 : decode cX12_choose 39 = .ok (.iconst 1, 1) := by decide +kernel
theorem dX12_choose_40 : decode cX12_choose 40 = .ok (.istore_n 2, 1) := by decide +kernel
theorem dX12_choose_41 : decode cX12_choose 41 = .ok (.iload_n 2, 1) := by decide +kernel
theorem dX12_choose_42 : decode cX12_choose 42 = .ok (.iload_n 1, 1) := by decide +kernel
theorem dX12_choose_43 : decode cX12_choose 43 = .ok (.if_icmp .gt 61, 3) := by decide +kernel
theorem dX12_choose_46 : decode cX12_choose 46 = .ok (.aload_n 0, 1) := by decide +kernel
theorem dX12_choose_47 : decode cX12_choose 47 = .ok (.aload_n 0, 1) := by decide +kernel
theorem dX12_choose_48 : decode cX12_choose 48 = .ok (.getfield 71, 3) := by decide +kernel
theorem dX12_choose_51 : decode cX12_choose 51 = .ok (.aload_n 0, 1) := by decide +kernel
theorem dX12_choose_52 : decode cX12_choose 52 = .ok (.getfield 29, 3) := by decide +kernel
theorem dX12_choose_55 : decode cX12_choose 55 = .ok (.invokevirtual 112, 3) := by decide +kernel
theorem dX12_choose_58 : decode cX12_choose 58 = .ok (.aload_n 0, 1) := by decide +kernel
theorem dX12_choose_59 : decode cX12_choose 59 = .ok (.aload_n 0, 1) := by decide +kernel
theorem dX12_choose_60 : decode cX12_choose 60 = .ok (.getfield 71, 3) := by decide +kernel
theorem dX12_choose_63 : decode cX12_choose 63 = .ok (.aload_n 0, 1) := by decide +kernel
theorem dX12_choose_64 : decode cX12_choose 64 = .ok (.getfield 29, 3) := by decide +kernel
theorem dX12_choose_67 : decode cX12_choose 67 = .ok (.iconst 0, 1) := by decide +kernel
theorem dX12_choose_68 : decode cX12_choose 68 = .ok (.invokevirtual 473, 3) := by decide +kernel
theorem dX12_choose_71 : decode cX12_choose 71 = .ok (.ifCond .ne 23, 3) := by decide +kernel
theorem dX12_choose_74 : decode cX12_choose 74 = .ok (.aload_n 0, 1) := by decide +kernel
theorem dX12_choose_75 : decode cX12_choose 75 = .ok (.getfield 29, 3) := by decide +kernel
theorem dX12_choose_78 : decode cX12_choose 78 = .ok (.iconst 0, 1) := by decide +kernel
theorem dX12_choose_79 : decode cX12_choose 79 = .ok (.aload_n 0, 1) := by decide +kernel
theorem dX12_choose_80 : decode cX12_choose 80 = .ok (.getfield 26, 3) := by decide +kernel
theorem dX12_choose_83 : decode cX12_choose 83 = .ok (.iconst 0, 1) := by decide +kernel
theorem dX12_choose_84 : decode cX12_choose 84 = .ok (.iconst 5, 1) := by decide +kernel
theorem dX12_choose_85 : decode cX12_choose 85 = .ok (.invokestatic 133, 3) := by decide +kernel
theorem dX12_choose_88 : decode cX12_choose 88 = .ok (.aload_n 0, 1) := by decide +kernel
theorem dX12_choose_89 : decode cX12_choose 89 = .ok (.invokevirtual 224, 3) := by decide +kernel
theorem dX12_choose_92 : decode cX12_choose 92 = .ok (.iload_n 2, 1) := by decide +kernel
theorem dX12_choose_93 : decode cX12_choose 93 = .ok (.ireturn, 1) := by decide +kernel
theorem dX12_choose_94 : decode cX12_choose 94 = .ok (.aload_n 0, 1) := by decide +kernel
theorem dX12_choose_95 : decode cX12_choose 95 = .ok (.invokevirtual 498, 3) := by decide +kernel
theorem dX12_choose_98 : decode cX12_choose 98 = .ok (.iinc 2 1, 3) := by decide +kernel
theorem dX12_choose_101 : decode cX12_choose 101 = .ok (.goto (-60), 3) := by decide +kernel
theorem dX12_choose_104 : decode cX12_choose 104 = .ok (.bipush (-2), 2) := by decide +kernel
theorem dX12_choose_106 : decode cX12_choose 106 = .ok (.ireturn, 1) := by decide +kernel
theorem dX12_greatest_0 : decode cX12_greatest 0 = .ok (.aload_n 0, 1) := by decide +kernel
theorem dX12_greatest_1 : decode cX12_greatest 1 = .ok (.getfield 22, 3) := by decide +kernel
theorem dX12_greatest_4 : decode cX12_greatest 4 = .ok (.iload_n 1, 1) := by decide +kernel
theorem dX12_greatest_5 : decode cX12_greatest 5 = .ok (.iaload, 1) := by decide +kernel
theorem dX12_greatest_6 : decode cX12_greatest 6 = .ok (.ifCond .ne 8, 3) := by decide +kernel
theorem dX12_greatest_9 : decode cX12_greatest 9 = .ok (.bipush (-2), 2) := by decide +kernel
theorem dX12_greatest_11 : decode cX12_greatest 11 = .ok (.goto 11, 3) := by decide +kernel
theorem dX12_greatest_14 : decode cX12_greatest 14 = .ok (.aload_n 0, 1) := by decide +kernel
theorem dX12_greatest_15 : decode cX12_greatest 15 = .ok (.getfield 22, 3) := by decide +kernel
theorem dX12_greatest_18 : decode cX12_greatest 18 = .ok (.iload_n 1, 1) := by decide +kernel
theorem dX12_greatest_19 : decode cX12_greatest 19 = .ok (.iaload, 1) := by decide +kernel
theorem dX12_greatest_20 : decode cX12_greatest 20 = .ok (.iconst 1, 1) := by decide +kernel
theorem dX12_greatest_21 : decode cX12_greatest 21 = .ok (.isub, 1) := by decide +kernel
theorem dX12_greatest_22 : decode cX12_greatest 22 = .ok (.ireturn, 1) := by decide +kernel
theorem dX12_lowerTrial_0 : decode cX12_lowerTrial 0 = .ok (.iconst 4, 1) := by decide +kernel
theorem dX12_lowerTrial_1 : decode cX12_lowerTrial 1 = .ok (.istore_n 1, 1) := by decide +kernel
theorem dX12_lowerTrial_2 : decode cX12_lowerTrial 2 = .ok (.iload_n 1, 1) := by decide +kernel
theorem dX12_lowerTrial_3 : decode cX12_lowerTrial 3 = .ok (.ifCond .lt 40, 3) := by decide +kernel
theorem dX12_lowerTrial_6 : decode cX12_lowerTrial 6 = .ok (.aload_n 0, 1) := by decide +kernel
theorem dX12_lowerTrial_7 : decode cX12_lowerTrial 7 = .ok (.getfield 29, 3) := by decide +kernel
theorem dX12_lowerTrial_10 : decode cX12_lowerTrial 10 = .ok (.iload_n 1, 1) := by decide +kernel
theorem dX12_lowerTrial_11 : decode cX12_lowerTrial 11 = .ok (.iaload, 1) := by decide +kernel
theorem dX12_lowerTrial_12 : decode cX12_lowerTrial 12 = .ok (.ifCond .le 14, 3) := by decide +kernel
theorem dX12_lowerTrial_15 : decode cX12_lowerTrial 15 = .ok (.aload_n 0, 1) := by decide +kernel
theorem dX12_lowerTrial_16 : decode cX12_lowerTrial 16 = .ok (.getfield 29, 3) := by decide +kernel
theorem dX12_lowerTrial_19 : decode cX12_lowerTrial 19 = .ok (.iload_n 1, 1) := by decide +kernel
theorem dX12_lowerTrial_20 : decode cX12_lowerTrial 20 = .ok (.dup2, 1) := by decide +kernel
theorem dX12_lowerTrial_21 : decode cX12_lowerTrial 21 = .ok (.iaload, 1) := by decide +kernel
theorem dX12_lowerTrial_22 : decode cX12_lowerTrial 22 = .ok (.iconst 1, 1) := by decide +kernel
theorem dX12_lowerTrial_23 : decode cX12_lowerTrial 23 = .ok (.isub, 1) := by decide +kernel
theorem dX12_lowerTrial_24 : decode cX12_lowerTrial 24 = .ok (.iastore, 1) := by decide +kernel
theorem dX12_lowerTrial_25 : decode cX12_lowerTrial 25 = .ok (.return_, 1) := by decide +kernel
theorem dX12_lowerTrial_26 : decode cX12_lowerTrial 26 = .ok (.aload_n 0, 1) := by decide +kernel
theorem dX12_lowerTrial_27 : decode cX12_lowerTrial 27 = .ok (.getfield 29, 3) := by decide +kernel
theorem dX12_lowerTrial_30 : decode cX12_lowerTrial 30 = .ok (.iload_n 1, 1) := by decide +kernel
theorem dX12_lowerTrial_31 : decode cX12_lowerTrial 31 = .ok (.aload_n 0, 1) := by decide +kernel
theorem dX12_lowerTrial_32 : decode cX12_lowerTrial 32 = .ok (.iload_n 1, 1) := by decide +kernel
theorem dX12_lowerTrial_33 : decode cX12_lowerTrial 33 = .ok (.invokevirtual 492, 3) := by decide +kernel
theorem dX12_lowerTrial_36 : decode cX12_lowerTrial 36 = .ok (.iastore, 1) := by decide +kernel
theorem dX12_lowerTrial_37 : decode cX12_lowerTrial 37 = .ok (.iinc 1 (-1), 3) := by decide +kernel
theorem dX12_lowerTrial_40 : decode cX12_lowerTrial 40 = .ok (.goto (-38), 3) := by decide +kernel
theorem dX12_lowerTrial_43 : decode cX12_lowerTrial 43 = .ok (.return_, 1) := by decide +kernel
theorem dX12_differ_0 : decode cX12_differ 0 = .ok (.aload_n 0, 1) := by decide +kernel
theorem dX12_differ_1 : decode cX12_differ 1 = .ok (.iload_n 1, 1) := by decide +kernel
theorem dX12_differ_2 : decode cX12_differ 2 = .ok (.iload_n 2, 1) := by decide +kernel
theorem dX12_differ_3 : decode cX12_differ 3 = .ok (.invokevirtual 139, 3) := by decide +kernel
theorem dX12_differ_6 : decode cX12_differ 6 = .ok (.astore 4, 2) := by decide +kernel
theorem dX12_differ_8 : decode cX12_differ 8 = .ok (.aload_n 0, 1) := by decide +kernel
theorem dX12_differ_9 : decode cX12_differ 9 = .ok (.iload_n 1, 1) := by decide +kernel
theorem dX12_differ_10 : decode cX12_differ 10 = .ok (.iload_n 3, 1) := by decide +kernel
theorem dX12_differ_11 : decode cX12_differ 11 = .ok (.invokevirtual 139, 3) := by decide +kernel
theorem dX12_differ_14 : decode cX12_differ 14 = .ok (.astore 5, 2) := by decide +kernel
theorem dX12_differ_16 : decode cX12_differ 16 = .ok (.aload 4, 2) := by decide +kernel
theorem dX12_differ_18 : decode cX12_differ 18 = .ok (.ifnull 8, 3) := by decide +kernel
theorem dX12_differ_21 : decode cX12_differ 21 = .ok (.aload 5, 2) := by decide +kernel
theorem dX12_differ_23 : decode cX12_differ 23 = .ok (.ifnonnull 7, 3) := by decide +kernel
theorem dX12_differ_26 : decode cX12_differ 26 = .ok (.iconst (-1), 1) := by decide +kernel
theorem dX12_differ_27 : decode cX12_differ 27 = .ok (.goto 15, 3) := by decide +kernel
theorem dX12_differ_30 : decode cX12_differ 30 = .ok (.aload_n 0, 1) := by decide +kernel
theorem dX12_differ_31 : decode cX12_differ 31 = .ok (.getfield 92, 3) := by decide +kernel
theorem dX12_differ_34 : decode cX12_differ 34 = .ok (.aload 4, 2) := by decide +kernel
theorem dX12_differ_36 : decode cX12_differ 36 = .ok (.aload 5, 2) := by decide +kernel
theorem dX12_differ_38 : decode cX12_differ 38 = .ok (.iconst 1, 1) := by decide +kernel
theorem dX12_differ_39 : decode cX12_differ 39 = .ok (.invokevirtual 501, 3) := by decide +kernel
theorem dX12_differ_42 : decode cX12_differ 42 = .ok (.ireturn, 1) := by decide +kernel
theorem dX12_change_0 : decode cX12_change 0 = .ok (.iload_n 1, 1) := by decide +kernel
theorem dX12_change_1 : decode cX12_change 1 = .ok (.ifCond .lt 23, 3) := by decide +kernel
theorem dX12_change_4 : decode cX12_change 4 = .ok (.iload_n 1, 1) := by decide +kernel
theorem dX12_change_5 : decode cX12_change 5 = .ok (.aload_n 0, 1) := by decide +kernel
theorem dX12_change_6 : decode cX12_change 6 = .ok (.getfield 92, 3) := by decide +kernel
theorem dX12_change_9 : decode cX12_change 9 = .ok (.getfield 505, 3) := by decide +kernel
theorem dX12_change_12 : decode cX12_change 12 = .ok (.if_icmp .ge 12, 3) := by decide +kernel
theorem dX12_change_15 : decode cX12_change 15 = .ok (.iload_n 2, 1) := by decide +kernel
theorem dX12_change_16 : decode cX12_change 16 = .ok (.ifCond .lt 8, 3) := by decide +kernel
theorem dX12_change_19 : decode cX12_change 19 = .ok (.iload_n 2, 1) := by decide +kernel
theorem dX12_change_20 : decode cX12_change 20 = .ok (.iconst 5, 1) := by decide +kernel
theorem dX12_change_21 : decode cX12_change 21 = .ok (.if_icmp .lt 7, 3) := by decide +kernel
theorem dX12_change_24 : decode cX12_change 24 = .ok (.iconst (-1), 1) := by decide +kernel
theorem dX12_change_25 : decode cX12_change 25 = .ok (.goto 16, 3) := by decide +kernel
theorem dX12_change_28 : decode cX12_change 28 = .ok (.aload_n 0, 1) := by decide +kernel
theorem dX12_change_29 : decode cX12_change 29 = .ok (.getfield 92, 3) := by decide +kernel
theorem dX12_change_32 : decode cX12_change 32 = .ok (.getfield 506, 3) := by decide +kernel
theorem dX12_change_35 : decode cX12_change 35 = .ok (.iconst 5, 1) := by decide +kernel
theorem dX12_change_36 : decode cX12_change 36 = .ok (.iload_n 1, 1) := by decide +kernel
theorem dX12_change_37 : decode cX12_change 37 = .ok (.imul, 1) := by decide +kernel
theorem dX12_change_38 : decode cX12_change 38 = .ok (.iload_n 2, 1) := by decide +kernel
theorem dX12_change_39 : decode cX12_change 39 = .ok (.iadd, 1) := by decide +kernel
theorem dX12_change_40 : decode cX12_change 40 = .ok (.iaload, 1) := by decide +kernel
theorem dX12_change_41 : decode cX12_change 41 = .ok (.ireturn, 1) := by decide +kernel
theorem dX12_word_0 : decode cX12_word 0 = .ok (.aload_n 0, 1) := by decide +kernel
theorem dX12_word_1 : decode cX12_word 1 = .ok (.iload_n 1, 1) := by decide +kernel
theorem dX12_word_2 : decode cX12_word 2 = .ok (.iload_n 2, 1) := by decide +kernel
theorem dX12_word_3 : decode cX12_word 3 = .ok (.invokevirtual 139, 3) := by decide +kernel
theorem dX12_word_6 : decode cX12_word 6 = .ok (.astore 4, 2) := by decide +kernel
theorem dX12_word_8 : decode cX12_word 8 = .ok (.aload_n 0, 1) := by decide +kernel
theorem dX12_word_9 : decode cX12_word 9 = .ok (.iload_n 1, 1) := by decide +kernel
theorem dX12_word_10 : decode cX12_word 10 = .ok (.iload_n 3, 1) := by decide +kernel
theorem dX12_word_11 : decode cX12_word 11 = .ok (.invokevirtual 139, 3) := by decide +kernel
theorem dX12_word_14 : decode cX12_word 14 = .ok (.astore 5, 2) := by decide +kernel
theorem dX12_word_16 : decode cX12_word 16 = .ok (.aload 4, 2) := by decide +kernel
theorem dX12_word_18 : decode cX12_word 18 = .ok (.ifnull 8, 3) := by decide +kernel
theorem dX12_word_21 : decode cX12_word 21 = .ok (.aload 5, 2) := by decide +kernel
theorem dX12_word_23 : decode cX12_word 23 = .ok (.ifnonnull 5, 3) := by decide +kernel
theorem dX12_word_26 : decode cX12_word 26 = .ok (.iconst (-1), 1) := by decide +kernel
theorem dX12_word_27 : decode cX12_word 27 = .ok (.ireturn, 1) := by decide +kernel
theorem dX12_word_28 : decode cX12_word 28 = .ok (.aload_n 0, 1) := by decide +kernel
theorem dX12_word_29 : decode cX12_word 29 = .ok (.getfield 92, 3) := by decide +kernel
theorem dX12_word_32 : decode cX12_word 32 = .ok (.aload 4, 2) := by decide +kernel
theorem dX12_word_34 : decode cX12_word 34 = .ok (.aload 5, 2) := by decide +kernel
theorem dX12_word_36 : decode cX12_word 36 = .ok (.iconst 0, 1) := by decide +kernel
theorem dX12_word_37 : decode cX12_word 37 = .ok (.invokevirtual 501, 3) := by decide +kernel
theorem dX12_word_40 : decode cX12_word 40 = .ok (.pop, 1) := by decide +kernel
theorem dX12_word_41 : decode cX12_word 41 = .ok (.aload_n 0, 1) := by decide +kernel
theorem dX12_word_42 : decode cX12_word 42 = .ok (.getfield 92, 3) := by decide +kernel
theorem dX12_word_45 : decode cX12_word 45 = .ok (.getfield 508, 3) := by decide +kernel
theorem dX12_word_48 : decode cX12_word 48 = .ok (.ireturn, 1) := by decide +kernel
theorem dX12_weave_0 : decode cX12_weave 0 = .ok (.aload_n 0, 1) := by decide +kernel
theorem dX12_weave_1 : decode cX12_weave 1 = .ok (.iload_n 1, 1) := by decide +kernel
theorem dX12_weave_2 : decode cX12_weave 2 = .ok (.iload_n 2, 1) := by decide +kernel
theorem dX12_weave_3 : decode cX12_weave 3 = .ok (.invokevirtual 139, 3) := by decide +kernel
theorem dX12_weave_6 : decode cX12_weave 6 = .ok (.astore 4, 2) := by decide +kernel
theorem dX12_weave_8 : decode cX12_weave 8 = .ok (.aload_n 0, 1) := by decide +kernel
theorem dX12_weave_9 : decode cX12_weave 9 = .ok (.iload_n 1, 1) := by decide +kernel
theorem dX12_weave_10 : decode cX12_weave 10 = .ok (.iload_n 3, 1) := by decide +kernel
theorem dX12_weave_11 : decode cX12_weave 11 = .ok (.invokevirtual 139, 3) := by decide +kernel
theorem dX12_weave_14 : decode cX12_weave 14 = .ok (.astore 5, 2) := by decide +kernel
theorem dX12_weave_16 : decode cX12_weave 16 = .ok (.aload 4, 2) := by decide +kernel
theorem dX12_weave_18 : decode cX12_weave 18 = .ok (.ifnull 8, 3) := by decide +kernel
theorem dX12_weave_21 : decode cX12_weave 21 = .ok (.aload 5, 2) := by decide +kernel
theorem dX12_weave_23 : decode cX12_weave 23 = .ok (.ifnonnull 5, 3) := by decide +kernel
theorem dX12_weave_26 : decode cX12_weave 26 = .ok (.iconst (-1), 1) := by decide +kernel
theorem dX12_weave_27 : decode cX12_weave 27 = .ok (.ireturn, 1) := by decide +kernel
theorem dX12_weave_28 : decode cX12_weave 28 = .ok (.aload_n 0, 1) := by decide +kernel
theorem dX12_weave_29 : decode cX12_weave 29 = .ok (.getfield 26, 3) := by decide +kernel
theorem dX12_weave_32 : decode cX12_weave 32 = .ok (.iconst 0, 1) := by decide +kernel
theorem dX12_weave_33 : decode cX12_weave 33 = .ok (.aload_n 0, 1) := by decide +kernel
theorem dX12_weave_34 : decode cX12_weave 34 = .ok (.getfield 29, 3) := by decide +kernel
theorem dX12_weave_37 : decode cX12_weave 37 = .ok (.iconst 0, 1) := by decide +kernel
theorem dX12_weave_38 : decode cX12_weave 38 = .ok (.iconst 5, 1) := by decide +kernel
theorem dX12_weave_39 : decode cX12_weave 39 = .ok (.invokestatic 133, 3) := by decide +kernel
theorem dX12_weave_42 : decode cX12_weave 42 = .ok (.aload_n 0, 1) := by decide +kernel
theorem dX12_weave_43 : decode cX12_weave 43 = .ok (.getfield 29, 3) := by decide +kernel
theorem dX12_weave_46 : decode cX12_weave 46 = .ok (.iload_n 1, 1) := by decide +kernel
theorem dX12_weave_47 : decode cX12_weave 47 = .ok (.iload_n 3, 1) := by decide +kernel
theorem dX12_weave_48 : decode cX12_weave 48 = .ok (.iastore, 1) := by decide +kernel
theorem dX12_weave_49 : decode cX12_weave 49 = .ok (.aload_n 0, 1) := by decide +kernel
theorem dX12_weave_50 : decode cX12_weave 50 = .ok (.aload_n 0, 1) := by decide +kernel
theorem dX12_weave_51 : decode cX12_weave 51 = .ok (.getfield 71, 3) := by decide +kernel
theorem dX12_weave_54 : decode cX12_weave 54 = .ok (.aload_n 0, 1) := by decide +kernel
theorem dX12_weave_55 : decode cX12_weave 55 = .ok (.getfield 29, 3) := by decide +kernel
theorem dX12_weave_58 : decode cX12_weave 58 = .ok (.invokevirtual 112, 3) := by decide +kernel
theorem dX12_weave_61 : decode cX12_weave 61 = .ok (.aload_n 0, 1) := by decide +kernel
theorem dX12_weave_62 : decode cX12_weave 62 = .ok (.invokevirtual 126, 3) := by decide +kernel
theorem dX12_weave_65 : decode cX12_weave 65 = .ok (.astore 6, 2) := by decide +kernel
theorem dX12_weave_67 : decode cX12_weave 67 = .ok (.aload 6, 2) := by decide +kernel
theorem dX12_weave_69 : decode cX12_weave 69 = .ok (.invokevirtual 511, 3) := by decide +kernel
theorem dX12_weave_72 : decode cX12_weave 72 = .ok (.aload 5, 2) := by decide +kernel
theorem dX12_weave_74 : decode cX12_weave 74 = .ok (.getfield 512, 3) := by decide +kernel
theorem dX12_weave_77 : decode cX12_weave 77 = .ok (.iconst 0, 1) := by decide +kernel
theorem dX12_weave_78 : decode cX12_weave 78 = .ok (.aload 6, 2) := by decide +kernel
theorem dX12_weave_80 : decode cX12_weave 80 = .ok (.getfield 512, 3) := by decide +kernel
theorem dX12_weave_83 : decode cX12_weave 83 = .ok (.iconst 0, 1) := by decide +kernel
theorem dX12_weave_84 : decode cX12_weave 84 = .ok (.aload 5, 2) := by decide +kernel
theorem dX12_weave_86 : decode cX12_weave 86 = .ok (.getfield 515, 3) := by decide +kernel
theorem dX12_weave_89 : decode cX12_weave 89 = .ok (.invokestatic 133, 3) := by decide +kernel
theorem dX12_weave_92 : decode cX12_weave 92 = .ok (.aload 6, 2) := by decide +kernel
theorem dX12_weave_94 : decode cX12_weave 94 = .ok (.aload 5, 2) := by decide +kernel
theorem dX12_weave_96 : decode cX12_weave 96 = .ok (.getfield 515, 3) := by decide +kernel
theorem dX12_weave_99 : decode cX12_weave 99 = .ok (.putfield 515, 3) := by decide +kernel
theorem dX12_weave_102 : decode cX12_weave 102 = .ok (.iconst 0, 1) := by decide +kernel
theorem dX12_weave_103 : decode cX12_weave 103 = .ok (.istore 7, 2) := by decide +kernel
theorem dX12_weave_105 : decode cX12_weave 105 = .ok (.aload_n 0, 1) := by decide +kernel
theorem dX12_weave_106 : decode cX12_weave 106 = .ok (.iload_n 1, 1) := by decide +kernel
theorem dX12_weave_107 : decode cX12_weave 107 = .ok (.invokevirtual 185, 3) := by decide +kernel
theorem dX12_weave_110 : decode cX12_weave 110 = .ok (.istore 8, 2) := by decide +kernel
theorem dX12_weave_112 : decode cX12_weave 112 = .ok (.iconst 0, 1) := by decide +kernel
theorem dX12_weave_113 : decode cX12_weave 113 = .ok (.istore 9, 2) := by decide +kernel
theorem dX12_weave_115 : decode cX12_weave 115 = .ok (.iload 9, 2) := by decide +kernel
theorem dX12_weave_117 : decode cX12_weave 117 = .ok (.aload 5, 2) := by decide +kernel
theorem dX12_weave_119 : decode cX12_weave 119 = .ok (.getfield 165, 3) := by decide +kernel
theorem dX12_weave_122 : decode cX12_weave 122 = .ok (.if_icmp .ge 186, 3) := by decide +kernel
theorem dX12_weave_125 : decode cX12_weave 125 = .ok (.aload_n 0, 1) := by decide +kernel
theorem dX12_weave_126 : decode cX12_weave 126 = .ok (.getfield 56, 3) := by decide +kernel
theorem dX12_weave_129 : decode cX12_weave 129 = .ok (.aload 6, 2) := by decide +kernel
theorem dX12_weave_131 : decode cX12_weave 131 = .ok (.aload 5, 2) := by decide +kernel
theorem dX12_weave_133 : decode cX12_weave 133 = .ok (.iload 9, 2) := by decide +kernel
theorem dX12_weave_135 : decode cX12_weave 135 = .ok (.invokevirtual 518, 3) := by decide +kernel
theorem dX12_weave_138 : decode cX12_weave 138 = .ok (.aload 6, 2) := by decide +kernel
theorem dX12_weave_140 : decode cX12_weave 140 = .ok (.getfield 168, 3) := by decide +kernel
theorem dX12_weave_143 : decode cX12_weave 143 = .ok (.iload 9, 2) := by decide +kernel
theorem dX12_weave_145 : decode cX12_weave 145 = .ok (.aaload, 1) := by decide +kernel
theorem dX12_weave_146 : decode cX12_weave 146 = .ok (.astore 10, 2) := by decide +kernel
theorem dX12_weave_148 : decode cX12_weave 148 = .ok (.aload 4, 2) := by decide +kernel
theorem dX12_weave_150 : decode cX12_weave 150 = .ok (.aload 10, 2) := by decide +kernel
theorem dX12_weave_152 : decode cX12_weave 152 = .ok (.getfield 280, 3) := by decide +kernel
theorem dX12_weave_155 : decode cX12_weave 155 = .ok (.invokevirtual 522, 3) := by decide +kernel
theorem dX12_weave_158 : decode cX12_weave 158 = .ok (.astore 11, 2) := by decide +kernel
theorem dX12_weave_160 : decode cX12_weave 160 = .ok (.iconst 0, 1) := by decide +kernel
theorem dX12_weave_161 : decode cX12_weave 161 = .ok (.istore 12, 2) := by decide +kernel
theorem dX12_weave_163 : decode cX12_weave 163 = .ok (.aload 11, 2) := by decide +kernel
theorem dX12_weave_165 : decode cX12_weave 165 = .ok (.ifnull 137, 3) := by decide +kernel
theorem dX12_weave_168 : decode cX12_weave 168 = .ok (.aload 11, 2) := by decide +kernel
theorem dX12_weave_170 : decode cX12_weave 170 = .ok (.getfield 273, 3) := by decide +kernel
theorem dX12_weave_173 : decode cX12_weave 173 = .ok (.aload 10, 2) := by decide +kernel
theorem dX12_weave_175 : decode cX12_weave 175 = .ok (.getfield 273, 3) := by decide +kernel
theorem dX12_weave_178 : decode cX12_weave 178 = .ok (.if_icmp .ne 124, 3) := by decide +kernel
theorem dX12_weave_181 : decode cX12_weave 181 = .ok (.iload 12, 2) := by decide +kernel
theorem dX12_weave_183 : decode cX12_weave 183 = .ok (.aload 11, 2) := by decide +kernel
theorem dX12_weave_185 : decode cX12_weave 185 = .ok (.getfield 234, 3) := by decide +kernel
theorem dX12_weave_188 : decode cX12_weave 188 = .ok (.if_icmp .ge 114, 3) := by decide +kernel
theorem dX12_weave_191 : decode cX12_weave 191 = .ok (.aload 11, 2) := by decide +kernel
theorem dX12_weave_193 : decode cX12_weave 193 = .ok (.getfield 243, 3) := by decide +kernel
theorem dX12_weave_196 : decode cX12_weave 196 = .ok (.iload 12, 2) := by decide +kernel
theorem dX12_weave_198 : decode cX12_weave 198 = .ok (.aaload, 1) := by decide +kernel
theorem dX12_weave_199 : decode cX12_weave 199 = .ok (.astore 13, 2) := by decide +kernel
theorem dX12_weave_201 : decode cX12_weave 201 = .ok (.aload 13, 2) := by decide +kernel
theorem dX12_weave_203 : decode cX12_weave 203 = .ok (.getfield 343, 3) := by decide +kernel
theorem dX12_weave_206 : decode cX12_weave 206 = .ok (.iconst 1, 1) := by decide +kernel
theorem dX12_weave_207 : decode cX12_weave 207 = .ok (.if_icmp .ne 30, 3) := by decide +kernel
theorem dX12_weave_210 : decode cX12_weave 210 = .ok (.aload 13, 2) := by decide +kernel
theorem dX12_weave_212 : decode cX12_weave 212 = .ok (.getfield 322, 3) := by decide +kernel
theorem dX12_weave_215 : decode cX12_weave 215 = .ok (.ifCond .ne 22, 3) := by decide +kernel
theorem dX12_weave_218 : decode cX12_weave 218 = .ok (.aload 13, 2) := by decide +kernel
theorem dX12_weave_220 : decode cX12_weave 220 = .ok (.getfield 329, 3) := by decide +kernel
theorem dX12_weave_223 : decode cX12_weave 223 = .ok (.ifCond .eq 14, 3) := by decide +kernel
theorem dX12_weave_226 : decode cX12_weave 226 = .ok (.aload_n 0, 1) := by decide +kernel
theorem dX12_weave_227 : decode cX12_weave 227 = .ok (.aload 10, 2) := by decide +kernel
theorem dX12_weave_229 : decode cX12_weave 229 = .ok (.aload 13, 2) := by decide +kernel
theorem dX12_weave_231 : decode cX12_weave 231 = .ok (.invokevirtual 526, 3) := by decide +kernel
theorem dX12_weave_234 : decode cX12_weave 234 = .ok (.goto 4, 3) := by decide +kernel
theorem dX12_weave_237 : decode cX12_weave 237 = .ok (.aconst_null, 1) := by decide +kernel
theorem dX12_weave_238 : decode cX12_weave 238 = .ok (.astore 14, 2) := by decide +kernel
theorem dX12_weave_240 : decode cX12_weave 240 = .ok (.aload 14, 2) := by decide +kernel
theorem dX12_weave_242 : decode cX12_weave 242 = .ok (.ifnull 54, 3) := by decide +kernel
theorem dX12_weave_245 : decode cX12_weave 245 = .ok (.iinc 7 1, 3) := by decide +kernel
theorem dX12_weave_248 : decode cX12_weave 248 = .ok (.iload 8, 2) := by decide +kernel
theorem dX12_weave_250 : decode cX12_weave 250 = .ok (.aload 10, 2) := by decide +kernel
theorem dX12_weave_252 : decode cX12_weave 252 = .ok (.invokevirtual 530, 3) := by decide +kernel
theorem dX12_weave_255 : decode cX12_weave 255 = .ok (.bipush 12, 2) := by decide +kernel
theorem dX12_weave_257 : decode cX12_weave 257 = .ok (.if_icmp .lt 7, 3) := by decide +kernel
theorem dX12_weave_260 : decode cX12_weave 260 = .ok (.iconst 1, 1) := by decide +kernel
theorem dX12_weave_261 : decode cX12_weave 261 = .ok (.goto 4, 3) := by decide +kernel
theorem dX12_weave_264 : decode cX12_weave 264 = .ok (.iconst 0, 1) := by decide +kernel
theorem dX12_weave_265 : decode cX12_weave 265 = .ok (.ior, 1) := by decide +kernel
theorem dX12_weave_266 : decode cX12_weave 266 = .ok (.istore 8, 2) := by decide +kernel
theorem dX12_weave_268 : decode cX12_weave 268 = .ok (.iload 8, 2) := by decide +kernel
theorem dX12_weave_270 : decode cX12_weave 270 = .ok (.ifCond .ne 26, 3) := by decide +kernel
theorem dX12_weave_273 : decode cX12_weave 273 = .ok (.aload_n 0, 1) := by decide +kernel
theorem dX12_weave_274 : decode cX12_weave 274 = .ok (.getfield 56, 3) := by decide +kernel
theorem dX12_weave_277 : decode cX12_weave 277 = .ok (.aload 6, 2) := by decide +kernel
theorem dX12_weave_279 : decode cX12_weave 279 = .ok (.aload 10, 2) := by decide +kernel
theorem dX12_weave_281 : decode cX12_weave 281 = .ok (.aload 14, 2) := by decide +kernel
theorem dX12_weave_283 : decode cX12_weave 283 = .ok (.aload 13, 2) := by decide +kernel
theorem dX12_weave_285 : decode cX12_weave 285 = .ok (.getfield 351, 3) := by decide +kernel
theorem dX12_weave_288 : decode cX12_weave 288 = .ok (.invokestatic 533, 3) := by decide +kernel
theorem dX12_weave_291 : decode cX12_weave 291 = .ok (.aload 14, 2) := by decide +kernel
theorem dX12_weave_293 : decode cX12_weave 293 = .ok (.invokevirtual 537, 3) := by decide +kernel
theorem dX12_weave_296 : decode cX12_weave 296 = .ok (.iinc 12 1, 3) := by decide +kernel
theorem dX12_weave_299 : decode cX12_weave 299 = .ok (.goto (-136), 3) := by decide +kernel
theorem dX12_weave_302 : decode cX12_weave 302 = .ok (.iinc 9 1, 3) := by decide +kernel
theorem dX12_weave_305 : decode cX12_weave 305 = .ok (.goto (-190), 3) := by decide +kernel
theorem dX12_weave_308 : decode cX12_weave 308 = .ok (.iload 7, 2) := by decide +kernel
theorem dX12_weave_310 : decode cX12_weave 310 = .ok (.ifCond .eq 8, 3) := by decide +kernel
theorem dX12_weave_313 : decode cX12_weave 313 = .ok (.iload 8, 2) := by decide +kernel
theorem dX12_weave_315 : decode cX12_weave 315 = .ok (.ifCond .eq 16, 3) := by decide +kernel
theorem dX12_weave_318 : decode cX12_weave 318 = .ok (.iload 7, 2) := by decide +kernel
theorem dX12_weave_320 : decode cX12_weave 320 = .ok (.ifCond .ne 8, 3) := by decide +kernel
theorem dX12_weave_323 : decode cX12_weave 323 = .ok (.bipush (-2), 2) := by decide +kernel
theorem dX12_weave_325 : decode cX12_weave 325 = .ok (.goto 5, 3) := by decide +kernel
theorem dX12_weave_328 : decode cX12_weave 328 = .ok (.bipush (-3), 2) := by decide +kernel
theorem dX12_weave_330 : decode cX12_weave 330 = .ok (.ireturn, 1) := by decide +kernel
theorem dX12_weave_331 : decode cX12_weave 331 = .ok (.aload 5, 2) := by decide +kernel
theorem dX12_weave_333 : decode cX12_weave 333 = .ok (.getfield 130, 3) := by decide +kernel
theorem dX12_weave_336 : decode cX12_weave 336 = .ok (.iconst 0, 1) := by decide +kernel
theorem dX12_weave_337 : decode cX12_weave 337 = .ok (.aload 6, 2) := by decide +kernel
theorem dX12_weave_339 : decode cX12_weave 339 = .ok (.getfield 130, 3) := by decide +kernel
theorem dX12_weave_342 : decode cX12_weave 342 = .ok (.iconst 0, 1) := by decide +kernel
theorem dX12_weave_343 : decode cX12_weave 343 = .ok (.aload 5, 2) := by decide +kernel
theorem dX12_weave_345 : decode cX12_weave 345 = .ok (.getfield 143, 3) := by decide +kernel
theorem dX12_weave_348 : decode cX12_weave 348 = .ok (.invokestatic 133, 3) := by decide +kernel
theorem dX12_weave_351 : decode cX12_weave 351 = .ok (.aload 6, 2) := by decide +kernel
theorem dX12_weave_353 : decode cX12_weave 353 = .ok (.aload 5, 2) := by decide +kernel
theorem dX12_weave_355 : decode cX12_weave 355 = .ok (.getfield 143, 3) := by decide +kernel
theorem dX12_weave_358 : decode cX12_weave 358 = .ok (.putfield 143, 3) := by decide +kernel
theorem dX12_weave_361 : decode cX12_weave 361 = .ok (.aload 5, 2) := by decide +kernel
theorem dX12_weave_363 : decode cX12_weave 363 = .ok (.getfield 541, 3) := by decide +kernel
theorem dX12_weave_366 : decode cX12_weave 366 = .ok (.iconst 0, 1) := by decide +kernel
theorem dX12_weave_367 : decode cX12_weave 367 = .ok (.aload 6, 2) := by decide +kernel
theorem dX12_weave_369 : decode cX12_weave 369 = .ok (.getfield 541, 3) := by decide +kernel
theorem dX12_weave_372 : decode cX12_weave 372 = .ok (.iconst 0, 1) := by decide +kernel
theorem dX12_weave_373 : decode cX12_weave 373 = .ok (.aload 5, 2) := by decide +kernel
theorem dX12_weave_375 : decode cX12_weave 375 = .ok (.getfield 541, 3) := by decide +kernel
theorem dX12_weave_378 : decode cX12_weave 378 = .ok (.arraylength, 1) := by decide +kernel
theorem dX12_weave_379 : decode cX12_weave 379 = .ok (.invokestatic 133, 3) := by decide +kernel
theorem dX12_weave_382 : decode cX12_weave 382 = .ok (.aload 5, 2) := by decide +kernel
theorem dX12_weave_384 : decode cX12_weave 384 = .ok (.getfield 542, 3) := by decide +kernel
theorem dX12_weave_387 : decode cX12_weave 387 = .ok (.iconst 0, 1) := by decide +kernel
theorem dX12_weave_388 : decode cX12_weave 388 = .ok (.aload 6, 2) := by decide +kernel
theorem dX12_weave_390 : decode cX12_weave 390 = .ok (.getfield 542, 3) := by decide +kernel
theorem dX12_weave_393 : decode cX12_weave 393 = .ok (.iconst 0, 1) := by decide +kernel
theorem dX12_weave_394 : decode cX12_weave 394 = .ok (.aload 5, 2) := by decide +kernel
theorem dX12_weave_396 : decode cX12_weave 396 = .ok (.getfield 542, 3) := by decide +kernel
theorem dX12_weave_399 : decode cX12_weave 399 = .ok (.arraylength, 1) := by decide +kernel
theorem dX12_weave_400 : decode cX12_weave 400 = .ok (.invokestatic 133, 3) := by decide +kernel
theorem dX12_weave_403 : decode cX12_weave 403 = .ok (.aload_n 0, 1) := by decide +kernel
theorem dX12_weave_404 : decode cX12_weave 404 = .ok (.aload 6, 2) := by decide +kernel
theorem dX12_weave_406 : decode cX12_weave 406 = .ok (.iload_n 1, 1) := by decide +kernel
theorem dX12_weave_407 : decode cX12_weave 407 = .ok (.invokevirtual 218, 3) := by decide +kernel
theorem dX12_weave_410 : decode cX12_weave 410 = .ok (.ireturn, 1) := by decide +kernel
theorem dX12_healing_0 : decode cX12_healing 0 = .ok (.aload_n 1, 1) := by decide +kernel
theorem dX12_healing_1 : decode cX12_healing 1 = .ok (.aload_n 2, 1) := by decide +kernel
theorem dX12_healing_2 : decode cX12_healing 2 = .ok (.invokevirtual 545, 3) := by decide +kernel
theorem dX12_healing_5 : decode cX12_healing 5 = .ok (.ifnull 5, 3) := by decide +kernel
theorem dX12_healing_8 : decode cX12_healing 8 = .ok (.aconst_null, 1) := by decide +kernel
theorem dX12_healing_9 : decode cX12_healing 9 = .ok (.areturn, 1) := by decide +kernel
theorem dX12_healing_10 : decode cX12_healing 10 = .ok (.aload_n 1, 1) := by decide +kernel
theorem dX12_healing_11 : decode cX12_healing 11 = .ok (.aload_n 2, 1) := by decide +kernel
theorem dX12_healing_12 : decode cX12_healing 12 = .ok (.invokevirtual 549, 3) := by decide +kernel
theorem dX12_healing_15 : decode cX12_healing 15 = .ok (.astore_n 3, 1) := by decide +kernel
theorem dX12_healing_16 : decode cX12_healing 16 = .ok (.aload_n 3, 1) := by decide +kernel
theorem dX12_healing_17 : decode cX12_healing 17 = .ok (.ifnull 28, 3) := by decide +kernel
theorem dX12_healing_20 : decode cX12_healing 20 = .ok (.aload_n 3, 1) := by decide +kernel
theorem dX12_healing_21 : decode cX12_healing 21 = .ok (.getfield 342, 3) := by decide +kernel
theorem dX12_healing_24 : decode cX12_healing 24 = .ok (.ifCond .ne 21, 3) := by decide +kernel
theorem dX12_healing_27 : decode cX12_healing 27 = .ok (.aload_n 3, 1) := by decide +kernel
theorem dX12_healing_28 : decode cX12_healing 28 = .ok (.getfield 329, 3) := by decide +kernel
theorem dX12_healing_31 : decode cX12_healing 31 = .ok (.ifCond .eq 14, 3) := by decide +kernel
theorem dX12_healing_34 : decode cX12_healing 34 = .ok (.aload_n 3, 1) := by decide +kernel
theorem dX12_healing_35 : decode cX12_healing 35 = .ok (.getfield 336, 3) := by decide +kernel
theorem dX12_healing_38 : decode cX12_healing 38 = .ok (.aload_n 2, 1) := by decide +kernel
theorem dX12_healing_39 : decode cX12_healing 39 = .ok (.getfield 336, 3) := by decide +kernel
theorem dX12_healing_42 : decode cX12_healing 42 = .ok (.if_icmp .eq 5, 3) := by decide +kernel
theorem dX12_healing_45 : decode cX12_healing 45 = .ok (.aconst_null, 1) := by decide +kernel
theorem dX12_healing_46 : decode cX12_healing 46 = .ok (.areturn, 1) := by decide +kernel
theorem dX12_healing_47 : decode cX12_healing 47 = .ok (.aload_n 3, 1) := by decide +kernel
theorem dX12_healing_48 : decode cX12_healing 48 = .ok (.getfield 351, 3) := by decide +kernel
theorem dX12_healing_51 : decode cX12_healing 51 = .ok (.ldc2_w 384, 3) := by decide +kernel
theorem dX12_healing_54 : decode cX12_healing 54 = .ok (.lcmp, 1) := by decide +kernel
theorem dX12_healing_55 : decode cX12_healing 55 = .ok (.ifCond .eq 36, 3) := by decide +kernel
theorem dX12_healing_58 : decode cX12_healing 58 = .ok (.aload_n 3, 1) := by decide +kernel
theorem dX12_healing_59 : decode cX12_healing 59 = .ok (.getfield 351, 3) := by decide +kernel
theorem dX12_healing_62 : decode cX12_healing 62 = .ok (.ldc2_w 386, 3) := by decide +kernel
theorem dX12_healing_65 : decode cX12_healing 65 = .ok (.lcmp, 1) := by decide +kernel
theorem dX12_healing_66 : decode cX12_healing 66 = .ok (.ifCond .eq 25, 3) := by decide +kernel
theorem dX12_healing_69 : decode cX12_healing 69 = .ok (.aload_n 0, 1) := by decide +kernel
theorem dX12_healing_70 : decode cX12_healing 70 = .ok (.getfield 71, 3) := by decide +kernel
theorem dX12_healing_73 : decode cX12_healing 73 = .ok (.aload_n 3, 1) := by decide +kernel
theorem dX12_healing_74 : decode cX12_healing 74 = .ok (.getfield 351, 3) := by decide +kernel
theorem dX12_healing_77 : decode cX12_healing 77 = .ok (.aload_n 2, 1) := by decide +kernel
theorem dX12_healing_78 : decode cX12_healing 78 = .ok (.getfield 351, 3) := by decide +kernel
theorem dX12_healing_81 : decode cX12_healing 81 = .ok (.invokevirtual 552, 3) := by decide +kernel
theorem dX12_healing_84 : decode cX12_healing 84 = .ok (.ifCond .eq 7, 3) := by decide +kernel
theorem dX12_healing_87 : decode cX12_healing 87 = .ok (.aload_n 3, 1) := by decide +kernel
theorem dX12_healing_88 : decode cX12_healing 88 = .ok (.goto 4, 3) := by decide +kernel
theorem dX12_healing_91 : decode cX12_healing 91 = .ok (.aconst_null, 1) := by decide +kernel
theorem dX12_healing_92 : decode cX12_healing 92 = .ok (.areturn, 1) := by decide +kernel
theorem dX12_fresh_0 : decode cX12_fresh 0 = .ok (.iconst 0, 1) := by decide +kernel
theorem dX12_fresh_1 : decode cX12_fresh 1 = .ok (.istore_n 1, 1) := by decide +kernel
theorem dX12_fresh_2 : decode cX12_fresh 2 = .ok (.iconst 2, 1) := by decide +kernel
theorem dX12_fresh_3 : decode cX12_fresh 3 = .ok (.istore_n 2, 1) := by decide +kernel
theorem dX12_fresh_4 : decode cX12_fresh 4 = .ok (.iload_n 2, 1) := by decide +kernel
theorem dX12_fresh_5 : decode cX12_fresh 5 = .ok (.aload_n 0, 1) := by decide +kernel
theorem dX12_fresh_6 : decode cX12_fresh 6 = .ok (.getfield 67, 3) := by decide +kernel
theorem dX12_fresh_9 : decode cX12_fresh 9 = .ok (.getfield 556, 3) := by decide +kernel
theorem dX12_fresh_12 : decode cX12_fresh 12 = .ok (.if_icmp .ge 31, 3) := by decide +kernel
theorem dX12_fresh_15 : decode cX12_fresh 15 = .ok (.iload_n 1, 1) := by decide +kernel
theorem dX12_fresh_16 : decode cX12_fresh 16 = .ok (.aload_n 0, 1) := by decide +kernel
theorem dX12_fresh_17 : decode cX12_fresh 17 = .ok (.getfield 99, 3) := by decide +kernel
theorem dX12_fresh_20 : decode cX12_fresh 20 = .ok (.getfield 557, 3) := by decide +kernel
theorem dX12_fresh_23 : decode cX12_fresh 23 = .ok (.iload_n 2, 1) := by decide +kernel
theorem dX12_fresh_24 : decode cX12_fresh 24 = .ok (.invokevirtual 560, 3) := by decide +kernel
theorem dX12_fresh_27 : decode cX12_fresh 27 = .ok (.ifCond .eq 7, 3) := by decide +kernel
theorem dX12_fresh_30 : decode cX12_fresh 30 = .ok (.iconst 1, 1) := by decide +kernel
theorem dX12_fresh_31 : decode cX12_fresh 31 = .ok (.goto 4, 3) := by decide +kernel
theorem dX12_fresh_34 : decode cX12_fresh 34 = .ok (.iconst 0, 1) := by decide +kernel
theorem dX12_fresh_35 : decode cX12_fresh 35 = .ok (.iadd, 1) := by decide +kernel
theorem dX12_fresh_36 : decode cX12_fresh 36 = .ok (.istore_n 1, 1) := by decide +kernel
theorem dX12_fresh_37 : decode cX12_fresh 37 = .ok (.iinc 2 1, 3) := by decide +kernel
theorem dX12_fresh_40 : decode cX12_fresh 40 = .ok (.goto (-36), 3) := by decide +kernel
theorem dX12_fresh_43 : decode cX12_fresh 43 = .ok (.aload_n 0, 1) := by decide +kernel
theorem dX12_fresh_44 : decode cX12_fresh 44 = .ok (.getfield 99, 3) := by decide +kernel
theorem dX12_fresh_47 : decode cX12_fresh 47 = .ok (.aload_n 0, 1) := by decide +kernel
theorem dX12_fresh_48 : decode cX12_fresh 48 = .ok (.getfield 67, 3) := by decide +kernel
theorem dX12_fresh_51 : decode cX12_fresh 51 = .ok (.invokevirtual 116, 3) := by decide +kernel
theorem dX12_fresh_54 : decode cX12_fresh 54 = .ok (.iload_n 1, 1) := by decide +kernel
theorem dX12_fresh_55 : decode cX12_fresh 55 = .ok (.ireturn, 1) := by decide +kernel
theorem dX12_touch_0 : decode cX12_touch 0 = .ok (.aload_n 0, 1) := by decide +kernel
theorem dX12_touch_1 : decode cX12_touch 1 = .ok (.iload_n 1, 1) := by decide +kernel
theorem dX12_touch_2 : decode cX12_touch 2 = .ok (.iload_n 2, 1) := by decide +kernel
theorem dX12_touch_3 : decode cX12_touch 3 = .ok (.invokevirtual 139, 3) := by decide +kernel
theorem dX12_touch_6 : decode cX12_touch 6 = .ok (.iload_n 3, 1) := by decide +kernel
theorem dX12_touch_7 : decode cX12_touch 7 = .ok (.invokestatic 417, 3) := by decide +kernel
theorem dX12_touch_10 : decode cX12_touch 10 = .ok (.ifCond .ne 5, 3) := by decide +kernel
theorem dX12_touch_13 : decode cX12_touch 13 = .ok (.iconst (-1), 1) := by decide +kernel
theorem dX12_touch_14 : decode cX12_touch 14 = .ok (.ireturn, 1) := by decide +kernel
theorem dX12_touch_15 : decode cX12_touch 15 = .ok (.aload_n 0, 1) := by decide +kernel
theorem dX12_touch_16 : decode cX12_touch 16 = .ok (.iload_n 1, 1) := by decide +kernel
theorem dX12_touch_17 : decode cX12_touch 17 = .ok (.iload_n 2, 1) := by decide +kernel
theorem dX12_touch_18 : decode cX12_touch 18 = .ok (.iload_n 3, 1) := by decide +kernel
theorem dX12_touch_19 : decode cX12_touch 19 = .ok (.invokevirtual 449, 3) := by decide +kernel
theorem dX12_touch_22 : decode cX12_touch 22 = .ok (.istore 4, 2) := by decide +kernel
theorem dX12_touch_24 : decode cX12_touch 24 = .ok (.iload 4, 2) := by decide +kernel
theorem dX12_touch_26 : decode cX12_touch 26 = .ok (.ifCond .ge 8, 3) := by decide +kernel
theorem dX12_touch_29 : decode cX12_touch 29 = .ok (.bipush (-2), 2) := by decide +kernel
theorem dX12_touch_31 : decode cX12_touch 31 = .ok (.goto 30, 3) := by decide +kernel
theorem dX12_touch_34 : decode cX12_touch 34 = .ok (.aload_n 0, 1) := by decide +kernel
theorem dX12_touch_35 : decode cX12_touch 35 = .ok (.getfield 99, 3) := by decide +kernel
theorem dX12_touch_38 : decode cX12_touch 38 = .ok (.getfield 557, 3) := by decide +kernel
theorem dX12_touch_41 : decode cX12_touch 41 = .ok (.iload 4, 2) := by decide +kernel
theorem dX12_touch_43 : decode cX12_touch 43 = .ok (.iload_n 3, 1) := by decide +kernel
theorem dX12_touch_44 : decode cX12_touch 44 = .ok (.aload_n 0, 1) := by decide +kernel
theorem dX12_touch_45 : decode cX12_touch 45 = .ok (.getfield 67, 3) := by decide +kernel
theorem dX12_touch_48 : decode cX12_touch 48 = .ok (.getfield 446, 3) := by decide +kernel
theorem dX12_touch_51 : decode cX12_touch 51 = .ok (.iload 4, 2) := by decide +kernel
theorem dX12_touch_53 : decode cX12_touch 53 = .ok (.aaload, 1) := by decide +kernel
theorem dX12_touch_54 : decode cX12_touch 54 = .ok (.getfield 454, 3) := by decide +kernel
theorem dX12_touch_57 : decode cX12_touch 57 = .ok (.isub, 1) := by decide +kernel
theorem dX12_touch_58 : decode cX12_touch 58 = .ok (.invokevirtual 457, 3) := by decide +kernel
theorem dX12_touch_61 : decode cX12_touch 61 = .ok (.ireturn, 1) := by decide +kernel
theorem dX12_run_0 : decode cX12_run 0 = .ok (.aload_n 0, 1) := by decide +kernel
theorem dX12_run_1 : decode cX12_run 1 = .ok (.getfield 35, 3) := by decide +kernel
theorem dX12_run_4 : decode cX12_run 4 = .ok (.aload_n 0, 1) := by decide +kernel
theorem dX12_run_5 : decode cX12_run 5 = .ok (.getfield 9, 3) := by decide +kernel
theorem dX12_run_8 : decode cX12_run 8 = .ok (.aload_n 0, 1) := by decide +kernel
theorem dX12_run_9 : decode cX12_run 9 = .ok (.getfield 120, 3) := by decide +kernel
theorem dX12_run_12 : decode cX12_run 12 = .ok (.invokevirtual 563, 3) := by decide +kernel
theorem dX12_run_15 : decode cX12_run 15 = .ok (.istore_n 1, 1) := by decide +kernel
theorem dX12_run_16 : decode cX12_run 16 = .ok (.aload_n 0, 1) := by decide +kernel
theorem dX12_run_17 : decode cX12_run 17 = .ok (.iconst 0, 1) := by decide +kernel
theorem dX12_run_18 : decode cX12_run 18 = .ok (.putfield 120, 3) := by decide +kernel
theorem dX12_run_21 : decode cX12_run 21 = .ok (.iload_n 1, 1) := by decide +kernel
theorem dX12_run_22 : decode cX12_run 22 = .ok (.ifCond .eq 22, 3) := by decide +kernel
theorem dX12_run_25 : decode cX12_run 25 = .ok (.aload_n 0, 1) := by decide +kernel
theorem dX12_run_26 : decode cX12_run 26 = .ok (.getfield 67, 3) := by decide +kernel
theorem dX12_run_29 : decode cX12_run 29 = .ok (.aload_n 0, 1) := by decide +kernel
theorem dX12_run_30 : decode cX12_run 30 = .ok (.getfield 35, 3) := by decide +kernel
theorem dX12_run_33 : decode cX12_run 33 = .ok (.getfield 567, 3) := by decide +kernel
theorem dX12_run_36 : decode cX12_run 36 = .ok (.iconst 0, 1) := by decide +kernel
theorem dX12_run_37 : decode cX12_run 37 = .ok (.laload, 1) := by decide +kernel
theorem dX12_run_38 : decode cX12_run 38 = .ok (.invokevirtual 442, 3) := by decide +kernel
theorem dX12_run_41 : decode cX12_run 41 = .ok (.goto 5, 3) := by decide +kernel
theorem dX12_run_44 : decode cX12_run 44 = .ok (.bipush (-2), 2) := by decide +kernel
theorem dX12_run_46 : decode cX12_run 46 = .ok (.istore_n 2, 1) := by decide +kernel
theorem dX12_run_47 : decode cX12_run 47 = .ok (.iload_n 2, 1) := by decide +kernel
theorem dX12_run_48 : decode cX12_run 48 = .ok (.ifCond .ge 7, 3) := by decide +kernel
theorem dX12_run_51 : decode cX12_run 51 = .ok (.aconst_null, 1) := by decide +kernel
theorem dX12_run_52 : decode cX12_run 52 = .ok (.goto 24, 3) := by decide +kernel
theorem dX12_run_55 : decode cX12_run 55 = .ok (.aload_n 0, 1) := by decide +kernel
theorem dX12_run_56 : decode cX12_run 56 = .ok (.getfield 67, 3) := by decide +kernel
theorem dX12_run_59 : decode cX12_run 59 = .ok (.getfield 446, 3) := by decide +kernel
theorem dX12_run_62 : decode cX12_run 62 = .ok (.iload_n 2, 1) := by decide +kernel
theorem dX12_run_63 : decode cX12_run 63 = .ok (.aaload, 1) := by decide +kernel
theorem dX12_run_64 : decode cX12_run 64 = .ok (.aload_n 0, 1) := by decide +kernel
theorem dX12_run_65 : decode cX12_run 65 = .ok (.getfield 35, 3) := by decide +kernel
theorem dX12_run_68 : decode cX12_run 68 = .ok (.getfield 567, 3) := by decide +kernel
theorem dX12_run_71 : decode cX12_run 71 = .ok (.iconst 2, 1) := by decide +kernel
theorem dX12_run_72 : decode cX12_run 72 = .ok (.laload, 1) := by decide +kernel
theorem dX12_run_73 : decode cX12_run 73 = .ok (.invokestatic 569, 3) := by decide +kernel
theorem dX12_run_76 : decode cX12_run 76 = .ok (.astore_n 3, 1) := by decide +kernel
theorem dX12_run_77 : decode cX12_run 77 = .ok (.aload_n 3, 1) := by decide +kernel
theorem dX12_run_78 : decode cX12_run 78 = .ok (.ifnonnull 6, 3) := by decide +kernel
theorem dX12_run_81 : decode cX12_run 81 = .ok (.bipush (-2), 2) := by decide +kernel
theorem dX12_run_83 : decode cX12_run 83 = .ok (.ireturn, 1) := by decide +kernel
theorem dX12_run_84 : decode cX12_run 84 = .ok (.aload_n 0, 1) := by decide +kernel
theorem dX12_run_85 : decode cX12_run 85 = .ok (.getfield 99, 3) := by decide +kernel
theorem dX12_run_88 : decode cX12_run 88 = .ok (.iload_n 2, 1) := by decide +kernel
theorem dX12_run_89 : decode cX12_run 89 = .ok (.invokevirtual 573, 3) := by decide +kernel
theorem dX12_run_92 : decode cX12_run 92 = .ok (.iconst 0, 1) := by decide +kernel
theorem dX12_run_93 : decode cX12_run 93 = .ok (.istore 4, 2) := by decide +kernel
theorem dX12_run_95 : decode cX12_run 95 = .ok (.iload 4, 2) := by decide +kernel
theorem dX12_run_97 : decode cX12_run 97 = .ok (.ldc_w 575, 3) := by decide +kernel
theorem dX12_run_100 : decode cX12_run 100 = .ok (.if_icmp .ge 26, 3) := by decide +kernel
theorem dX12_run_103 : decode cX12_run 103 = .ok (.aload_n 0, 1) := by decide +kernel
theorem dX12_run_104 : decode cX12_run 104 = .ok (.getfield 99, 3) := by decide +kernel
theorem dX12_run_107 : decode cX12_run 107 = .ok (.getfield 576, 3) := by decide +kernel
theorem dX12_run_110 : decode cX12_run 110 = .ok (.ifCond .le 16, 3) := by decide +kernel
theorem dX12_run_113 : decode cX12_run 113 = .ok (.aload_n 0, 1) := by decide +kernel
theorem dX12_run_114 : decode cX12_run 114 = .ok (.getfield 99, 3) := by decide +kernel
theorem dX12_run_117 : decode cX12_run 117 = .ok (.invokevirtual 579, 3) := by decide +kernel
theorem dX12_run_120 : decode cX12_run 120 = .ok (.iinc 4 1, 3) := by decide +kernel
theorem dX12_run_123 : decode cX12_run 123 = .ok (.goto (-28), 3) := by decide +kernel
theorem dX12_run_126 : decode cX12_run 126 = .ok (.aload_n 0, 1) := by decide +kernel
theorem dX12_run_127 : decode cX12_run 127 = .ok (.getfield 99, 3) := by decide +kernel
theorem dX12_run_130 : decode cX12_run 130 = .ok (.getfield 582, 3) := by decide +kernel
theorem dX12_run_133 : decode cX12_run 133 = .ok (.ifCond .ne 14, 3) := by decide +kernel
theorem dX12_run_136 : decode cX12_run 136 = .ok (.aload_n 0, 1) := by decide +kernel
theorem dX12_run_137 : decode cX12_run 137 = .ok (.getfield 99, 3) := by decide +kernel
theorem dX12_run_140 : decode cX12_run 140 = .ok (.iload_n 2, 1) := by decide +kernel
theorem dX12_run_141 : decode cX12_run 141 = .ok (.aload_n 3, 1) := by decide +kernel
theorem dX12_run_142 : decode cX12_run 142 = .ok (.iconst 0, 1) := by decide +kernel
theorem dX12_run_143 : decode cX12_run 143 = .ok (.iconst 1, 1) := by decide +kernel
theorem dX12_run_144 : decode cX12_run 144 = .ok (.invokevirtual 585, 3) := by decide +kernel
theorem dX12_run_147 : decode cX12_run 147 = .ok (.iconst 0, 1) := by decide +kernel
theorem dX12_run_148 : decode cX12_run 148 = .ok (.istore 4, 2) := by decide +kernel
theorem dX12_run_150 : decode cX12_run 150 = .ok (.iload 4, 2) := by decide +kernel
theorem dX12_run_152 : decode cX12_run 152 = .ok (.ldc_w 575, 3) := by decide +kernel
theorem dX12_run_155 : decode cX12_run 155 = .ok (.if_icmp .ge 26, 3) := by decide +kernel
theorem dX12_run_158 : decode cX12_run 158 = .ok (.aload_n 0, 1) := by decide +kernel
theorem dX12_run_159 : decode cX12_run 159 = .ok (.getfield 99, 3) := by decide +kernel
theorem dX12_run_162 : decode cX12_run 162 = .ok (.getfield 576, 3) := by decide +kernel
theorem dX12_run_165 : decode cX12_run 165 = .ok (.ifCond .le 16, 3) := by decide +kernel
theorem dX12_run_168 : decode cX12_run 168 = .ok (.aload_n 0, 1) := by decide +kernel
theorem dX12_run_169 : decode cX12_run 169 = .ok (.getfield 99, 3) := by decide +kernel
theorem dX12_run_172 : decode cX12_run 172 = .ok (.invokevirtual 579, 3) := by decide +kernel
theorem dX12_run_175 : decode cX12_run 175 = .ok (.iinc 4 1, 3) := by decide +kernel
theorem dX12_run_178 : decode cX12_run 178 = .ok (.goto (-28), 3) := by decide +kernel
theorem dX12_run_181 : decode cX12_run 181 = .ok (.aload_n 0, 1) := by decide +kernel
theorem dX12_run_182 : decode cX12_run 182 = .ok (.getfield 99, 3) := by decide +kernel
theorem dX12_run_185 : decode cX12_run 185 = .ok (.getfield 582, 3) := by decide +kernel
theorem dX12_run_188 : decode cX12_run 188 = .ok (.ifCond .eq 14, 3) := by decide +kernel
theorem dX12_run_191 : decode cX12_run 191 = .ok (.bipush (-10), 2) := by decide +kernel
theorem dX12_run_193 : decode cX12_run 193 = .ok (.aload_n 0, 1) := by decide +kernel
theorem dX12_run_194 : decode cX12_run 194 = .ok (.getfield 99, 3) := by decide +kernel
theorem dX12_run_197 : decode cX12_run 197 = .ok (.getfield 582, 3) := by decide +kernel
theorem dX12_run_200 : decode cX12_run 200 = .ok (.isub, 1) := by decide +kernel
theorem dX12_run_201 : decode cX12_run 201 = .ok (.ireturn, 1) := by decide +kernel
theorem dX12_run_202 : decode cX12_run 202 = .ok (.aload_n 0, 1) := by decide +kernel
theorem dX12_run_203 : decode cX12_run 203 = .ok (.getfield 99, 3) := by decide +kernel
theorem dX12_run_206 : decode cX12_run 206 = .ok (.getfield 589, 3) := by decide +kernel
theorem dX12_run_209 : decode cX12_run 209 = .ok (.ifCond .ne 7, 3) := by decide +kernel
theorem dX12_run_212 : decode cX12_run 212 = .ok (.iconst 1, 1) := by decide +kernel
theorem dX12_run_213 : decode cX12_run 213 = .ok (.goto 4, 3) := by decide +kernel
theorem dX12_run_216 : decode cX12_run 216 = .ok (.iconst 2, 1) := by decide +kernel
theorem dX12_run_217 : decode cX12_run 217 = .ok (.ireturn, 1) := by decide +kernel
theorem dX12_runnable_0 : decode cX12_runnable 0 = .ok (.iconst 0, 1) := by decide +kernel
theorem dX12_runnable_1 : decode cX12_runnable 1 = .ok (.istore_n 3, 1) := by decide +kernel
theorem dX12_runnable_2 : decode cX12_runnable 2 = .ok (.iload_n 3, 1) := by decide +kernel
theorem dX12_runnable_3 : decode cX12_runnable 3 = .ok (.aload_n 0, 1) := by decide +kernel
theorem dX12_runnable_4 : decode cX12_runnable 4 = .ok (.getfield 234, 3) := by decide +kernel
theorem dX12_runnable_7 : decode cX12_runnable 7 = .ok (.if_icmp .ge 63, 3) := by decide +kernel
theorem dX12_runnable_10 : decode cX12_runnable 10 = .ok (.aload_n 0, 1) := by decide +kernel
theorem dX12_runnable_11 : decode cX12_runnable 11 = .ok (.getfield 243, 3) := by decide +kernel
theorem dX12_runnable_14 : decode cX12_runnable 14 = .ok (.iload_n 3, 1) := by decide +kernel
theorem dX12_runnable_15 : decode cX12_runnable 15 = .ok (.aaload, 1) := by decide +kernel
theorem dX12_runnable_16 : decode cX12_runnable 16 = .ok (.astore 4, 2) := by decide +kernel
theorem dX12_runnable_18 : decode cX12_runnable 18 = .ok (.aload 4, 2) := by decide +kernel
theorem dX12_runnable_20 : decode cX12_runnable 20 = .ok (.getfield 343, 3) := by decide +kernel
theorem dX12_runnable_23 : decode cX12_runnable 23 = .ok (.iconst 1, 1) := by decide +kernel
theorem dX12_runnable_24 : decode cX12_runnable 24 = .ok (.if_icmp .ne 40, 3) := by decide +kernel
theorem dX12_runnable_27 : decode cX12_runnable 27 = .ok (.aload 4, 2) := by decide +kernel
theorem dX12_runnable_29 : decode cX12_runnable 29 = .ok (.getfield 356, 3) := by decide +kernel
theorem dX12_runnable_32 : decode cX12_runnable 32 = .ok (.lload_n 1, 1) := by decide +kernel
theorem dX12_runnable_33 : decode cX12_runnable 33 = .ok (.lcmp, 1) := by decide +kernel
theorem dX12_runnable_34 : decode cX12_runnable 34 = .ok (.ifCond .ne 30, 3) := by decide +kernel
theorem dX12_runnable_37 : decode cX12_runnable 37 = .ok (.aload 4, 2) := by decide +kernel
theorem dX12_runnable_39 : decode cX12_runnable 39 = .ok (.getfield 336, 3) := by decide +kernel
theorem dX12_runnable_42 : decode cX12_runnable 42 = .ok (.ifCond .eq 22, 3) := by decide +kernel
theorem dX12_runnable_45 : decode cX12_runnable 45 = .ok (.aload 4, 2) := by decide +kernel
theorem dX12_runnable_47 : decode cX12_runnable 47 = .ok (.getfield 592, 3) := by decide +kernel
theorem dX12_runnable_50 : decode cX12_runnable 50 = .ok (.ifCond .eq 14, 3) := by decide +kernel
theorem dX12_runnable_53 : decode cX12_runnable 53 = .ok (.aload 4, 2) := by decide +kernel
theorem dX12_runnable_55 : decode cX12_runnable 55 = .ok (.getfield 401, 3) := by decide +kernel
theorem dX12_runnable_58 : decode cX12_runnable 58 = .ok (.ifCond .ne 6, 3) := by decide +kernel
theorem dX12_runnable_61 : decode cX12_runnable 61 = .ok (.aload 4, 2) := by decide +kernel
theorem dX12_runnable_63 : decode cX12_runnable 63 = .ok (.areturn, 1) := by decide +kernel
theorem dX12_runnable_64 : decode cX12_runnable 64 = .ok (.iinc 3 1, 3) := by decide +kernel
theorem dX12_runnable_67 : decode cX12_runnable 67 = .ok (.goto (-65), 3) := by decide +kernel
theorem dX12_runnable_70 : decode cX12_runnable 70 = .ok (.aconst_null, 1) := by decide +kernel
theorem dX12_runnable_71 : decode cX12_runnable 71 = .ok (.areturn, 1) := by decide +kernel
theorem dX12_value_0 : decode cX12_value 0 = .ok (.aload_n 0, 1) := by decide +kernel
theorem dX12_value_1 : decode cX12_value 1 = .ok (.getfield 99, 3) := by decide +kernel
theorem dX12_value_4 : decode cX12_value 4 = .ok (.getfield 589, 3) := by decide +kernel
theorem dX12_value_7 : decode cX12_value 7 = .ok (.ifCond .ne 13, 3) := by decide +kernel
theorem dX12_value_10 : decode cX12_value 10 = .ok (.aload_n 0, 1) := by decide +kernel
theorem dX12_value_11 : decode cX12_value 11 = .ok (.getfield 99, 3) := by decide +kernel
theorem dX12_value_14 : decode cX12_value 14 = .ok (.getfield 595, 3) := by decide +kernel
theorem dX12_value_17 : decode cX12_value 17 = .ok (.goto 10, 3) := by decide +kernel
theorem dX12_value_20 : decode cX12_value 20 = .ok (.aload_n 0, 1) := by decide +kernel
theorem dX12_value_21 : decode cX12_value 21 = .ok (.getfield 99, 3) := by decide +kernel
theorem dX12_value_24 : decode cX12_value 24 = .ok (.getfield 589, 3) := by decide +kernel
theorem dX12_value_27 : decode cX12_value 27 = .ok (.ireturn, 1) := by decide +kernel
theorem dX12_told_0 : decode cX12_told 0 = .ok (.iload_n 1, 1) := by decide +kernel
theorem dX12_told_1 : decode cX12_told 1 = .ok (.tableswitch 108 0 7 #[47, 55, 63, 71, 79, 90, 98, 103], 47) := by decide +kernel
theorem dX12_told_48 : decode cX12_told 48 = .ok (.aload_n 0, 1) := by decide +kernel
theorem dX12_told_49 : decode cX12_told 49 = .ok (.getfield 99, 3) := by decide +kernel
theorem dX12_told_52 : decode cX12_told 52 = .ok (.getfield 598, 3) := by decide +kernel
theorem dX12_told_55 : decode cX12_told 55 = .ok (.ireturn, 1) := by decide +kernel
theorem dX12_told_56 : decode cX12_told 56 = .ok (.aload_n 0, 1) := by decide +kernel
theorem dX12_told_57 : decode cX12_told 57 = .ok (.getfield 99, 3) := by decide +kernel
theorem dX12_told_60 : decode cX12_told 60 = .ok (.getfield 601, 3) := by decide +kernel
theorem dX12_told_63 : decode cX12_told 63 = .ok (.ireturn, 1) := by decide +kernel
theorem dX12_told_64 : decode cX12_told 64 = .ok (.aload_n 0, 1) := by decide +kernel
theorem dX12_told_65 : decode cX12_told 65 = .ok (.getfield 99, 3) := by decide +kernel
theorem dX12_told_68 : decode cX12_told 68 = .ok (.getfield 604, 3) := by decide +kernel
theorem dX12_told_71 : decode cX12_told 71 = .ok (.ireturn, 1) := by decide +kernel
theorem dX12_told_72 : decode cX12_told 72 = .ok (.aload_n 0, 1) := by decide +kernel
theorem dX12_told_73 : decode cX12_told 73 = .ok (.getfield 99, 3) := by decide +kernel
theorem dX12_told_76 : decode cX12_told 76 = .ok (.getfield 607, 3) := by decide +kernel
theorem dX12_told_79 : decode cX12_told 79 = .ok (.ireturn, 1) := by decide +kernel
theorem dX12_told_80 : decode cX12_told 80 = .ok (.aload_n 0, 1) := by decide +kernel
theorem dX12_told_81 : decode cX12_told 81 = .ok (.getfield 99, 3) := by decide +kernel
theorem dX12_told_84 : decode cX12_told 84 = .ok (.getfield 557, 3) := by decide +kernel
theorem dX12_told_87 : decode cX12_told 87 = .ok (.getfield 610, 3) := by decide +kernel
theorem dX12_told_90 : decode cX12_told 90 = .ok (.ireturn, 1) := by decide +kernel
theorem dX12_told_91 : decode cX12_told 91 = .ok (.aload_n 0, 1) := by decide +kernel
theorem dX12_told_92 : decode cX12_told 92 = .ok (.getfield 67, 3) := by decide +kernel
theorem dX12_told_95 : decode cX12_told 95 = .ok (.getfield 556, 3) := by decide +kernel
theorem dX12_told_98 : decode cX12_told 98 = .ok (.ireturn, 1) := by decide +kernel
theorem dX12_told_99 : decode cX12_told 99 = .ok (.aload_n 0, 1) := by decide +kernel
theorem dX12_told_100 : decode cX12_told 100 = .ok (.getfield 120, 3) := by decide +kernel
theorem dX12_told_103 : decode cX12_told 103 = .ok (.ireturn, 1) := by decide +kernel
theorem dX12_told_104 : decode cX12_told 104 = .ok (.aload_n 0, 1) := by decide +kernel
theorem dX12_told_105 : decode cX12_told 105 = .ok (.invokevirtual 149, 3) := by decide +kernel
theorem dX12_told_108 : decode cX12_told 108 = .ok (.ireturn, 1) := by decide +kernel
theorem dX12_told_109 : decode cX12_told 109 = .ok (.iconst (-1), 1) := by decide +kernel
theorem dX12_told_110 : decode cX12_told 110 = .ok (.ireturn, 1) := by decide +kernel
theorem dX12_number_0 : decode cX12_number 0 = .ok (.iload_n 1, 1) := by decide +kernel
theorem dX12_number_1 : decode cX12_number 1 = .ok (.ifCond .lt 14, 3) := by decide +kernel
theorem dX12_number_4 : decode cX12_number 4 = .ok (.iload_n 1, 1) := by decide +kernel
theorem dX12_number_5 : decode cX12_number 5 = .ok (.aload_n 0, 1) := by decide +kernel
theorem dX12_number_6 : decode cX12_number 6 = .ok (.getfield 99, 3) := by decide +kernel
theorem dX12_number_9 : decode cX12_number 9 = .ok (.getfield 601, 3) := by decide +kernel
theorem dX12_number_12 : decode cX12_number 12 = .ok (.if_icmp .lt 7, 3) := by decide +kernel
theorem dX12_number_15 : decode cX12_number 15 = .ok (.iconst 0, 1) := by decide +kernel
theorem dX12_number_16 : decode cX12_number 16 = .ok (.goto 12, 3) := by decide +kernel
theorem dX12_number_19 : decode cX12_number 19 = .ok (.aload_n 0, 1) := by decide +kernel
theorem dX12_number_20 : decode cX12_number 20 = .ok (.getfield 99, 3) := by decide +kernel
theorem dX12_number_23 : decode cX12_number 23 = .ok (.getfield 613, 3) := by decide +kernel
theorem dX12_number_26 : decode cX12_number 26 = .ok (.iload_n 1, 1) := by decide +kernel
theorem dX12_number_27 : decode cX12_number 27 = .ok (.iaload, 1) := by decide +kernel
theorem dX12_number_28 : decode cX12_number 28 = .ok (.ireturn, 1) := by decide +kernel
theorem dX12_event_0 : decode cX12_event 0 = .ok (.iload_n 1, 1) := by decide +kernel
theorem dX12_event_1 : decode cX12_event 1 = .ok (.ifCond .lt 17, 3) := by decide +kernel
theorem dX12_event_4 : decode cX12_event 4 = .ok (.iload_n 1, 1) := by decide +kernel
theorem dX12_event_5 : decode cX12_event 5 = .ok (.aload_n 0, 1) := by decide +kernel
theorem dX12_event_6 : decode cX12_event 6 = .ok (.getfield 99, 3) := by decide +kernel
theorem dX12_event_9 : decode cX12_event 9 = .ok (.getfield 557, 3) := by decide +kernel
theorem dX12_event_12 : decode cX12_event 12 = .ok (.getfield 610, 3) := by decide +kernel
theorem dX12_event_15 : decode cX12_event 15 = .ok (.if_icmp .lt 7, 3) := by decide +kernel
theorem dX12_event_18 : decode cX12_event 18 = .ok (.iconst (-1), 1) := by decide +kernel
theorem dX12_event_19 : decode cX12_event 19 = .ok (.goto 15, 3) := by decide +kernel
theorem dX12_event_22 : decode cX12_event 22 = .ok (.aload_n 0, 1) := by decide +kernel
theorem dX12_event_23 : decode cX12_event 23 = .ok (.getfield 99, 3) := by decide +kernel
theorem dX12_event_26 : decode cX12_event 26 = .ok (.getfield 557, 3) := by decide +kernel
theorem dX12_event_29 : decode cX12_event 29 = .ok (.getfield 615, 3) := by decide +kernel
theorem dX12_event_32 : decode cX12_event 32 = .ok (.iload_n 1, 1) := by decide +kernel
theorem dX12_event_33 : decode cX12_event 33 = .ok (.iaload, 1) := by decide +kernel
theorem dX12_event_34 : decode cX12_event 34 = .ok (.ireturn, 1) := by decide +kernel
theorem dX12_name_0 : decode cX12_name 0 = .ok (.iload_n 1, 1) := by decide +kernel
theorem dX12_name_1 : decode cX12_name 1 = .ok (.ifCond .lt 14, 3) := by decide +kernel
theorem dX12_name_4 : decode cX12_name 4 = .ok (.iload_n 1, 1) := by decide +kernel
theorem dX12_name_5 : decode cX12_name 5 = .ok (.aload_n 0, 1) := by decide +kernel
theorem dX12_name_6 : decode cX12_name 6 = .ok (.getfield 67, 3) := by decide +kernel
theorem dX12_name_9 : decode cX12_name 9 = .ok (.getfield 556, 3) := by decide +kernel
theorem dX12_name_12 : decode cX12_name 12 = .ok (.if_icmp .lt 5, 3) := by decide +kernel
theorem dX12_name_15 : decode cX12_name 15 = .ok (.iconst (-1), 1) := by decide +kernel
theorem dX12_name_16 : decode cX12_name 16 = .ok (.ireturn, 1) := by decide +kernel
theorem dX12_name_17 : decode cX12_name 17 = .ok (.aload_n 0, 1) := by decide +kernel
theorem dX12_name_18 : decode cX12_name 18 = .ok (.iconst 0, 1) := by decide +kernel
theorem dX12_name_19 : decode cX12_name 19 = .ok (.putfield 146, 3) := by decide +kernel
theorem dX12_name_22 : decode cX12_name 22 = .ok (.aload_n 0, 1) := by decide +kernel
theorem dX12_name_23 : decode cX12_name 23 = .ok (.aload_n 0, 1) := by decide +kernel
theorem dX12_name_24 : decode cX12_name 24 = .ok (.getfield 67, 3) := by decide +kernel
theorem dX12_name_27 : decode cX12_name 27 = .ok (.getfield 446, 3) := by decide +kernel
theorem dX12_name_30 : decode cX12_name 30 = .ok (.iload_n 1, 1) := by decide +kernel
theorem dX12_name_31 : decode cX12_name 31 = .ok (.aaload, 1) := by decide +kernel
theorem dX12_name_32 : decode cX12_name 32 = .ok (.getfield 280, 3) := by decide +kernel
theorem dX12_name_35 : decode cX12_name 35 = .ok (.invokevirtual 284, 3) := by decide +kernel
theorem dX12_name_38 : decode cX12_name 38 = .ok (.aload_n 0, 1) := by decide +kernel
theorem dX12_name_39 : decode cX12_name 39 = .ok (.getfield 146, 3) := by decide +kernel
theorem dX12_name_42 : decode cX12_name 42 = .ok (.ireturn, 1) := by decide +kernel
theorem dX12_state_0 : decode cX12_state 0 = .ok (.iload_n 1, 1) := by decide +kernel
theorem dX12_state_1 : decode cX12_state 1 = .ok (.ifCond .lt 14, 3) := by decide +kernel
theorem dX12_state_4 : decode cX12_state 4 = .ok (.iload_n 1, 1) := by decide +kernel
theorem dX12_state_5 : decode cX12_state 5 = .ok (.aload_n 0, 1) := by decide +kernel
theorem dX12_state_6 : decode cX12_state 6 = .ok (.getfield 67, 3) := by decide +kernel
theorem dX12_state_9 : decode cX12_state 9 = .ok (.getfield 556, 3) := by decide +kernel
theorem dX12_state_12 : decode cX12_state 12 = .ok (.if_icmp .lt 7, 3) := by decide +kernel
theorem dX12_state_15 : decode cX12_state 15 = .ok (.iconst (-1), 1) := by decide +kernel
theorem dX12_state_16 : decode cX12_state 16 = .ok (.goto 15, 3) := by decide +kernel
theorem dX12_state_19 : decode cX12_state 19 = .ok (.aload_n 0, 1) := by decide +kernel
theorem dX12_state_20 : decode cX12_state 20 = .ok (.getfield 99, 3) := by decide +kernel
theorem dX12_state_23 : decode cX12_state 23 = .ok (.getfield 557, 3) := by decide +kernel
theorem dX12_state_26 : decode cX12_state 26 = .ok (.getfield 618, 3) := by decide +kernel
theorem dX12_state_29 : decode cX12_state 29 = .ok (.iload_n 1, 1) := by decide +kernel
theorem dX12_state_30 : decode cX12_state 30 = .ok (.iaload, 1) := by decide +kernel
theorem dX12_state_31 : decode cX12_state 31 = .ok (.ireturn, 1) := by decide +kernel
theorem dX12_classOf_0 : decode cX12_classOf 0 = .ok (.iload_n 1, 1) := by decide +kernel
theorem dX12_classOf_1 : decode cX12_classOf 1 = .ok (.iconst 1, 1) := by decide +kernel
theorem dX12_classOf_2 : decode cX12_classOf 2 = .ok (.if_icmp .lt 14, 3) := by decide +kernel
theorem dX12_classOf_5 : decode cX12_classOf 5 = .ok (.iload_n 1, 1) := by decide +kernel
theorem dX12_classOf_6 : decode cX12_classOf 6 = .ok (.aload_n 0, 1) := by decide +kernel
theorem dX12_classOf_7 : decode cX12_classOf 7 = .ok (.getfield 99, 3) := by decide +kernel
theorem dX12_classOf_10 : decode cX12_classOf 10 = .ok (.getfield 604, 3) := by decide +kernel
theorem dX12_classOf_13 : decode cX12_classOf 13 = .ok (.if_icmp .le 7, 3) := by decide +kernel
theorem dX12_classOf_16 : decode cX12_classOf 16 = .ok (.iconst (-1), 1) := by decide +kernel
theorem dX12_classOf_17 : decode cX12_classOf 17 = .ok (.goto 12, 3) := by decide +kernel
theorem dX12_classOf_20 : decode cX12_classOf 20 = .ok (.aload_n 0, 1) := by decide +kernel
theorem dX12_classOf_21 : decode cX12_classOf 21 = .ok (.getfield 99, 3) := by decide +kernel
theorem dX12_classOf_24 : decode cX12_classOf 24 = .ok (.getfield 621, 3) := by decide +kernel
theorem dX12_classOf_27 : decode cX12_classOf 27 = .ok (.iload_n 1, 1) := by decide +kernel
theorem dX12_classOf_28 : decode cX12_classOf 28 = .ok (.iaload, 1) := by decide +kernel
theorem dX12_classOf_29 : decode cX12_classOf 29 = .ok (.ireturn, 1) := by decide +kernel
theorem dX12_fieldOf_0 : decode cX12_fieldOf 0 = .ok (.iload_n 1, 1) := by decide +kernel
theorem dX12_fieldOf_1 : decode cX12_fieldOf 1 = .ok (.iconst 1, 1) := by decide +kernel
theorem dX12_fieldOf_2 : decode cX12_fieldOf 2 = .ok (.if_icmp .lt 38, 3) := by decide +kernel
theorem dX12_fieldOf_5 : decode cX12_fieldOf 5 = .ok (.iload_n 1, 1) := by decide +kernel
theorem dX12_fieldOf_6 : decode cX12_fieldOf 6 = .ok (.aload_n 0, 1) := by decide +kernel
theorem dX12_fieldOf_7 : decode cX12_fieldOf 7 = .ok (.getfield 99, 3) := by decide +kernel
theorem dX12_fieldOf_10 : decode cX12_fieldOf 10 = .ok (.getfield 604, 3) := by decide +kernel
theorem dX12_fieldOf_13 : decode cX12_fieldOf 13 = .ok (.if_icmp .gt 27, 3) := by decide +kernel
theorem dX12_fieldOf_16 : decode cX12_fieldOf 16 = .ok (.iload_n 2, 1) := by decide +kernel
theorem dX12_fieldOf_17 : decode cX12_fieldOf 17 = .ok (.ifCond .lt 23, 3) := by decide +kernel
theorem dX12_fieldOf_20 : decode cX12_fieldOf 20 = .ok (.iload_n 2, 1) := by decide +kernel
theorem dX12_fieldOf_21 : decode cX12_fieldOf 21 = .ok (.aload_n 0, 1) := by decide +kernel
theorem dX12_fieldOf_22 : decode cX12_fieldOf 22 = .ok (.getfield 99, 3) := by decide +kernel
theorem dX12_fieldOf_25 : decode cX12_fieldOf 25 = .ok (.aload_n 0, 1) := by decide +kernel
theorem dX12_fieldOf_26 : decode cX12_fieldOf 26 = .ok (.getfield 99, 3) := by decide +kernel
theorem dX12_fieldOf_29 : decode cX12_fieldOf 29 = .ok (.getfield 621, 3) := by decide +kernel
theorem dX12_fieldOf_32 : decode cX12_fieldOf 32 = .ok (.iload_n 1, 1) := by decide +kernel
theorem dX12_fieldOf_33 : decode cX12_fieldOf 33 = .ok (.iaload, 1) := by decide +kernel
theorem dX12_fieldOf_34 : decode cX12_fieldOf 34 = .ok (.invokevirtual 624, 3) := by decide +kernel
theorem dX12_fieldOf_37 : decode cX12_fieldOf 37 = .ok (.if_icmp .lt 5, 3) := by decide +kernel
theorem dX12_fieldOf_40 : decode cX12_fieldOf 40 = .ok (.iconst 0, 1) := by decide +kernel
theorem dX12_fieldOf_41 : decode cX12_fieldOf 41 = .ok (.ireturn, 1) := by decide +kernel
theorem dX12_fieldOf_42 : decode cX12_fieldOf 42 = .ok (.aload_n 0, 1) := by decide +kernel
theorem dX12_fieldOf_43 : decode cX12_fieldOf 43 = .ok (.getfield 99, 3) := by decide +kernel
theorem dX12_fieldOf_46 : decode cX12_fieldOf 46 = .ok (.getfield 627, 3) := by decide +kernel
theorem dX12_fieldOf_49 : decode cX12_fieldOf 49 = .ok (.aload_n 0, 1) := by decide +kernel
theorem dX12_fieldOf_50 : decode cX12_fieldOf 50 = .ok (.getfield 99, 3) := by decide +kernel
theorem dX12_fieldOf_53 : decode cX12_fieldOf 53 = .ok (.getfield 630, 3) := by decide +kernel
theorem dX12_fieldOf_56 : decode cX12_fieldOf 56 = .ok (.iload_n 1, 1) := by decide +kernel
theorem dX12_fieldOf_57 : decode cX12_fieldOf 57 = .ok (.iaload, 1) := by decide +kernel
theorem dX12_fieldOf_58 : decode cX12_fieldOf 58 = .ok (.iload_n 2, 1) := by decide +kernel
theorem dX12_fieldOf_59 : decode cX12_fieldOf 59 = .ok (.iadd, 1) := by decide +kernel
theorem dX12_fieldOf_60 : decode cX12_fieldOf 60 = .ok (.iaload, 1) := by decide +kernel
theorem dX12_fieldOf_61 : decode cX12_fieldOf 61 = .ok (.ireturn, 1) := by decide +kernel
theorem dX13_sym_0 : decode cX13_sym 0 = .ok (.iload_n 0, 1) := by decide +kernel
theorem dX13_sym_1 : decode cX13_sym 1 = .ok (.bipush 97, 2) := by decide +kernel
theorem dX13_sym_3 : decode cX13_sym 3 = .ok (.if_icmp .lt 18, 3) := by decide +kernel
theorem dX13_sym_6 : decode cX13_sym 6 = .ok (.iload_n 0, 1) := by decide +kernel
theorem dX13_sym_7 : decode cX13_sym 7 = .ok (.bipush 122, 2) := by decide +kernel
theorem dX13_sym_9 : decode cX13_sym 9 = .ok (.if_icmp .gt 12, 3) := by decide +kernel
theorem dX13_sym_12 : decode cX13_sym 12 = .ok (.iload_n 0, 1) := by decide +kernel
theorem dX13_sym_13 : decode cX13_sym 13 = .ok (.bipush 97, 2) := by decide +kernel
theorem dX13_sym_15 : decode cX13_sym 15 = .ok (.isub, 1) := by decide +kernel
theorem dX13_sym_16 : decode cX13_sym 16 = .ok (.iconst 1, 1) := by decide +kernel
theorem dX13_sym_17 : decode cX13_sym 17 = .ok (.iadd, 1) := by decide +kernel
theorem dX13_sym_18 : decode cX13_sym 18 = .ok (.goto 48, 3) := by decide +kernel
theorem dX13_sym_21 : decode cX13_sym 21 = .ok (.iload_n 0, 1) := by decide +kernel
theorem dX13_sym_22 : decode cX13_sym 22 = .ok (.bipush 65, 2) := by decide +kernel
theorem dX13_sym_24 : decode cX13_sym 24 = .ok (.if_icmp .lt 19, 3) := by decide +kernel
theorem dX13_sym_27 : decode cX13_sym 27 = .ok (.iload_n 0, 1) := by decide +kernel
theorem dX13_sym_28 : decode cX13_sym 28 = .ok (.bipush 90, 2) := by decide +kernel
theorem dX13_sym_30 : decode cX13_sym 30 = .ok (.if_icmp .gt 13, 3) := by decide +kernel
theorem dX13_sym_33 : decode cX13_sym 33 = .ok (.iload_n 0, 1) := by decide +kernel
theorem dX13_sym_34 : decode cX13_sym 34 = .ok (.bipush 65, 2) := by decide +kernel
theorem dX13_sym_36 : decode cX13_sym 36 = .ok (.isub, 1) := by decide +kernel
theorem dX13_sym_37 : decode cX13_sym 37 = .ok (.bipush 27, 2) := by decide +kernel
theorem dX13_sym_39 : decode cX13_sym 39 = .ok (.iadd, 1) := by decide +kernel
theorem dX13_sym_40 : decode cX13_sym 40 = .ok (.goto 26, 3) := by decide +kernel
theorem dX13_sym_43 : decode cX13_sym 43 = .ok (.iload_n 0, 1) := by decide +kernel
theorem dX13_sym_44 : decode cX13_sym 44 = .ok (.bipush 48, 2) := by decide +kernel
theorem dX13_sym_46 : decode cX13_sym 46 = .ok (.if_icmp .lt 19, 3) := by decide +kernel
theorem dX13_sym_49 : decode cX13_sym 49 = .ok (.iload_n 0, 1) := by decide +kernel
theorem dX13_sym_50 : decode cX13_sym 50 = .ok (.bipush 57, 2) := by decide +kernel
theorem dX13_sym_52 : decode cX13_sym 52 = .ok (.if_icmp .gt 13, 3) := by decide +kernel
theorem dX13_sym_55 : decode cX13_sym 55 = .ok (.iload_n 0, 1) := by decide +kernel
theorem dX13_sym_56 : decode cX13_sym 56 = .ok (.bipush 48, 2) := by decide +kernel
theorem dX13_sym_58 : decode cX13_sym 58 = .ok (.isub, 1) := by decide +kernel
theorem dX13_sym_59 : decode cX13_sym 59 = .ok (.bipush 53, 2) := by decide +kernel
theorem dX13_sym_61 : decode cX13_sym 61 = .ok (.iadd, 1) := by decide +kernel
theorem dX13_sym_62 : decode cX13_sym 62 = .ok (.goto 4, 3) := by decide +kernel
theorem dX13_sym_65 : decode cX13_sym 65 = .ok (.iconst 0, 1) := by decide +kernel
theorem dX13_sym_66 : decode cX13_sym 66 = .ok (.ireturn, 1) := by decide +kernel
theorem dX13_letter_0 : decode cX13_letter 0 = .ok (.iload_n 0, 1) := by decide +kernel
theorem dX13_letter_1 : decode cX13_letter 1 = .ok (.bipush 26, 2) := by decide +kernel
theorem dX13_letter_3 : decode cX13_letter 3 = .ok (.if_icmp .gt 12, 3) := by decide +kernel
theorem dX13_letter_6 : decode cX13_letter 6 = .ok (.bipush 97, 2) := by decide +kernel
theorem dX13_letter_8 : decode cX13_letter 8 = .ok (.iload_n 0, 1) := by decide +kernel
theorem dX13_letter_9 : decode cX13_letter 9 = .ok (.iadd, 1) := by decide +kernel
theorem dX13_letter_10 : decode cX13_letter 10 = .ok (.iconst 1, 1) := by decide +kernel
theorem dX13_letter_11 : decode cX13_letter 11 = .ok (.isub, 1) := by decide +kernel
theorem dX13_letter_12 : decode cX13_letter 12 = .ok (.goto 26, 3) := by decide +kernel
theorem dX13_letter_15 : decode cX13_letter 15 = .ok (.iload_n 0, 1) := by decide +kernel
theorem dX13_letter_16 : decode cX13_letter 16 = .ok (.bipush 52, 2) := by decide +kernel
theorem dX13_letter_18 : decode cX13_letter 18 = .ok (.if_icmp .gt 13, 3) := by decide +kernel
theorem dX13_letter_21 : decode cX13_letter 21 = .ok (.bipush 65, 2) := by decide +kernel
theorem dX13_letter_23 : decode cX13_letter 23 = .ok (.iload_n 0, 1) := by decide +kernel
theorem dX13_letter_24 : decode cX13_letter 24 = .ok (.iadd, 1) := by decide +kernel
theorem dX13_letter_25 : decode cX13_letter 25 = .ok (.bipush 27, 2) := by decide +kernel
theorem dX13_letter_27 : decode cX13_letter 27 = .ok (.isub, 1) := by decide +kernel
theorem dX13_letter_28 : decode cX13_letter 28 = .ok (.goto 10, 3) := by decide +kernel
theorem dX13_letter_31 : decode cX13_letter 31 = .ok (.bipush 48, 2) := by decide +kernel
theorem dX13_letter_33 : decode cX13_letter 33 = .ok (.iload_n 0, 1) := by decide +kernel
theorem dX13_letter_34 : decode cX13_letter 34 = .ok (.iadd, 1) := by decide +kernel
theorem dX13_letter_35 : decode cX13_letter 35 = .ok (.bipush 53, 2) := by decide +kernel
theorem dX13_letter_37 : decode cX13_letter 37 = .ok (.isub, 1) := by decide +kernel
theorem dX13_letter_38 : decode cX13_letter 38 = .ok (.ireturn, 1) := by decide +kernel
theorem dX13_isC_0 : decode cX13_isC 0 = .ok (.lload_n 0, 1) := by decide +kernel
theorem dX13_isC_1 : decode cX13_isC 1 = .ok (.ldc2_w 5, 3) := by decide +kernel
theorem dX13_isC_4 : decode cX13_isC 4 = .ok (.land, 1) := by decide +kernel
theorem dX13_isC_5 : decode cX13_isC 5 = .ok (.lconst 0, 1) := by decide +kernel
theorem dX13_isC_6 : decode cX13_isC 6 = .ok (.lcmp, 1) := by decide +kernel
theorem dX13_isC_7 : decode cX13_isC 7 = .ok (.ifCond .eq 7, 3) := by decide +kernel
theorem dX13_isC_10 : decode cX13_isC 10 = .ok (.iconst 1, 1) := by decide +kernel
theorem dX13_isC_11 : decode cX13_isC 11 = .ok (.goto 4, 3) := by decide +kernel
theorem dX13_isC_14 : decode cX13_isC 14 = .ok (.iconst 0, 1) := by decide +kernel
theorem dX13_isC_15 : decode cX13_isC 15 = .ok (.ireturn, 1) := by decide +kernel
theorem dX13_packageOf_0 : decode cX13_packageOf 0 = .ok (.lload_n 0, 1) := by decide +kernel
theorem dX13_packageOf_1 : decode cX13_packageOf 1 = .ok (.ldc2_w 7, 3) := by decide +kernel
theorem dX13_packageOf_4 : decode cX13_packageOf 4 = .ok (.land, 1) := by decide +kernel
theorem dX13_packageOf_5 : decode cX13_packageOf 5 = .ok (.lstore_n 2, 1) := by decide +kernel
theorem dX13_packageOf_6 : decode cX13_packageOf 6 = .ok (.iconst 0, 1) := by decide +kernel
theorem dX13_packageOf_7 : decode cX13_packageOf 7 = .ok (.istore 4, 2) := by decide +kernel
theorem dX13_packageOf_9 : decode cX13_packageOf 9 = .ok (.lload_n 2, 1) := by decide +kernel
theorem dX13_packageOf_10 : decode cX13_packageOf 10 = .ok (.lconst 0, 1) := by decide +kernel
theorem dX13_packageOf_11 : decode cX13_packageOf 11 = .ok (.lcmp, 1) := by decide +kernel
theorem dX13_packageOf_12 : decode cX13_packageOf 12 = .ok (.ifCond .eq 19, 3) := by decide +kernel
theorem dX13_packageOf_15 : decode cX13_packageOf 15 = .ok (.lload_n 2, 1) := by decide +kernel
theorem dX13_packageOf_16 : decode cX13_packageOf 16 = .ok (.ldc2_w 9, 3) := by decide +kernel
theorem dX13_packageOf_19 : decode cX13_packageOf 19 = .ok (.land, 1) := by decide +kernel
theorem dX13_packageOf_20 : decode cX13_packageOf 20 = .ok (.l2i, 1) := by decide +kernel
theorem dX13_packageOf_21 : decode cX13_packageOf 21 = .ok (.istore 4, 2) := by decide +kernel
theorem dX13_packageOf_23 : decode cX13_packageOf 23 = .ok (.lload_n 2, 1) := by decide +kernel
theorem dX13_packageOf_24 : decode cX13_packageOf 24 = .ok (.bipush 6, 2) := by decide +kernel
theorem dX13_packageOf_26 : decode cX13_packageOf 26 = .ok (.lushr, 1) := by decide +kernel
theorem dX13_packageOf_27 : decode cX13_packageOf 27 = .ok (.lstore_n 2, 1) := by decide +kernel
theorem dX13_packageOf_28 : decode cX13_packageOf 28 = .ok (.goto (-19), 3) := by decide +kernel
theorem dX13_packageOf_31 : decode cX13_packageOf 31 = .ok (.iload 4, 2) := by decide +kernel
theorem dX13_packageOf_33 : decode cX13_packageOf 33 = .ok (.ireturn, 1) := by decide +kernel
theorem dX13_outByte_0 : decode cX13_outByte 0 = .ok (.aload_n 0, 1) := by decide +kernel
theorem dX13_outByte_1 : decode cX13_outByte 1 = .ok (.getfield 11, 3) := by decide +kernel
theorem dX13_outByte_4 : decode cX13_outByte 4 = .ok (.aload_n 0, 1) := by decide +kernel
theorem dX13_outByte_5 : decode cX13_outByte 5 = .ok (.getfield 15, 3) := by decide +kernel
theorem dX13_outByte_8 : decode cX13_outByte 8 = .ok (.iload_n 1, 1) := by decide +kernel
theorem dX13_outByte_9 : decode cX13_outByte 9 = .ok (.iastore, 1) := by decide +kernel
theorem dX13_outByte_10 : decode cX13_outByte 10 = .ok (.aload_n 0, 1) := by decide +kernel
theorem dX13_outByte_11 : decode cX13_outByte 11 = .ok (.dup, 1) := by decide +kernel
theorem dX13_outByte_12 : decode cX13_outByte 12 = .ok (.getfield 15, 3) := by decide +kernel
theorem dX13_outByte_15 : decode cX13_outByte 15 = .ok (.iconst 1, 1) := by decide +kernel
theorem dX13_outByte_16 : decode cX13_outByte 16 = .ok (.iadd, 1) := by decide +kernel
theorem dX13_outByte_17 : decode cX13_outByte 17 = .ok (.putfield 15, 3) := by decide +kernel
theorem dX13_outByte_20 : decode cX13_outByte 20 = .ok (.return_, 1) := by decide +kernel
theorem dX13_outWord_0 : decode cX13_outWord 0 = .ok (.iconst 0, 1) := by decide +kernel
theorem dX13_outWord_1 : decode cX13_outWord 1 = .ok (.istore_n 2, 1) := by decide +kernel
theorem dX13_outWord_2 : decode cX13_outWord 2 = .ok (.iload_n 2, 1) := by decide +kernel
theorem dX13_outWord_3 : decode cX13_outWord 3 = .ok (.aload_n 1, 1) := by decide +kernel
theorem dX13_outWord_4 : decode cX13_outWord 4 = .ok (.invokevirtual 19, 3) := by decide +kernel
theorem dX13_outWord_7 : decode cX13_outWord 7 = .ok (.if_icmp .ge 18, 3) := by decide +kernel
theorem dX13_outWord_10 : decode cX13_outWord 10 = .ok (.aload_n 0, 1) := by decide +kernel
theorem dX13_outWord_11 : decode cX13_outWord 11 = .ok (.aload_n 1, 1) := by decide +kernel
theorem dX13_outWord_12 : decode cX13_outWord 12 = .ok (.iload_n 2, 1) := by decide +kernel
theorem dX13_outWord_13 : decode cX13_outWord 13 = .ok (.invokevirtual 25, 3) := by decide +kernel
theorem dX13_outWord_16 : decode cX13_outWord 16 = .ok (.invokevirtual 29, 3) := by decide +kernel
theorem dX13_outWord_19 : decode cX13_outWord 19 = .ok (.iinc 2 1, 3) := by decide +kernel
theorem dX13_outWord_22 : decode cX13_outWord 22 = .ok (.goto (-20), 3) := by decide +kernel
theorem dX13_outWord_25 : decode cX13_outWord 25 = .ok (.return_, 1) := by decide +kernel
theorem dX13_outName_0 : decode cX13_outName 0 = .ok (.lload_n 1, 1) := by decide +kernel
theorem dX13_outName_1 : decode cX13_outName 1 = .ok (.ldc2_w 7, 3) := by decide +kernel
theorem dX13_outName_4 : decode cX13_outName 4 = .ok (.land, 1) := by decide +kernel
theorem dX13_outName_5 : decode cX13_outName 5 = .ok (.lstore_n 3, 1) := by decide +kernel
theorem dX13_outName_6 : decode cX13_outName 6 = .ok (.iconst 0, 1) := by decide +kernel
theorem dX13_outName_7 : decode cX13_outName 7 = .ok (.istore 5, 2) := by decide +kernel
theorem dX13_outName_9 : decode cX13_outName 9 = .ok (.iload 5, 2) := by decide +kernel
theorem dX13_outName_11 : decode cX13_outName 11 = .ok (.bipush 10, 2) := by decide +kernel
theorem dX13_outName_13 : decode cX13_outName 13 = .ok (.if_icmp .ge 21, 3) := by decide +kernel
theorem dX13_outName_16 : decode cX13_outName 16 = .ok (.lload_n 3, 1) := by decide +kernel
theorem dX13_outName_17 : decode cX13_outName 17 = .ok (.bipush 6, 2) := by decide +kernel
theorem dX13_outName_19 : decode cX13_outName 19 = .ok (.iload 5, 2) := by decide +kernel
theorem dX13_outName_21 : decode cX13_outName 21 = .ok (.imul, 1) := by decide +kernel
theorem dX13_outName_22 : decode cX13_outName 22 = .ok (.lushr, 1) := by decide +kernel
theorem dX13_outName_23 : decode cX13_outName 23 = .ok (.lconst 0, 1) := by decide +kernel
theorem dX13_outName_24 : decode cX13_outName 24 = .ok (.lcmp, 1) := by decide +kernel
theorem dX13_outName_25 : decode cX13_outName 25 = .ok (.ifCond .eq 9, 3) := by decide +kernel
theorem dX13_outName_28 : decode cX13_outName 28 = .ok (.iinc 5 1, 3) := by decide +kernel
theorem dX13_outName_31 : decode cX13_outName 31 = .ok (.goto (-22), 3) := by decide +kernel
theorem dX13_outName_34 : decode cX13_outName 34 = .ok (.iload 5, 2) := by decide +kernel
theorem dX13_outName_36 : decode cX13_outName 36 = .ok (.iconst 1, 1) := by decide +kernel
theorem dX13_outName_37 : decode cX13_outName 37 = .ok (.isub, 1) := by decide +kernel
theorem dX13_outName_38 : decode cX13_outName 38 = .ok (.istore 6, 2) := by decide +kernel
theorem dX13_outName_40 : decode cX13_outName 40 = .ok (.iload 6, 2) := by decide +kernel
theorem dX13_outName_42 : decode cX13_outName 42 = .ok (.ifCond .lt 50, 3) := by decide +kernel
theorem dX13_outName_45 : decode cX13_outName 45 = .ok (.aload_n 0, 1) := by decide +kernel
theorem dX13_outName_46 : decode cX13_outName 46 = .ok (.lload_n 3, 1) := by decide +kernel
theorem dX13_outName_47 : decode cX13_outName 47 = .ok (.bipush 6, 2) := by decide +kernel
theorem dX13_outName_49 : decode cX13_outName 49 = .ok (.iload 6, 2) := by decide +kernel
theorem dX13_outName_51 : decode cX13_outName 51 = .ok (.imul, 1) := by decide +kernel
theorem dX13_outName_52 : decode cX13_outName 52 = .ok (.lushr, 1) := by decide +kernel
theorem dX13_outName_53 : decode cX13_outName 53 = .ok (.ldc2_w 9, 3) := by decide +kernel
theorem dX13_outName_56 : decode cX13_outName 56 = .ok (.land, 1) := by decide +kernel
theorem dX13_outName_57 : decode cX13_outName 57 = .ok (.l2i, 1) := by decide +kernel
theorem dX13_outName_58 : decode cX13_outName 58 = .ok (.invokestatic 33, 3) := by decide +kernel
theorem dX13_outName_61 : decode cX13_outName 61 = .ok (.invokevirtual 29, 3) := by decide +kernel
theorem dX13_outName_64 : decode cX13_outName 64 = .ok (.lload_n 1, 1) := by decide +kernel
theorem dX13_outName_65 : decode cX13_outName 65 = .ok (.invokestatic 37, 3) := by decide +kernel
theorem dX13_outName_68 : decode cX13_outName 68 = .ok (.ifCond .eq 18, 3) := by decide +kernel
theorem dX13_outName_71 : decode cX13_outName 71 = .ok (.iload 6, 2) := by decide +kernel
theorem dX13_outName_73 : decode cX13_outName 73 = .ok (.iload 5, 2) := by decide +kernel
theorem dX13_outName_75 : decode cX13_outName 75 = .ok (.iconst 1, 1) := by decide +kernel
theorem dX13_outName_76 : decode cX13_outName 76 = .ok (.isub, 1) := by decide +kernel
theorem dX13_outName_77 : decode cX13_outName 77 = .ok (.if_icmp .ne 9, 3) := by decide +kernel
theorem dX13_outName_80 : decode cX13_outName 80 = .ok (.aload_n 0, 1) := by decide +kernel
theorem dX13_outName_81 : decode cX13_outName 81 = .ok (.bipush 46, 2) := by decide +kernel
theorem dX13_outName_83 : decode cX13_outName 83 = .ok (.invokevirtual 29, 3) := by decide +kernel
theorem dX13_outName_86 : decode cX13_outName 86 = .ok (.iinc 6 (-1), 3) := by decide +kernel
theorem dX13_outName_89 : decode cX13_outName 89 = .ok (.goto (-49), 3) := by decide +kernel
theorem dX13_outName_92 : decode cX13_outName 92 = .ok (.return_, 1) := by decide +kernel
theorem dX13_outInt_0 : decode cX13_outInt 0 = .ok (.lload_n 1, 1) := by decide +kernel
theorem dX13_outInt_1 : decode cX13_outInt 1 = .ok (.lstore_n 3, 1) := by decide +kernel
theorem dX13_outInt_2 : decode cX13_outInt 2 = .ok (.lload_n 3, 1) := by decide +kernel
theorem dX13_outInt_3 : decode cX13_outInt 3 = .ok (.lconst 0, 1) := by decide +kernel
theorem dX13_outInt_4 : decode cX13_outInt 4 = .ok (.lcmp, 1) := by decide +kernel
theorem dX13_outInt_5 : decode cX13_outInt 5 = .ok (.ifCond .ge 12, 3) := by decide +kernel
theorem dX13_outInt_8 : decode cX13_outInt 8 = .ok (.aload_n 0, 1) := by decide +kernel
theorem dX13_outInt_9 : decode cX13_outInt 9 = .ok (.bipush 45, 2) := by decide +kernel
theorem dX13_outInt_11 : decode cX13_outInt 11 = .ok (.invokevirtual 29, 3) := by decide +kernel
theorem dX13_outInt_14 : decode cX13_outInt 14 = .ok (.lload_n 3, 1) := by decide +kernel
theorem dX13_outInt_15 : decode cX13_outInt 15 = .ok (.lneg, 1) := by decide +kernel
theorem dX13_outInt_16 : decode cX13_outInt 16 = .ok (.lstore_n 3, 1) := by decide +kernel
theorem dX13_outInt_17 : decode cX13_outInt 17 = .ok (.lconst 1, 1) := by decide +kernel
theorem dX13_outInt_18 : decode cX13_outInt 18 = .ok (.lstore 5, 2) := by decide +kernel
theorem dX13_outInt_20 : decode cX13_outInt 20 = .ok (.lload_n 3, 1) := by decide +kernel
theorem dX13_outInt_21 : decode cX13_outInt 21 = .ok (.lload 5, 2) := by decide +kernel
theorem dX13_outInt_23 : decode cX13_outInt 23 = .ok (.ldiv, 1) := by decide +kernel
theorem dX13_outInt_24 : decode cX13_outInt 24 = .ok (.ldc2_w 41, 3) := by decide +kernel
theorem dX13_outInt_27 : decode cX13_outInt 27 = .ok (.lcmp, 1) := by decide +kernel
theorem dX13_outInt_28 : decode cX13_outInt 28 = .ok (.ifCond .lt 14, 3) := by decide +kernel
theorem dX13_outInt_31 : decode cX13_outInt 31 = .ok (.lload 5, 2) := by decide +kernel
theorem dX13_outInt_33 : decode cX13_outInt 33 = .ok (.ldc2_w 41, 3) := by decide +kernel
theorem dX13_outInt_36 : decode cX13_outInt 36 = .ok (.lmul, 1) := by decide +kernel
theorem dX13_outInt_37 : decode cX13_outInt 37 = .ok (.lstore 5, 2) := by decide +kernel
theorem dX13_outInt_39 : decode cX13_outInt 39 = .ok (.goto (-19), 3) := by decide +kernel
theorem dX13_outInt_42 : decode cX13_outInt 42 = .ok (.lload 5, 2) := by decide +kernel
theorem dX13_outInt_44 : decode cX13_outInt 44 = .ok (.lconst 0, 1) := by decide +kernel
theorem dX13_outInt_45 : decode cX13_outInt 45 = .ok (.lcmp, 1) := by decide +kernel
theorem dX13_outInt_46 : decode cX13_outInt 46 = .ok (.ifCond .le 30, 3) := by decide +kernel
theorem dX13_outInt_49 : decode cX13_outInt 49 = .ok (.aload_n 0, 1) := by decide +kernel
theorem dX13_outInt_50 : decode cX13_outInt 50 = .ok (.bipush 48, 2) := by decide +kernel
theorem dX13_outInt_52 : decode cX13_outInt 52 = .ok (.lload_n 3, 1) := by decide +kernel
theorem dX13_outInt_53 : decode cX13_outInt 53 = .ok (.lload 5, 2) := by decide +kernel
theorem dX13_outInt_55 : decode cX13_outInt 55 = .ok (.ldiv, 1) := by decide +kernel
theorem dX13_outInt_56 : decode cX13_outInt 56 = .ok (.ldc2_w 41, 3) := by decide +kernel
theorem dX13_outInt_59 : decode cX13_outInt 59 = .ok (.lrem, 1) := by decide +kernel
theorem dX13_outInt_60 : decode cX13_outInt 60 = .ok (.l2i, 1) := by decide +kernel
theorem dX13_outInt_61 : decode cX13_outInt 61 = .ok (.iadd, 1) := by decide +kernel
theorem dX13_outInt_62 : decode cX13_outInt 62 = .ok (.invokevirtual 29, 3) := by decide +kernel
theorem dX13_outInt_65 : decode cX13_outInt 65 = .ok (.lload 5, 2) := by decide +kernel
theorem dX13_outInt_67 : decode cX13_outInt 67 = .ok (.ldc2_w 41, 3) := by decide +kernel
theorem dX13_outInt_70 : decode cX13_outInt 70 = .ok (.ldiv, 1) := by decide +kernel
theorem dX13_outInt_71 : decode cX13_outInt 71 = .ok (.lstore 5, 2) := by decide +kernel
theorem dX13_outInt_73 : decode cX13_outInt 73 = .ok (.goto (-31), 3) := by decide +kernel
theorem dX13_outInt_76 : decode cX13_outInt 76 = .ok (.return_, 1) := by decide +kernel
theorem dX13_outType_0 : decode cX13_outType 0 = .ok (.lload_n 1, 1) := by decide +kernel
theorem dX13_outType_1 : decode cX13_outType 1 = .ok (.ldc2_w 43, 3) := by decide +kernel
theorem dX13_outType_4 : decode cX13_outType 4 = .ok (.lcmp, 1) := by decide +kernel
theorem dX13_outType_5 : decode cX13_outType 5 = .ok (.ifCond .ne 12, 3) := by decide +kernel
theorem dX13_outType_8 : decode cX13_outType 8 = .ok (.aload_n 0, 1) := by decide +kernel
theorem dX13_outType_9 : decode cX13_outType 9 = .ok (.ldc 45, 2) := by decide +kernel
theorem dX13_outType_11 : decode cX13_outType 11 = .ok (.invokevirtual 47, 3) := by decide +kernel
theorem dX13_outType_14 : decode cX13_outType 14 = .ok (.goto 23, 3) := by decide +kernel
theorem dX13_outType_17 : decode cX13_outType 17 = .ok (.lload_n 1, 1) := by decide +kernel
theorem dX13_outType_18 : decode cX13_outType 18 = .ok (.lconst 1, 1) := by decide +kernel
theorem dX13_outType_19 : decode cX13_outType 19 = .ok (.lcmp, 1) := by decide +kernel
theorem dX13_outType_20 : decode cX13_outType 20 = .ok (.ifCond .ne 12, 3) := by decide +kernel
theorem dX13_outType_23 : decode cX13_outType 23 = .ok (.aload_n 0, 1) := by decide +kernel
theorem dX13_outType_24 : decode cX13_outType 24 = .ok (.ldc 51, 2) := by decide +kernel
theorem dX13_outType_26 : decode cX13_outType 26 = .ok (.invokevirtual 47, 3) := by decide +kernel
theorem dX13_outType_29 : decode cX13_outType 29 = .ok (.goto 8, 3) := by decide +kernel
theorem dX13_outType_32 : decode cX13_outType 32 = .ok (.aload_n 0, 1) := by decide +kernel
theorem dX13_outType_33 : decode cX13_outType 33 = .ok (.lload_n 1, 1) := by decide +kernel
theorem dX13_outType_34 : decode cX13_outType 34 = .ok (.invokevirtual 53, 3) := by decide +kernel
theorem dX13_outType_37 : decode cX13_outType 37 = .ok (.return_, 1) := by decide +kernel
theorem dX13_feed_0 : decode cX13_feed 0 = .ok (.aload_n 0, 1) := by decide +kernel
theorem dX13_feed_1 : decode cX13_feed 1 = .ok (.getfield 57, 3) := by decide +kernel
theorem dX13_feed_4 : decode cX13_feed 4 = .ok (.bipush 20, 2) := by decide +kernel
theorem dX13_feed_6 : decode cX13_feed 6 = .ok (.iadd, 1) := by decide +kernel
theorem dX13_feed_7 : decode cX13_feed 7 = .ok (.sipush 4000, 3) := by decide +kernel
theorem dX13_feed_10 : decode cX13_feed 10 = .ok (.if_icmp .le 6, 3) := by decide +kernel
theorem dX13_feed_13 : decode cX13_feed 13 = .ok (.bipush (-3), 2) := by decide +kernel
theorem dX13_feed_15 : decode cX13_feed 15 = .ok (.ireturn, 1) := by decide +kernel
theorem dX13_feed_16 : decode cX13_feed 16 = .ok (.aload_n 0, 1) := by decide +kernel
theorem dX13_feed_17 : decode cX13_feed 17 = .ok (.iload_n 1, 1) := by decide +kernel
theorem dX13_feed_18 : decode cX13_feed 18 = .ok (.invokevirtual 60, 3) := by decide +kernel
theorem dX13_feed_21 : decode cX13_feed 21 = .ok (.aload_n 0, 1) := by decide +kernel
theorem dX13_feed_22 : decode cX13_feed 22 = .ok (.iload_n 2, 1) := by decide +kernel
theorem dX13_feed_23 : decode cX13_feed 23 = .ok (.invokevirtual 60, 3) := by decide +kernel
theorem dX13_feed_26 : decode cX13_feed 26 = .ok (.aload_n 0, 1) := by decide +kernel
theorem dX13_feed_27 : decode cX13_feed 27 = .ok (.iload_n 3, 1) := by decide +kernel
theorem dX13_feed_28 : decode cX13_feed 28 = .ok (.invokevirtual 60, 3) := by decide +kernel
theorem dX13_feed_31 : decode cX13_feed 31 = .ok (.aload_n 0, 1) := by decide +kernel
theorem dX13_feed_32 : decode cX13_feed 32 = .ok (.iload 4, 2) := by decide +kernel
theorem dX13_feed_34 : decode cX13_feed 34 = .ok (.invokevirtual 60, 3) := by decide +kernel
theorem dX13_feed_37 : decode cX13_feed 37 = .ok (.aload_n 0, 1) := by decide +kernel
theorem dX13_feed_38 : decode cX13_feed 38 = .ok (.iload 5, 2) := by decide +kernel
theorem dX13_feed_40 : decode cX13_feed 40 = .ok (.invokevirtual 60, 3) := by decide +kernel
theorem dX13_feed_43 : decode cX13_feed 43 = .ok (.aload_n 0, 1) := by decide +kernel
theorem dX13_feed_44 : decode cX13_feed 44 = .ok (.getfield 57, 3) := by decide +kernel
theorem dX13_feed_47 : decode cX13_feed 47 = .ok (.ireturn, 1) := by decide +kernel
theorem dX13_four_0 : decode cX13_four 0 = .ok (.bipush 24, 2) := by decide +kernel
theorem dX13_four_2 : decode cX13_four 2 = .ok (.istore_n 2, 1) := by decide +kernel
theorem dX13_four_3 : decode cX13_four 3 = .ok (.iload_n 2, 1) := by decide +kernel
theorem dX13_four_4 : decode cX13_four 4 = .ok (.ifCond .lt 35, 3) := by decide +kernel
theorem dX13_four_7 : decode cX13_four 7 = .ok (.aload_n 0, 1) := by decide +kernel
theorem dX13_four_8 : decode cX13_four 8 = .ok (.getfield 63, 3) := by decide +kernel
theorem dX13_four_11 : decode cX13_four 11 = .ok (.aload_n 0, 1) := by decide +kernel
theorem dX13_four_12 : decode cX13_four 12 = .ok (.getfield 57, 3) := by decide +kernel
theorem dX13_four_15 : decode cX13_four 15 = .ok (.iload_n 1, 1) := by decide +kernel
theorem dX13_four_16 : decode cX13_four 16 = .ok (.iload_n 2, 1) := by decide +kernel
theorem dX13_four_17 : decode cX13_four 17 = .ok (.iushr, 1) := by decide +kernel
theorem dX13_four_18 : decode cX13_four 18 = .ok (.sipush 255, 3) := by decide +kernel
theorem dX13_four_21 : decode cX13_four 21 = .ok (.iand, 1) := by decide +kernel
theorem dX13_four_22 : decode cX13_four 22 = .ok (.iastore, 1) := by decide +kernel
theorem dX13_four_23 : decode cX13_four 23 = .ok (.aload_n 0, 1) := by decide +kernel
theorem dX13_four_24 : decode cX13_four 24 = .ok (.dup, 1) := by decide +kernel
theorem dX13_four_25 : decode cX13_four 25 = .ok (.getfield 57, 3) := by decide +kernel
theorem dX13_four_28 : decode cX13_four 28 = .ok (.iconst 1, 1) := by decide +kernel
theorem dX13_four_29 : decode cX13_four 29 = .ok (.iadd, 1) := by decide +kernel
theorem dX13_four_30 : decode cX13_four 30 = .ok (.putfield 57, 3) := by decide +kernel

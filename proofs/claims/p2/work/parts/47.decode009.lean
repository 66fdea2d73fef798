theorem dX9_scanAll_23 : decode cX9_scanAll 23 = .ok (.istore 4, 2) := by decide +kernel
theorem dX9_scanAll_25 : decode cX9_scanAll 25 = .ok (.iload 4, 2) := by decide +kernel
theorem dX9_scanAll_27 : decode cX9_scanAll 27 = .ok (.sipush 702, 3) := by decide +kernel
theorem dX9_scanAll_30 : decode cX9_scanAll 30 = .ok (.if_icmp .ge 19, 3) := by decide +kernel
theorem dX9_scanAll_33 : decode cX9_scanAll 33 = .ok (.iload_n 3, 1) := by decide +kernel
theorem dX9_scanAll_34 : decode cX9_scanAll 34 = .ok (.ifCond .lt 15, 3) := by decide +kernel
theorem dX9_scanAll_37 : decode cX9_scanAll 37 = .ok (.aload_n 0, 1) := by decide +kernel
theorem dX9_scanAll_38 : decode cX9_scanAll 38 = .ok (.iload_n 3, 1) := by decide +kernel
theorem dX9_scanAll_39 : decode cX9_scanAll 39 = .ok (.invokevirtual 117, 3) := by decide +kernel
theorem dX9_scanAll_42 : decode cX9_scanAll 42 = .ok (.istore_n 3, 1) := by decide +kernel
theorem dX9_scanAll_43 : decode cX9_scanAll 43 = .ok (.iinc 4 1, 3) := by decide +kernel
theorem dX9_scanAll_46 : decode cX9_scanAll 46 = .ok (.goto (-21), 3) := by decide +kernel
theorem dX9_scanAll_49 : decode cX9_scanAll 49 = .ok (.aload_n 0, 1) := by decide +kernel
theorem dX9_scanAll_50 : decode cX9_scanAll 50 = .ok (.getfield 15, 3) := by decide +kernel
theorem dX9_scanAll_53 : decode cX9_scanAll 53 = .ok (.aload_n 0, 1) := by decide +kernel
theorem dX9_scanAll_54 : decode cX9_scanAll 54 = .ok (.getfield 111, 3) := by decide +kernel
theorem dX9_scanAll_57 : decode cX9_scanAll 57 = .ok (.iconst 0, 1) := by decide +kernel
theorem dX9_scanAll_58 : decode cX9_scanAll 58 = .ok (.iastore, 1) := by decide +kernel
theorem dX9_scanAll_59 : decode cX9_scanAll 59 = .ok (.aload_n 0, 1) := by decide +kernel
theorem dX9_scanAll_60 : decode cX9_scanAll 60 = .ok (.getfield 19, 3) := by decide +kernel
theorem dX9_scanAll_63 : decode cX9_scanAll 63 = .ok (.aload_n 0, 1) := by decide +kernel
theorem dX9_scanAll_64 : decode cX9_scanAll 64 = .ok (.getfield 111, 3) := by decide +kernel
theorem dX9_scanAll_67 : decode cX9_scanAll 67 = .ok (.aload_n 0, 1) := by decide +kernel
theorem dX9_scanAll_68 : decode cX9_scanAll 68 = .ok (.getfield 109, 3) := by decide +kernel
theorem dX9_scanAll_71 : decode cX9_scanAll 71 = .ok (.iastore, 1) := by decide +kernel
theorem dX9_scanAll_72 : decode cX9_scanAll 72 = .ok (.aload_n 0, 1) := by decide +kernel
theorem dX9_scanAll_73 : decode cX9_scanAll 73 = .ok (.getfield 22, 3) := by decide +kernel
theorem dX9_scanAll_76 : decode cX9_scanAll 76 = .ok (.aload_n 0, 1) := by decide +kernel
theorem dX9_scanAll_77 : decode cX9_scanAll 77 = .ok (.getfield 111, 3) := by decide +kernel
theorem dX9_scanAll_80 : decode cX9_scanAll 80 = .ok (.aload_n 0, 1) := by decide +kernel
theorem dX9_scanAll_81 : decode cX9_scanAll 81 = .ok (.getfield 109, 3) := by decide +kernel
theorem dX9_scanAll_84 : decode cX9_scanAll 84 = .ok (.iastore, 1) := by decide +kernel
theorem dX9_scanAll_85 : decode cX9_scanAll 85 = .ok (.return_, 1) := by decide +kernel
theorem dX9_isCall_0 : decode cX9_isCall 0 = .ok (.aload_n 0, 1) := by decide +kernel
theorem dX9_isCall_1 : decode cX9_isCall 1 = .ok (.aload_n 1, 1) := by decide +kernel
theorem dX9_isCall_2 : decode cX9_isCall 2 = .ok (.iload_n 2, 1) := by decide +kernel
theorem dX9_isCall_3 : decode cX9_isCall 3 = .ok (.invokevirtual 70, 3) := by decide +kernel
theorem dX9_isCall_6 : decode cX9_isCall 6 = .ok (.aload_n 0, 1) := by decide +kernel
theorem dX9_isCall_7 : decode cX9_isCall 7 = .ok (.getfield 111, 3) := by decide +kernel
theorem dX9_isCall_10 : decode cX9_isCall 10 = .ok (.iconst 3, 1) := by decide +kernel
theorem dX9_isCall_11 : decode cX9_isCall 11 = .ok (.if_icmp .ne 88, 3) := by decide +kernel
theorem dX9_isCall_14 : decode cX9_isCall 14 = .ok (.aload_n 0, 1) := by decide +kernel
theorem dX9_isCall_15 : decode cX9_isCall 15 = .ok (.getfield 15, 3) := by decide +kernel
theorem dX9_isCall_18 : decode cX9_isCall 18 = .ok (.iconst 0, 1) := by decide +kernel
theorem dX9_isCall_19 : decode cX9_isCall 19 = .ok (.iaload, 1) := by decide +kernel
theorem dX9_isCall_20 : decode cX9_isCall 20 = .ok (.iconst 2, 1) := by decide +kernel
theorem dX9_isCall_21 : decode cX9_isCall 21 = .ok (.if_icmp .ne 78, 3) := by decide +kernel
theorem dX9_isCall_24 : decode cX9_isCall 24 = .ok (.aload_n 0, 1) := by decide +kernel
theorem dX9_isCall_25 : decode cX9_isCall 25 = .ok (.getfield 15, 3) := by decide +kernel
theorem dX9_isCall_28 : decode cX9_isCall 28 = .ok (.iconst 1, 1) := by decide +kernel
theorem dX9_isCall_29 : decode cX9_isCall 29 = .ok (.iaload, 1) := by decide +kernel
theorem dX9_isCall_30 : decode cX9_isCall 30 = .ok (.sipush 146, 3) := by decide +kernel
theorem dX9_isCall_33 : decode cX9_isCall 33 = .ok (.if_icmp .ne 66, 3) := by decide +kernel
theorem dX9_isCall_36 : decode cX9_isCall 36 = .ok (.aload_n 0, 1) := by decide +kernel
theorem dX9_isCall_37 : decode cX9_isCall 37 = .ok (.getfield 15, 3) := by decide +kernel
theorem dX9_isCall_40 : decode cX9_isCall 40 = .ok (.iconst 2, 1) := by decide +kernel
theorem dX9_isCall_41 : decode cX9_isCall 41 = .ok (.iaload, 1) := by decide +kernel
theorem dX9_isCall_42 : decode cX9_isCall 42 = .ok (.iconst 3, 1) := by decide +kernel
theorem dX9_isCall_43 : decode cX9_isCall 43 = .ok (.if_icmp .ne 56, 3) := by decide +kernel
theorem dX9_isCall_46 : decode cX9_isCall 46 = .ok (.aload_n 0, 1) := by decide +kernel
theorem dX9_isCall_47 : decode cX9_isCall 47 = .ok (.getfield 19, 3) := by decide +kernel
theorem dX9_isCall_50 : decode cX9_isCall 50 = .ok (.iconst 0, 1) := by decide +kernel
theorem dX9_isCall_51 : decode cX9_isCall 51 = .ok (.iaload, 1) := by decide +kernel
theorem dX9_isCall_52 : decode cX9_isCall 52 = .ok (.ifCond .ne 47, 3) := by decide +kernel
theorem dX9_isCall_55 : decode cX9_isCall 55 = .ok (.aload_n 0, 1) := by decide +kernel
theorem dX9_isCall_56 : decode cX9_isCall 56 = .ok (.getfield 19, 3) := by decide +kernel
theorem dX9_isCall_59 : decode cX9_isCall 59 = .ok (.iconst 1, 1) := by decide +kernel
theorem dX9_isCall_60 : decode cX9_isCall 60 = .ok (.iaload, 1) := by decide +kernel
theorem dX9_isCall_61 : decode cX9_isCall 61 = .ok (.aload_n 0, 1) := by decide +kernel
theorem dX9_isCall_62 : decode cX9_isCall 62 = .ok (.getfield 22, 3) := by decide +kernel
theorem dX9_isCall_65 : decode cX9_isCall 65 = .ok (.iconst 0, 1) := by decide +kernel
theorem dX9_isCall_66 : decode cX9_isCall 66 = .ok (.iaload, 1) := by decide +kernel
theorem dX9_isCall_67 : decode cX9_isCall 67 = .ok (.if_icmp .ne 32, 3) := by decide +kernel
theorem dX9_isCall_70 : decode cX9_isCall 70 = .ok (.aload_n 0, 1) := by decide +kernel
theorem dX9_isCall_71 : decode cX9_isCall 71 = .ok (.getfield 19, 3) := by decide +kernel
theorem dX9_isCall_74 : decode cX9_isCall 74 = .ok (.iconst 2, 1) := by decide +kernel
theorem dX9_isCall_75 : decode cX9_isCall 75 = .ok (.iaload, 1) := by decide +kernel
theorem dX9_isCall_76 : decode cX9_isCall 76 = .ok (.aload_n 0, 1) := by decide +kernel
theorem dX9_isCall_77 : decode cX9_isCall 77 = .ok (.getfield 22, 3) := by decide +kernel
theorem dX9_isCall_80 : decode cX9_isCall 80 = .ok (.iconst 1, 1) := by decide +kernel
theorem dX9_isCall_81 : decode cX9_isCall 81 = .ok (.iaload, 1) := by decide +kernel
theorem dX9_isCall_82 : decode cX9_isCall 82 = .ok (.if_icmp .ne 17, 3) := by decide +kernel
theorem dX9_isCall_85 : decode cX9_isCall 85 = .ok (.aload_n 0, 1) := by decide +kernel
theorem dX9_isCall_86 : decode cX9_isCall 86 = .ok (.getfield 22, 3) := by decide +kernel
theorem dX9_isCall_89 : decode cX9_isCall 89 = .ok (.iconst 2, 1) := by decide +kernel
theorem dX9_isCall_90 : decode cX9_isCall 90 = .ok (.iaload, 1) := by decide +kernel
theorem dX9_isCall_91 : decode cX9_isCall 91 = .ok (.iload_n 2, 1) := by decide +kernel
theorem dX9_isCall_92 : decode cX9_isCall 92 = .ok (.if_icmp .ne 7, 3) := by decide +kernel
theorem dX9_isCall_95 : decode cX9_isCall 95 = .ok (.iconst 1, 1) := by decide +kernel
theorem dX9_isCall_96 : decode cX9_isCall 96 = .ok (.goto 4, 3) := by decide +kernel
theorem dX9_isCall_99 : decode cX9_isCall 99 = .ok (.iconst 0, 1) := by decide +kernel
theorem dX9_isCall_100 : decode cX9_isCall 100 = .ok (.ireturn, 1) := by decide +kernel
theorem dX9_keep_0 : decode cX9_keep 0 = .ok (.aload_n 0, 1) := by decide +kernel
theorem dX9_keep_1 : decode cX9_keep 1 = .ok (.getfield 105, 3) := by decide +kernel
theorem dX9_keep_4 : decode cX9_keep 4 = .ok (.iconst 0, 1) := by decide +kernel
theorem dX9_keep_5 : decode cX9_keep 5 = .ok (.aload_n 0, 1) := by decide +kernel
theorem dX9_keep_6 : decode cX9_keep 6 = .ok (.getfield 51, 3) := by decide +kernel
theorem dX9_keep_9 : decode cX9_keep 9 = .ok (.getfield 121, 3) := by decide +kernel
theorem dX9_keep_12 : decode cX9_keep 12 = .ok (.iconst 0, 1) := by decide +kernel
theorem dX9_keep_13 : decode cX9_keep 13 = .ok (.aload_n 0, 1) := by decide +kernel
theorem dX9_keep_14 : decode cX9_keep 14 = .ok (.getfield 109, 3) := by decide +kernel
theorem dX9_keep_17 : decode cX9_keep 17 = .ok (.aload_n 0, 1) := by decide +kernel
theorem dX9_keep_18 : decode cX9_keep 18 = .ok (.getfield 51, 3) := by decide +kernel
theorem dX9_keep_21 : decode cX9_keep 21 = .ok (.getfield 121, 3) := by decide +kernel
theorem dX9_keep_24 : decode cX9_keep 24 = .ok (.arraylength, 1) := by decide +kernel
theorem dX9_keep_25 : decode cX9_keep 25 = .ok (.invokestatic 122, 3) := by decide +kernel
theorem dX9_keep_28 : decode cX9_keep 28 = .ok (.invokestatic 128, 3) := by decide +kernel
theorem dX9_keep_31 : decode cX9_keep 31 = .ok (.aload_n 0, 1) := by decide +kernel
theorem dX9_keep_32 : decode cX9_keep 32 = .ok (.getfield 51, 3) := by decide +kernel
theorem dX9_keep_35 : decode cX9_keep 35 = .ok (.aload_n 0, 1) := by decide +kernel
theorem dX9_keep_36 : decode cX9_keep 36 = .ok (.getfield 109, 3) := by decide +kernel
theorem dX9_keep_39 : decode cX9_keep 39 = .ok (.putfield 134, 3) := by decide +kernel
theorem dX9_keep_42 : decode cX9_keep 42 = .ok (.aload_n 0, 1) := by decide +kernel
theorem dX9_keep_43 : decode cX9_keep 43 = .ok (.getfield 19, 3) := by decide +kernel
theorem dX9_keep_46 : decode cX9_keep 46 = .ok (.iconst 0, 1) := by decide +kernel
theorem dX9_keep_47 : decode cX9_keep 47 = .ok (.aload_n 0, 1) := by decide +kernel
theorem dX9_keep_48 : decode cX9_keep 48 = .ok (.getfield 51, 3) := by decide +kernel
theorem dX9_keep_51 : decode cX9_keep 51 = .ok (.getfield 135, 3) := by decide +kernel
theorem dX9_keep_54 : decode cX9_keep 54 = .ok (.iconst 0, 1) := by decide +kernel
theorem dX9_keep_55 : decode cX9_keep 55 = .ok (.aload_n 0, 1) := by decide +kernel
theorem dX9_keep_56 : decode cX9_keep 56 = .ok (.getfield 111, 3) := by decide +kernel
theorem dX9_keep_59 : decode cX9_keep 59 = .ok (.aload_n 0, 1) := by decide +kernel
theorem dX9_keep_60 : decode cX9_keep 60 = .ok (.getfield 51, 3) := by decide +kernel
theorem dX9_keep_63 : decode cX9_keep 63 = .ok (.getfield 135, 3) := by decide +kernel
theorem dX9_keep_66 : decode cX9_keep 66 = .ok (.arraylength, 1) := by decide +kernel
theorem dX9_keep_67 : decode cX9_keep 67 = .ok (.invokestatic 122, 3) := by decide +kernel
theorem dX9_keep_70 : decode cX9_keep 70 = .ok (.invokestatic 128, 3) := by decide +kernel
theorem dX9_keep_73 : decode cX9_keep 73 = .ok (.aload_n 0, 1) := by decide +kernel
theorem dX9_keep_74 : decode cX9_keep 74 = .ok (.getfield 22, 3) := by decide +kernel
theorem dX9_keep_77 : decode cX9_keep 77 = .ok (.iconst 0, 1) := by decide +kernel
theorem dX9_keep_78 : decode cX9_keep 78 = .ok (.aload_n 0, 1) := by decide +kernel
theorem dX9_keep_79 : decode cX9_keep 79 = .ok (.getfield 51, 3) := by decide +kernel
theorem dX9_keep_82 : decode cX9_keep 82 = .ok (.getfield 136, 3) := by decide +kernel
theorem dX9_keep_85 : decode cX9_keep 85 = .ok (.iconst 0, 1) := by decide +kernel
theorem dX9_keep_86 : decode cX9_keep 86 = .ok (.aload_n 0, 1) := by decide +kernel
theorem dX9_keep_87 : decode cX9_keep 87 = .ok (.getfield 111, 3) := by decide +kernel
theorem dX9_keep_90 : decode cX9_keep 90 = .ok (.aload_n 0, 1) := by decide +kernel
theorem dX9_keep_91 : decode cX9_keep 91 = .ok (.getfield 51, 3) := by decide +kernel
theorem dX9_keep_94 : decode cX9_keep 94 = .ok (.getfield 136, 3) := by decide +kernel
theorem dX9_keep_97 : decode cX9_keep 97 = .ok (.arraylength, 1) := by decide +kernel
theorem dX9_keep_98 : decode cX9_keep 98 = .ok (.invokestatic 122, 3) := by decide +kernel
theorem dX9_keep_101 : decode cX9_keep 101 = .ok (.invokestatic 128, 3) := by decide +kernel
theorem dX9_keep_104 : decode cX9_keep 104 = .ok (.return_, 1) := by decide +kernel
theorem dX9_scan_0 : decode cX9_scan 0 = .ok (.iload_n 1, 1) := by decide +kernel
theorem dX9_scan_1 : decode cX9_scan 1 = .ok (.istore_n 2, 1) := by decide +kernel
theorem dX9_scan_2 : decode cX9_scan 2 = .ok (.iload_n 2, 1) := by decide +kernel
theorem dX9_scan_3 : decode cX9_scan 3 = .ok (.aload_n 0, 1) := by decide +kernel
theorem dX9_scan_4 : decode cX9_scan 4 = .ok (.getfield 109, 3) := by decide +kernel
theorem dX9_scan_7 : decode cX9_scan 7 = .ok (.if_icmp .ge 31, 3) := by decide +kernel
theorem dX9_scan_10 : decode cX9_scan 10 = .ok (.aload_n 0, 1) := by decide +kernel
theorem dX9_scan_11 : decode cX9_scan 11 = .ok (.getfield 105, 3) := by decide +kernel
theorem dX9_scan_14 : decode cX9_scan 14 = .ok (.iload_n 2, 1) := by decide +kernel
theorem dX9_scan_15 : decode cX9_scan 15 = .ok (.baload, 1) := by decide +kernel
theorem dX9_scan_16 : decode cX9_scan 16 = .ok (.bipush 10, 2) := by decide +kernel
theorem dX9_scan_18 : decode cX9_scan 18 = .ok (.if_icmp .eq 14, 3) := by decide +kernel
theorem dX9_scan_21 : decode cX9_scan 21 = .ok (.aload_n 0, 1) := by decide +kernel
theorem dX9_scan_22 : decode cX9_scan 22 = .ok (.getfield 105, 3) := by decide +kernel
theorem dX9_scan_25 : decode cX9_scan 25 = .ok (.iload_n 2, 1) := by decide +kernel
theorem dX9_scan_26 : decode cX9_scan 26 = .ok (.baload, 1) := by decide +kernel
theorem dX9_scan_27 : decode cX9_scan 27 = .ok (.bipush 32, 2) := by decide +kernel
theorem dX9_scan_29 : decode cX9_scan 29 = .ok (.if_icmp .ne 9, 3) := by decide +kernel
theorem dX9_scan_32 : decode cX9_scan 32 = .ok (.iinc 2 1, 3) := by decide +kernel
theorem dX9_scan_35 : decode cX9_scan 35 = .ok (.goto (-33), 3) := by decide +kernel
theorem dX9_scan_38 : decode cX9_scan 38 = .ok (.iload_n 2, 1) := by decide +kernel
theorem dX9_scan_39 : decode cX9_scan 39 = .ok (.aload_n 0, 1) := by decide +kernel
theorem dX9_scan_40 : decode cX9_scan 40 = .ok (.getfield 109, 3) := by decide +kernel
theorem dX9_scan_43 : decode cX9_scan 43 = .ok (.if_icmp .lt 6, 3) := by decide +kernel
theorem dX9_scan_46 : decode cX9_scan 46 = .ok (.bipush (-2), 2) := by decide +kernel
theorem dX9_scan_48 : decode cX9_scan 48 = .ok (.ireturn, 1) := by decide +kernel
theorem dX9_scan_49 : decode cX9_scan 49 = .ok (.iload_n 2, 1) := by decide +kernel
theorem dX9_scan_50 : decode cX9_scan 50 = .ok (.iconst 1, 1) := by decide +kernel
theorem dX9_scan_51 : decode cX9_scan 51 = .ok (.iadd, 1) := by decide +kernel
theorem dX9_scan_52 : decode cX9_scan 52 = .ok (.istore_n 3, 1) := by decide +kernel
theorem dX9_scan_53 : decode cX9_scan 53 = .ok (.aload_n 0, 1) := by decide +kernel
theorem dX9_scan_54 : decode cX9_scan 54 = .ok (.getfield 105, 3) := by decide +kernel
theorem dX9_scan_57 : decode cX9_scan 57 = .ok (.iload_n 2, 1) := by decide +kernel
theorem dX9_scan_58 : decode cX9_scan 58 = .ok (.baload, 1) := by decide +kernel
theorem dX9_scan_59 : decode cX9_scan 59 = .ok (.istore 4, 2) := by decide +kernel
theorem dX9_scan_61 : decode cX9_scan 61 = .ok (.iload 4, 2) := by decide +kernel
theorem dX9_scan_63 : decode cX9_scan 63 = .ok (.bipush 97, 2) := by decide +kernel
theorem dX9_scan_65 : decode cX9_scan 65 = .ok (.if_icmp .lt 19, 3) := by decide +kernel
theorem dX9_scan_68 : decode cX9_scan 68 = .ok (.iload 4, 2) := by decide +kernel
theorem dX9_scan_70 : decode cX9_scan 70 = .ok (.bipush 122, 2) := by decide +kernel
theorem dX9_scan_72 : decode cX9_scan 72 = .ok (.if_icmp .gt 12, 3) := by decide +kernel
theorem dX9_scan_75 : decode cX9_scan 75 = .ok (.aload_n 0, 1) := by decide +kernel
theorem dX9_scan_76 : decode cX9_scan 76 = .ok (.iload_n 2, 1) := by decide +kernel
theorem dX9_scan_77 : decode cX9_scan 77 = .ok (.invokevirtual 137, 3) := by decide +kernel
theorem dX9_scan_80 : decode cX9_scan 80 = .ok (.istore_n 3, 1) := by decide +kernel
theorem dX9_scan_81 : decode cX9_scan 81 = .ok (.goto 114, 3) := by decide +kernel
theorem dX9_scan_84 : decode cX9_scan 84 = .ok (.iload 4, 2) := by decide +kernel
theorem dX9_scan_86 : decode cX9_scan 86 = .ok (.bipush 48, 2) := by decide +kernel
theorem dX9_scan_88 : decode cX9_scan 88 = .ok (.if_icmp .lt 19, 3) := by decide +kernel
theorem dX9_scan_91 : decode cX9_scan 91 = .ok (.iload 4, 2) := by decide +kernel
theorem dX9_scan_93 : decode cX9_scan 93 = .ok (.bipush 57, 2) := by decide +kernel
theorem dX9_scan_95 : decode cX9_scan 95 = .ok (.if_icmp .gt 12, 3) := by decide +kernel
theorem dX9_scan_98 : decode cX9_scan 98 = .ok (.aload_n 0, 1) := by decide +kernel
theorem dX9_scan_99 : decode cX9_scan 99 = .ok (.iload_n 2, 1) := by decide +kernel
theorem dX9_scan_100 : decode cX9_scan 100 = .ok (.invokevirtual 140, 3) := by decide +kernel
theorem dX9_scan_103 : decode cX9_scan 103 = .ok (.istore_n 3, 1) := by decide +kernel
theorem dX9_scan_104 : decode cX9_scan 104 = .ok (.goto 91, 3) := by decide +kernel
theorem dX9_scan_107 : decode cX9_scan 107 = .ok (.iload 4, 2) := by decide +kernel
theorem dX9_scan_109 : decode cX9_scan 109 = .ok (.bipush 61, 2) := by decide +kernel
theorem dX9_scan_111 : decode cX9_scan 111 = .ok (.if_icmp .ne 30, 3) := by decide +kernel
theorem dX9_scan_114 : decode cX9_scan 114 = .ok (.iload_n 2, 1) := by decide +kernel
theorem dX9_scan_115 : decode cX9_scan 115 = .ok (.iconst 1, 1) := by decide +kernel
theorem dX9_scan_116 : decode cX9_scan 116 = .ok (.iadd, 1) := by decide +kernel
theorem dX9_scan_117 : decode cX9_scan 117 = .ok (.aload_n 0, 1) := by decide +kernel
theorem dX9_scan_118 : decode cX9_scan 118 = .ok (.getfield 109, 3) := by decide +kernel
theorem dX9_scan_121 : decode cX9_scan 121 = .ok (.if_icmp .ge 20, 3) := by decide +kernel
theorem dX9_scan_124 : decode cX9_scan 124 = .ok (.aload_n 0, 1) := by decide +kernel
theorem dX9_scan_125 : decode cX9_scan 125 = .ok (.getfield 105, 3) := by decide +kernel
theorem dX9_scan_128 : decode cX9_scan 128 = .ok (.iload_n 2, 1) := by decide +kernel
theorem dX9_scan_129 : decode cX9_scan 129 = .ok (.iconst 1, 1) := by decide +kernel
theorem dX9_scan_130 : decode cX9_scan 130 = .ok (.iadd, 1) := by decide +kernel
theorem dX9_scan_131 : decode cX9_scan 131 = .ok (.baload, 1) := by decide +kernel
theorem dX9_scan_132 : decode cX9_scan 132 = .ok (.bipush 61, 2) := by decide +kernel
theorem dX9_scan_134 : decode cX9_scan 134 = .ok (.if_icmp .ne 7, 3) := by decide +kernel
theorem dX9_scan_137 : decode cX9_scan 137 = .ok (.iconst 1, 1) := by decide +kernel
theorem dX9_scan_138 : decode cX9_scan 138 = .ok (.goto 4, 3) := by decide +kernel
theorem dX9_scan_141 : decode cX9_scan 141 = .ok (.iconst 0, 1) := by decide +kernel
theorem dX9_scan_142 : decode cX9_scan 142 = .ok (.istore 5, 2) := by decide +kernel
theorem dX9_scan_144 : decode cX9_scan 144 = .ok (.iload 5, 2) := by decide +kernel
theorem dX9_scan_146 : decode cX9_scan 146 = .ok (.ifCond .eq 9, 3) := by decide +kernel
theorem dX9_scan_149 : decode cX9_scan 149 = .ok (.iload_n 2, 1) := by decide +kernel
theorem dX9_scan_150 : decode cX9_scan 150 = .ok (.iconst 2, 1) := by decide +kernel
theorem dX9_scan_151 : decode cX9_scan 151 = .ok (.iadd, 1) := by decide +kernel
theorem dX9_scan_152 : decode cX9_scan 152 = .ok (.goto 6, 3) := by decide +kernel
theorem dX9_scan_155 : decode cX9_scan 155 = .ok (.iload_n 2, 1) := by decide +kernel
theorem dX9_scan_156 : decode cX9_scan 156 = .ok (.iconst 1, 1) := by decide +kernel
theorem dX9_scan_157 : decode cX9_scan 157 = .ok (.iadd, 1) := by decide +kernel
theorem dX9_scan_158 : decode cX9_scan 158 = .ok (.istore_n 3, 1) := by decide +kernel
theorem dX9_scan_159 : decode cX9_scan 159 = .ok (.aload_n 0, 1) := by decide +kernel
theorem dX9_scan_160 : decode cX9_scan 160 = .ok (.getfield 15, 3) := by decide +kernel
theorem dX9_scan_163 : decode cX9_scan 163 = .ok (.aload_n 0, 1) := by decide +kernel
theorem dX9_scan_164 : decode cX9_scan 164 = .ok (.getfield 111, 3) := by decide +kernel
theorem dX9_scan_167 : decode cX9_scan 167 = .ok (.iload 5, 2) := by decide +kernel
theorem dX9_scan_169 : decode cX9_scan 169 = .ok (.ifCond .eq 8, 3) := by decide +kernel
theorem dX9_scan_172 : decode cX9_scan 172 = .ok (.bipush 99, 2) := by decide +kernel
theorem dX9_scan_174 : decode cX9_scan 174 = .ok (.goto 20, 3) := by decide +kernel
theorem dX9_scan_177 : decode cX9_scan 177 = .ok (.iload 4, 2) := by decide +kernel
theorem dX9_scan_179 : decode cX9_scan 179 = .ok (.invokestatic 143, 3) := by decide +kernel
theorem dX9_scan_182 : decode cX9_scan 182 = .ok (.ifCond .eq 11, 3) := by decide +kernel
theorem dX9_scan_185 : decode cX9_scan 185 = .ok (.bipush 100, 2) := by decide +kernel
theorem dX9_scan_187 : decode cX9_scan 187 = .ok (.iload 4, 2) := by decide +kernel
theorem dX9_scan_189 : decode cX9_scan 189 = .ok (.iadd, 1) := by decide +kernel
theorem dX9_scan_190 : decode cX9_scan 190 = .ok (.goto 4, 3) := by decide +kernel
theorem dX9_scan_193 : decode cX9_scan 193 = .ok (.iconst 1, 1) := by decide +kernel
theorem dX9_scan_194 : decode cX9_scan 194 = .ok (.iastore, 1) := by decide +kernel
theorem dX9_scan_195 : decode cX9_scan 195 = .ok (.aload_n 0, 1) := by decide +kernel
theorem dX9_scan_196 : decode cX9_scan 196 = .ok (.getfield 19, 3) := by decide +kernel
theorem dX9_scan_199 : decode cX9_scan 199 = .ok (.aload_n 0, 1) := by decide +kernel
theorem dX9_scan_200 : decode cX9_scan 200 = .ok (.getfield 111, 3) := by decide +kernel
theorem dX9_scan_203 : decode cX9_scan 203 = .ok (.iload_n 2, 1) := by decide +kernel
theorem dX9_scan_204 : decode cX9_scan 204 = .ok (.iastore, 1) := by decide +kernel
theorem dX9_scan_205 : decode cX9_scan 205 = .ok (.aload_n 0, 1) := by decide +kernel
theorem dX9_scan_206 : decode cX9_scan 206 = .ok (.getfield 22, 3) := by decide +kernel
theorem dX9_scan_209 : decode cX9_scan 209 = .ok (.aload_n 0, 1) := by decide +kernel
theorem dX9_scan_210 : decode cX9_scan 210 = .ok (.getfield 111, 3) := by decide +kernel
theorem dX9_scan_213 : decode cX9_scan 213 = .ok (.iload_n 3, 1) := by decide +kernel
theorem dX9_scan_214 : decode cX9_scan 214 = .ok (.iastore, 1) := by decide +kernel
theorem dX9_scan_215 : decode cX9_scan 215 = .ok (.aload_n 0, 1) := by decide +kernel
theorem dX9_scan_216 : decode cX9_scan 216 = .ok (.dup, 1) := by decide +kernel
theorem dX9_scan_217 : decode cX9_scan 217 = .ok (.getfield 111, 3) := by decide +kernel
theorem dX9_scan_220 : decode cX9_scan 220 = .ok (.iconst 1, 1) := by decide +kernel
theorem dX9_scan_221 : decode cX9_scan 221 = .ok (.iadd, 1) := by decide +kernel
theorem dX9_scan_222 : decode cX9_scan 222 = .ok (.putfield 111, 3) := by decide +kernel
theorem dX9_scan_225 : decode cX9_scan 225 = .ok (.aload_n 0, 1) := by decide +kernel
theorem dX9_scan_226 : decode cX9_scan 226 = .ok (.getfield 15, 3) := by decide +kernel
theorem dX9_scan_229 : decode cX9_scan 229 = .ok (.aload_n 0, 1) := by decide +kernel
theorem dX9_scan_230 : decode cX9_scan 230 = .ok (.getfield 111, 3) := by decide +kernel
theorem dX9_scan_233 : decode cX9_scan 233 = .ok (.iconst 1, 1) := by decide +kernel
theorem dX9_scan_234 : decode cX9_scan 234 = .ok (.isub, 1) := by decide +kernel
theorem dX9_scan_235 : decode cX9_scan 235 = .ok (.iaload, 1) := by decide +kernel
theorem dX9_scan_236 : decode cX9_scan 236 = .ok (.iconst 1, 1) := by decide +kernel
theorem dX9_scan_237 : decode cX9_scan 237 = .ok (.if_icmp .ne 8, 3) := by decide +kernel
theorem dX9_scan_240 : decode cX9_scan 240 = .ok (.bipush (-2), 2) := by decide +kernel
theorem dX9_scan_242 : decode cX9_scan 242 = .ok (.goto 4, 3) := by decide +kernel
theorem dX9_scan_245 : decode cX9_scan 245 = .ok (.iload_n 3, 1) := by decide +kernel
theorem dX9_scan_246 : decode cX9_scan 246 = .ok (.ireturn, 1) := by decide +kernel
theorem dX9_isSign_0 : decode cX9_isSign 0 = .ok (.iload_n 0, 1) := by decide +kernel
theorem dX9_isSign_1 : decode cX9_isSign 1 = .ok (.bipush 123, 2) := by decide +kernel
theorem dX9_isSign_3 : decode cX9_isSign 3 = .ok (.if_icmp .eq 69, 3) := by decide +kernel
theorem dX9_isSign_6 : decode cX9_isSign 6 = .ok (.iload_n 0, 1) := by decide +kernel
theorem dX9_isSign_7 : decode cX9_isSign 7 = .ok (.bipush 125, 2) := by decide +kernel
theorem dX9_isSign_9 : decode cX9_isSign 9 = .ok (.if_icmp .eq 63, 3) := by decide +kernel
theorem dX9_isSign_12 : decode cX9_isSign 12 = .ok (.iload_n 0, 1) := by decide +kernel
theorem dX9_isSign_13 : decode cX9_isSign 13 = .ok (.bipush 40, 2) := by decide +kernel
theorem dX9_isSign_15 : decode cX9_isSign 15 = .ok (.if_icmp .eq 57, 3) := by decide +kernel
theorem dX9_isSign_18 : decode cX9_isSign 18 = .ok (.iload_n 0, 1) := by decide +kernel
theorem dX9_isSign_19 : decode cX9_isSign 19 = .ok (.bipush 41, 2) := by decide +kernel
theorem dX9_isSign_21 : decode cX9_isSign 21 = .ok (.if_icmp .eq 51, 3) := by decide +kernel
theorem dX9_isSign_24 : decode cX9_isSign 24 = .ok (.iload_n 0, 1) := by decide +kernel
theorem dX9_isSign_25 : decode cX9_isSign 25 = .ok (.bipush 44, 2) := by decide +kernel
theorem dX9_isSign_27 : decode cX9_isSign 27 = .ok (.if_icmp .eq 45, 3) := by decide +kernel
theorem dX9_isSign_30 : decode cX9_isSign 30 = .ok (.iload_n 0, 1) := by decide +kernel
theorem dX9_isSign_31 : decode cX9_isSign 31 = .ok (.bipush 59, 2) := by decide +kernel
theorem dX9_isSign_33 : decode cX9_isSign 33 = .ok (.if_icmp .eq 39, 3) := by decide +kernel
theorem dX9_isSign_36 : decode cX9_isSign 36 = .ok (.iload_n 0, 1) := by decide +kernel
theorem dX9_isSign_37 : decode cX9_isSign 37 = .ok (.bipush 46, 2) := by decide +kernel
theorem dX9_isSign_39 : decode cX9_isSign 39 = .ok (.if_icmp .eq 33, 3) := by decide +kernel
theorem dX9_isSign_42 : decode cX9_isSign 42 = .ok (.iload_n 0, 1) := by decide +kernel
theorem dX9_isSign_43 : decode cX9_isSign 43 = .ok (.bipush 61, 2) := by decide +kernel
theorem dX9_isSign_45 : decode cX9_isSign 45 = .ok (.if_icmp .eq 27, 3) := by decide +kernel
theorem dX9_isSign_48 : decode cX9_isSign 48 = .ok (.iload_n 0, 1) := by decide +kernel
theorem dX9_isSign_49 : decode cX9_isSign 49 = .ok (.bipush 60, 2) := by decide +kernel
theorem dX9_isSign_51 : decode cX9_isSign 51 = .ok (.if_icmp .eq 21, 3) := by decide +kernel
theorem dX9_isSign_54 : decode cX9_isSign 54 = .ok (.iload_n 0, 1) := by decide +kernel
theorem dX9_isSign_55 : decode cX9_isSign 55 = .ok (.bipush 43, 2) := by decide +kernel
theorem dX9_isSign_57 : decode cX9_isSign 57 = .ok (.if_icmp .eq 15, 3) := by decide +kernel
theorem dX9_isSign_60 : decode cX9_isSign 60 = .ok (.iload_n 0, 1) := by decide +kernel
theorem dX9_isSign_61 : decode cX9_isSign 61 = .ok (.bipush 45, 2) := by decide +kernel
theorem dX9_isSign_63 : decode cX9_isSign 63 = .ok (.if_icmp .eq 9, 3) := by decide +kernel
theorem dX9_isSign_66 : decode cX9_isSign 66 = .ok (.iload_n 0, 1) := by decide +kernel
theorem dX9_isSign_67 : decode cX9_isSign 67 = .ok (.bipush 42, 2) := by decide +kernel
theorem dX9_isSign_69 : decode cX9_isSign 69 = .ok (.if_icmp .ne 7, 3) := by decide +kernel
theorem dX9_isSign_72 : decode cX9_isSign 72 = .ok (.iconst 1, 1) := by decide +kernel
theorem dX9_isSign_73 : decode cX9_isSign 73 = .ok (.goto 4, 3) := by decide +kernel
theorem dX9_isSign_76 : decode cX9_isSign 76 = .ok (.iconst 0, 1) := by decide +kernel
theorem dX9_isSign_77 : decode cX9_isSign 77 = .ok (.ireturn, 1) := by decide +kernel
theorem dX9_scanNumber_0 : decode cX9_scanNumber 0 = .ok (.iload_n 1, 1) := by decide +kernel
theorem dX9_scanNumber_1 : decode cX9_scanNumber 1 = .ok (.istore_n 2, 1) := by decide +kernel
theorem dX9_scanNumber_2 : decode cX9_scanNumber 2 = .ok (.lconst 0, 1) := by decide +kernel
theorem dX9_scanNumber_3 : decode cX9_scanNumber 3 = .ok (.lstore_n 3, 1) := by decide +kernel
theorem dX9_scanNumber_4 : decode cX9_scanNumber 4 = .ok (.iload_n 2, 1) := by decide +kernel
theorem dX9_scanNumber_5 : decode cX9_scanNumber 5 = .ok (.aload_n 0, 1) := by decide +kernel
theorem dX9_scanNumber_6 : decode cX9_scanNumber 6 = .ok (.getfield 109, 3) := by decide +kernel
theorem dX9_scanNumber_9 : decode cX9_scanNumber 9 = .ok (.if_icmp .ge 60, 3) := by decide +kernel
theorem dX9_scanNumber_12 : decode cX9_scanNumber 12 = .ok (.aload_n 0, 1) := by decide +kernel
theorem dX9_scanNumber_13 : decode cX9_scanNumber 13 = .ok (.getfield 105, 3) := by decide +kernel
theorem dX9_scanNumber_16 : decode cX9_scanNumber 16 = .ok (.iload_n 2, 1) := by decide +kernel
theorem dX9_scanNumber_17 : decode cX9_scanNumber 17 = .ok (.baload, 1) := by decide +kernel
theorem dX9_scanNumber_18 : decode cX9_scanNumber 18 = .ok (.bipush 48, 2) := by decide +kernel
theorem dX9_scanNumber_20 : decode cX9_scanNumber 20 = .ok (.if_icmp .lt 49, 3) := by decide +kernel
theorem dX9_scanNumber_23 : decode cX9_scanNumber 23 = .ok (.aload_n 0, 1) := by decide +kernel
theorem dX9_scanNumber_24 : decode cX9_scanNumber 24 = .ok (.getfield 105, 3) := by decide +kernel
theorem dX9_scanNumber_27 : decode cX9_scanNumber 27 = .ok (.iload_n 2, 1) := by decide +kernel
theorem dX9_scanNumber_28 : decode cX9_scanNumber 28 = .ok (.baload, 1) := by decide +kernel
theorem dX9_scanNumber_29 : decode cX9_scanNumber 29 = .ok (.bipush 57, 2) := by decide +kernel
theorem dX9_scanNumber_31 : decode cX9_scanNumber 31 = .ok (.if_icmp .gt 38, 3) := by decide +kernel
theorem dX9_scanNumber_34 : decode cX9_scanNumber 34 = .ok (.iload_n 2, 1) := by decide +kernel
theorem dX9_scanNumber_35 : decode cX9_scanNumber 35 = .ok (.iload_n 1, 1) := by decide +kernel
theorem dX9_scanNumber_36 : decode cX9_scanNumber 36 = .ok (.isub, 1) := by decide +kernel
theorem dX9_scanNumber_37 : decode cX9_scanNumber 37 = .ok (.bipush 9, 2) := by decide +kernel
theorem dX9_scanNumber_39 : decode cX9_scanNumber 39 = .ok (.if_icmp .ge 22, 3) := by decide +kernel
theorem dX9_scanNumber_42 : decode cX9_scanNumber 42 = .ok (.lload_n 3, 1) := by decide +kernel
theorem dX9_scanNumber_43 : decode cX9_scanNumber 43 = .ok (.ldc2_w 146, 3) := by decide +kernel
theorem dX9_scanNumber_46 : decode cX9_scanNumber 46 = .ok (.lmul, 1) := by decide +kernel
theorem dX9_scanNumber_47 : decode cX9_scanNumber 47 = .ok (.aload_n 0, 1) := by decide +kernel
theorem dX9_scanNumber_48 : decode cX9_scanNumber 48 = .ok (.getfield 105, 3) := by decide +kernel
theorem dX9_scanNumber_51 : decode cX9_scanNumber 51 = .ok (.iload_n 2, 1) := by decide +kernel
theorem dX9_scanNumber_52 : decode cX9_scanNumber 52 = .ok (.baload, 1) := by decide +kernel
theorem dX9_scanNumber_53 : decode cX9_scanNumber 53 = .ok (.bipush 48, 2) := by decide +kernel
theorem dX9_scanNumber_55 : decode cX9_scanNumber 55 = .ok (.isub, 1) := by decide +kernel
theorem dX9_scanNumber_56 : decode cX9_scanNumber 56 = .ok (.i2l, 1) := by decide +kernel
theorem dX9_scanNumber_57 : decode cX9_scanNumber 57 = .ok (.ladd, 1) := by decide +kernel
theorem dX9_scanNumber_58 : decode cX9_scanNumber 58 = .ok (.goto 4, 3) := by decide +kernel
theorem dX9_scanNumber_61 : decode cX9_scanNumber 61 = .ok (.lload_n 3, 1) := by decide +kernel
theorem dX9_scanNumber_62 : decode cX9_scanNumber 62 = .ok (.lstore_n 3, 1) := by decide +kernel
theorem dX9_scanNumber_63 : decode cX9_scanNumber 63 = .ok (.iinc 2 1, 3) := by decide +kernel
theorem dX9_scanNumber_66 : decode cX9_scanNumber 66 = .ok (.goto (-62), 3) := by decide +kernel
theorem dX9_scanNumber_69 : decode cX9_scanNumber 69 = .ok (.aload_n 0, 1) := by decide +kernel
theorem dX9_scanNumber_70 : decode cX9_scanNumber 70 = .ok (.getfield 15, 3) := by decide +kernel
theorem dX9_scanNumber_73 : decode cX9_scanNumber 73 = .ok (.aload_n 0, 1) := by decide +kernel
theorem dX9_scanNumber_74 : decode cX9_scanNumber 74 = .ok (.getfield 111, 3) := by decide +kernel
theorem dX9_scanNumber_77 : decode cX9_scanNumber 77 = .ok (.iload_n 2, 1) := by decide +kernel
theorem dX9_scanNumber_78 : decode cX9_scanNumber 78 = .ok (.iload_n 1, 1) := by decide +kernel
theorem dX9_scanNumber_79 : decode cX9_scanNumber 79 = .ok (.isub, 1) := by decide +kernel
theorem dX9_scanNumber_80 : decode cX9_scanNumber 80 = .ok (.bipush 9, 2) := by decide +kernel
theorem dX9_scanNumber_82 : decode cX9_scanNumber 82 = .ok (.if_icmp .le 7, 3) := by decide +kernel
theorem dX9_scanNumber_85 : decode cX9_scanNumber 85 = .ok (.iconst 1, 1) := by decide +kernel
theorem dX9_scanNumber_86 : decode cX9_scanNumber 86 = .ok (.goto 4, 3) := by decide +kernel
theorem dX9_scanNumber_89 : decode cX9_scanNumber 89 = .ok (.iconst 4, 1) := by decide +kernel
theorem dX9_scanNumber_90 : decode cX9_scanNumber 90 = .ok (.iastore, 1) := by decide +kernel
theorem dX9_scanNumber_91 : decode cX9_scanNumber 91 = .ok (.aload_n 0, 1) := by decide +kernel
theorem dX9_scanNumber_92 : decode cX9_scanNumber 92 = .ok (.getfield 25, 3) := by decide +kernel
theorem dX9_scanNumber_95 : decode cX9_scanNumber 95 = .ok (.aload_n 0, 1) := by decide +kernel
theorem dX9_scanNumber_96 : decode cX9_scanNumber 96 = .ok (.getfield 111, 3) := by decide +kernel
theorem dX9_scanNumber_99 : decode cX9_scanNumber 99 = .ok (.lload_n 3, 1) := by decide +kernel
theorem dX9_scanNumber_100 : decode cX9_scanNumber 100 = .ok (.lastore, 1) := by decide +kernel
theorem dX9_scanNumber_101 : decode cX9_scanNumber 101 = .ok (.iload_n 2, 1) := by decide +kernel
theorem dX9_scanNumber_102 : decode cX9_scanNumber 102 = .ok (.ireturn, 1) := by decide +kernel
theorem dX9_scanName_0 : decode cX9_scanName 0 = .ok (.iload_n 1, 1) := by decide +kernel
theorem dX9_scanName_1 : decode cX9_scanName 1 = .ok (.iconst 2, 1) := by decide +kernel
theorem dX9_scanName_2 : decode cX9_scanName 2 = .ok (.iadd, 1) := by decide +kernel
theorem dX9_scanName_3 : decode cX9_scanName 3 = .ok (.aload_n 0, 1) := by decide +kernel
theorem dX9_scanName_4 : decode cX9_scanName 4 = .ok (.getfield 109, 3) := by decide +kernel
theorem dX9_scanName_7 : decode cX9_scanName 7 = .ok (.if_icmp .ge 46, 3) := by decide +kernel
theorem dX9_scanName_10 : decode cX9_scanName 10 = .ok (.aload_n 0, 1) := by decide +kernel
theorem dX9_scanName_11 : decode cX9_scanName 11 = .ok (.getfield 105, 3) := by decide +kernel
theorem dX9_scanName_14 : decode cX9_scanName 14 = .ok (.iload_n 1, 1) := by decide +kernel
theorem dX9_scanName_15 : decode cX9_scanName 15 = .ok (.iconst 1, 1) := by decide +kernel
theorem dX9_scanName_16 : decode cX9_scanName 16 = .ok (.iadd, 1) := by decide +kernel
theorem dX9_scanName_17 : decode cX9_scanName 17 = .ok (.baload, 1) := by decide +kernel
theorem dX9_scanName_18 : decode cX9_scanName 18 = .ok (.bipush 46, 2) := by decide +kernel
theorem dX9_scanName_20 : decode cX9_scanName 20 = .ok (.if_icmp .ne 33, 3) := by decide +kernel
theorem dX9_scanName_23 : decode cX9_scanName 23 = .ok (.aload_n 0, 1) := by decide +kernel
theorem dX9_scanName_24 : decode cX9_scanName 24 = .ok (.getfield 105, 3) := by decide +kernel
theorem dX9_scanName_27 : decode cX9_scanName 27 = .ok (.iload_n 1, 1) := by decide +kernel
theorem dX9_scanName_28 : decode cX9_scanName 28 = .ok (.iconst 2, 1) := by decide +kernel
theorem dX9_scanName_29 : decode cX9_scanName 29 = .ok (.iadd, 1) := by decide +kernel
theorem dX9_scanName_30 : decode cX9_scanName 30 = .ok (.baload, 1) := by decide +kernel
theorem dX9_scanName_31 : decode cX9_scanName 31 = .ok (.bipush 65, 2) := by decide +kernel
theorem dX9_scanName_33 : decode cX9_scanName 33 = .ok (.if_icmp .lt 20, 3) := by decide +kernel
theorem dX9_scanName_36 : decode cX9_scanName 36 = .ok (.aload_n 0, 1) := by decide +kernel
theorem dX9_scanName_37 : decode cX9_scanName 37 = .ok (.getfield 105, 3) := by decide +kernel
theorem dX9_scanName_40 : decode cX9_scanName 40 = .ok (.iload_n 1, 1) := by decide +kernel
theorem dX9_scanName_41 : decode cX9_scanName 41 = .ok (.iconst 2, 1) := by decide +kernel
theorem dX9_scanName_42 : decode cX9_scanName 42 = .ok (.iadd, 1) := by decide +kernel
theorem dX9_scanName_43 : decode cX9_scanName 43 = .ok (.baload, 1) := by decide +kernel
theorem dX9_scanName_44 : decode cX9_scanName 44 = .ok (.bipush 90, 2) := by decide +kernel
theorem dX9_scanName_46 : decode cX9_scanName 46 = .ok (.if_icmp .gt 7, 3) := by decide +kernel
theorem dX9_scanName_49 : decode cX9_scanName 49 = .ok (.iconst 1, 1) := by decide +kernel
theorem dX9_scanName_50 : decode cX9_scanName 50 = .ok (.goto 4, 3) := by decide +kernel
theorem dX9_scanName_53 : decode cX9_scanName 53 = .ok (.iconst 0, 1) := by decide +kernel
theorem dX9_scanName_54 : decode cX9_scanName 54 = .ok (.istore_n 2, 1) := by decide +kernel
theorem dX9_scanName_55 : decode cX9_scanName 55 = .ok (.iload_n 2, 1) := by decide +kernel
theorem dX9_scanName_56 : decode cX9_scanName 56 = .ok (.ifCond .eq 35, 3) := by decide +kernel
theorem dX9_scanName_59 : decode cX9_scanName 59 = .ok (.aload_n 0, 1) := by decide +kernel
theorem dX9_scanName_60 : decode cX9_scanName 60 = .ok (.getfield 105, 3) := by decide +kernel
theorem dX9_scanName_63 : decode cX9_scanName 63 = .ok (.iload_n 1, 1) := by decide +kernel
theorem dX9_scanName_64 : decode cX9_scanName 64 = .ok (.baload, 1) := by decide +kernel
theorem dX9_scanName_65 : decode cX9_scanName 65 = .ok (.bipush 97, 2) := by decide +kernel
theorem dX9_scanName_67 : decode cX9_scanName 67 = .ok (.isub, 1) := by decide +kernel
theorem dX9_scanName_68 : decode cX9_scanName 68 = .ok (.i2l, 1) := by decide +kernel
theorem dX9_scanName_69 : decode cX9_scanName 69 = .ok (.bipush 59, 2) := by decide +kernel
theorem dX9_scanName_71 : decode cX9_scanName 71 = .ok (.lshl, 1) := by decide +kernel
theorem dX9_scanName_72 : decode cX9_scanName 72 = .ok (.aload_n 0, 1) := by decide +kernel
theorem dX9_scanName_73 : decode cX9_scanName 73 = .ok (.getfield 105, 3) := by decide +kernel
theorem dX9_scanName_76 : decode cX9_scanName 76 = .ok (.iload_n 1, 1) := by decide +kernel
theorem dX9_scanName_77 : decode cX9_scanName 77 = .ok (.iconst 2, 1) := by decide +kernel
theorem dX9_scanName_78 : decode cX9_scanName 78 = .ok (.iadd, 1) := by decide +kernel
theorem dX9_scanName_79 : decode cX9_scanName 79 = .ok (.baload, 1) := by decide +kernel
theorem dX9_scanName_80 : decode cX9_scanName 80 = .ok (.bipush 65, 2) := by decide +kernel
theorem dX9_scanName_82 : decode cX9_scanName 82 = .ok (.isub, 1) := by decide +kernel
theorem dX9_scanName_83 : decode cX9_scanName 83 = .ok (.i2l, 1) := by decide +kernel
theorem dX9_scanName_84 : decode cX9_scanName 84 = .ok (.bipush 54, 2) := by decide +kernel
theorem dX9_scanName_86 : decode cX9_scanName 86 = .ok (.lshl, 1) := by decide +kernel
theorem dX9_scanName_87 : decode cX9_scanName 87 = .ok (.lor, 1) := by decide +kernel
theorem dX9_scanName_88 : decode cX9_scanName 88 = .ok (.goto 16, 3) := by decide +kernel
theorem dX9_scanName_91 : decode cX9_scanName 91 = .ok (.aload_n 0, 1) := by decide +kernel
theorem dX9_scanName_92 : decode cX9_scanName 92 = .ok (.getfield 105, 3) := by decide +kernel
theorem dX9_scanName_95 : decode cX9_scanName 95 = .ok (.iload_n 1, 1) := by decide +kernel
theorem dX9_scanName_96 : decode cX9_scanName 96 = .ok (.baload, 1) := by decide +kernel
theorem dX9_scanName_97 : decode cX9_scanName 97 = .ok (.bipush 97, 2) := by decide +kernel
theorem dX9_scanName_99 : decode cX9_scanName 99 = .ok (.isub, 1) := by decide +kernel
theorem dX9_scanName_100 : decode cX9_scanName 100 = .ok (.i2l, 1) := by decide +kernel
theorem dX9_scanName_101 : decode cX9_scanName 101 = .ok (.bipush 54, 2) := by decide +kernel
theorem dX9_scanName_103 : decode cX9_scanName 103 = .ok (.lshl, 1) := by decide +kernel
theorem dX9_scanName_104 : decode cX9_scanName 104 = .ok (.lstore_n 3, 1) := by decide +kernel
theorem dX9_scanName_105 : decode cX9_scanName 105 = .ok (.iload_n 2, 1) := by decide +kernel
theorem dX9_scanName_106 : decode cX9_scanName 106 = .ok (.ifCond .eq 9, 3) := by decide +kernel
theorem dX9_scanName_109 : decode cX9_scanName 109 = .ok (.iload_n 1, 1) := by decide +kernel
theorem dX9_scanName_110 : decode cX9_scanName 110 = .ok (.iconst 3, 1) := by decide +kernel
theorem dX9_scanName_111 : decode cX9_scanName 111 = .ok (.iadd, 1) := by decide +kernel
theorem dX9_scanName_112 : decode cX9_scanName 112 = .ok (.goto 6, 3) := by decide +kernel
theorem dX9_scanName_115 : decode cX9_scanName 115 = .ok (.iload_n 1, 1) := by decide +kernel
theorem dX9_scanName_116 : decode cX9_scanName 116 = .ok (.iconst 1, 1) := by decide +kernel
theorem dX9_scanName_117 : decode cX9_scanName 117 = .ok (.iadd, 1) := by decide +kernel
theorem dX9_scanName_118 : decode cX9_scanName 118 = .ok (.istore 5, 2) := by decide +kernel
theorem dX9_scanName_120 : decode cX9_scanName 120 = .ok (.bipush 48, 2) := by decide +kernel
theorem dX9_scanName_122 : decode cX9_scanName 122 = .ok (.istore 6, 2) := by decide +kernel
theorem dX9_scanName_124 : decode cX9_scanName 124 = .ok (.iload 5, 2) := by decide +kernel
theorem dX9_scanName_126 : decode cX9_scanName 126 = .ok (.aload_n 0, 1) := by decide +kernel
theorem dX9_scanName_127 : decode cX9_scanName 127 = .ok (.getfield 109, 3) := by decide +kernel
theorem dX9_scanName_130 : decode cX9_scanName 130 = .ok (.if_icmp .ge 52, 3) := by decide +kernel
theorem dX9_scanName_133 : decode cX9_scanName 133 = .ok (.aload_n 0, 1) := by decide +kernel
theorem dX9_scanName_134 : decode cX9_scanName 134 = .ok (.getfield 105, 3) := by decide +kernel
theorem dX9_scanName_137 : decode cX9_scanName 137 = .ok (.iload 5, 2) := by decide +kernel
theorem dX9_scanName_139 : decode cX9_scanName 139 = .ok (.baload, 1) := by decide +kernel
theorem dX9_scanName_140 : decode cX9_scanName 140 = .ok (.invokestatic 47, 3) := by decide +kernel
theorem dX9_scanName_143 : decode cX9_scanName 143 = .ok (.lconst 0, 1) := by decide +kernel
theorem dX9_scanName_144 : decode cX9_scanName 144 = .ok (.lcmp, 1) := by decide +kernel
theorem dX9_scanName_145 : decode cX9_scanName 145 = .ok (.ifCond .le 37, 3) := by decide +kernel
theorem dX9_scanName_148 : decode cX9_scanName 148 = .ok (.lload_n 3, 1) := by decide +kernel
theorem dX9_scanName_149 : decode cX9_scanName 149 = .ok (.iload 6, 2) := by decide +kernel
theorem dX9_scanName_151 : decode cX9_scanName 151 = .ok (.ifCond .lt 19, 3) := by decide +kernel
theorem dX9_scanName_154 : decode cX9_scanName 154 = .ok (.aload_n 0, 1) := by decide +kernel
theorem dX9_scanName_155 : decode cX9_scanName 155 = .ok (.getfield 105, 3) := by decide +kernel
theorem dX9_scanName_158 : decode cX9_scanName 158 = .ok (.iload 5, 2) := by decide +kernel
theorem dX9_scanName_160 : decode cX9_scanName 160 = .ok (.baload, 1) := by decide +kernel
theorem dX9_scanName_161 : decode cX9_scanName 161 = .ok (.invokestatic 47, 3) := by decide +kernel
theorem dX9_scanName_164 : decode cX9_scanName 164 = .ok (.iload 6, 2) := by decide +kernel
theorem dX9_scanName_166 : decode cX9_scanName 166 = .ok (.lshl, 1) := by decide +kernel
theorem dX9_scanName_167 : decode cX9_scanName 167 = .ok (.goto 4, 3) := by decide +kernel
theorem dX9_scanName_170 : decode cX9_scanName 170 = .ok (.lconst 0, 1) := by decide +kernel
theorem dX9_scanName_171 : decode cX9_scanName 171 = .ok (.lor, 1) := by decide +kernel
theorem dX9_scanName_172 : decode cX9_scanName 172 = .ok (.lstore_n 3, 1) := by decide +kernel
theorem dX9_scanName_173 : decode cX9_scanName 173 = .ok (.iinc 6 (-6), 3) := by decide +kernel
theorem dX9_scanName_176 : decode cX9_scanName 176 = .ok (.iinc 5 1, 3) := by decide +kernel
theorem dX9_scanName_179 : decode cX9_scanName 179 = .ok (.goto (-55), 3) := by decide +kernel
theorem dX9_scanName_182 : decode cX9_scanName 182 = .ok (.aload_n 0, 1) := by decide +kernel
theorem dX9_scanName_183 : decode cX9_scanName 183 = .ok (.getfield 15, 3) := by decide +kernel
theorem dX9_scanName_186 : decode cX9_scanName 186 = .ok (.aload_n 0, 1) := by decide +kernel
theorem dX9_scanName_187 : decode cX9_scanName 187 = .ok (.getfield 111, 3) := by decide +kernel
theorem dX9_scanName_190 : decode cX9_scanName 190 = .ok (.iload 5, 2) := by decide +kernel
theorem dX9_scanName_192 : decode cX9_scanName 192 = .ok (.iload_n 1, 1) := by decide +kernel
theorem dX9_scanName_193 : decode cX9_scanName 193 = .ok (.isub, 1) := by decide +kernel
theorem dX9_scanName_194 : decode cX9_scanName 194 = .ok (.iload_n 2, 1) := by decide +kernel
theorem dX9_scanName_195 : decode cX9_scanName 195 = .ok (.ifCond .eq 8, 3) := by decide +kernel
theorem dX9_scanName_198 : decode cX9_scanName 198 = .ok (.bipush 11, 2) := by decide +kernel
theorem dX9_scanName_200 : decode cX9_scanName 200 = .ok (.goto 5, 3) := by decide +kernel
theorem dX9_scanName_203 : decode cX9_scanName 203 = .ok (.bipush 10, 2) := by decide +kernel
theorem dX9_scanName_205 : decode cX9_scanName 205 = .ok (.if_icmp .le 7, 3) := by decide +kernel
theorem dX9_scanName_208 : decode cX9_scanName 208 = .ok (.iconst 1, 1) := by decide +kernel
theorem dX9_scanName_209 : decode cX9_scanName 209 = .ok (.goto 12, 3) := by decide +kernel
theorem dX9_scanName_212 : decode cX9_scanName 212 = .ok (.iload_n 2, 1) := by decide +kernel
theorem dX9_scanName_213 : decode cX9_scanName 213 = .ok (.ifCond .eq 7, 3) := by decide +kernel
theorem dX9_scanName_216 : decode cX9_scanName 216 = .ok (.iconst 2, 1) := by decide +kernel
theorem dX9_scanName_217 : decode cX9_scanName 217 = .ok (.goto 4, 3) := by decide +kernel
theorem dX9_scanName_220 : decode cX9_scanName 220 = .ok (.iconst 3, 1) := by decide +kernel
theorem dX9_scanName_221 : decode cX9_scanName 221 = .ok (.iastore, 1) := by decide +kernel
theorem dX9_scanName_222 : decode cX9_scanName 222 = .ok (.aload_n 0, 1) := by decide +kernel
theorem dX9_scanName_223 : decode cX9_scanName 223 = .ok (.getfield 25, 3) := by decide +kernel
theorem dX9_scanName_226 : decode cX9_scanName 226 = .ok (.aload_n 0, 1) := by decide +kernel
theorem dX9_scanName_227 : decode cX9_scanName 227 = .ok (.getfield 111, 3) := by decide +kernel
theorem dX9_scanName_230 : decode cX9_scanName 230 = .ok (.lload_n 3, 1) := by decide +kernel
theorem dX9_scanName_231 : decode cX9_scanName 231 = .ok (.lastore, 1) := by decide +kernel
theorem dX9_scanName_232 : decode cX9_scanName 232 = .ok (.iconst 0, 1) := by decide +kernel
theorem dX9_scanName_233 : decode cX9_scanName 233 = .ok (.istore 7, 2) := by decide +kernel
theorem dX9_scanName_235 : decode cX9_scanName 235 = .ok (.iload 7, 2) := by decide +kernel
theorem dX9_scanName_237 : decode cX9_scanName 237 = .ok (.bipush 30, 2) := by decide +kernel
theorem dX9_scanName_239 : decode cX9_scanName 239 = .ok (.if_icmp .ge 48, 3) := by decide +kernel
theorem dX9_scanName_242 : decode cX9_scanName 242 = .ok (.aload_n 0, 1) := by decide +kernel
theorem dX9_scanName_243 : decode cX9_scanName 243 = .ok (.getfield 15, 3) := by decide +kernel
theorem dX9_scanName_246 : decode cX9_scanName 246 = .ok (.aload_n 0, 1) := by decide +kernel
theorem dX9_scanName_247 : decode cX9_scanName 247 = .ok (.getfield 111, 3) := by decide +kernel
theorem dX9_scanName_250 : decode cX9_scanName 250 = .ok (.iaload, 1) := by decide +kernel
theorem dX9_scanName_251 : decode cX9_scanName 251 = .ok (.iconst 3, 1) := by decide +kernel
theorem dX9_scanName_252 : decode cX9_scanName 252 = .ok (.if_icmp .ne 35, 3) := by decide +kernel
theorem dX9_scanName_255 : decode cX9_scanName 255 = .ok (.aload_n 0, 1) := by decide +kernel
theorem dX9_scanName_256 : decode cX9_scanName 256 = .ok (.getfield 9, 3) := by decide +kernel
theorem dX9_scanName_259 : decode cX9_scanName 259 = .ok (.iload 7, 2) := by decide +kernel
theorem dX9_scanName_261 : decode cX9_scanName 261 = .ok (.laload, 1) := by decide +kernel
theorem dX9_scanName_262 : decode cX9_scanName 262 = .ok (.lload_n 3, 1) := by decide +kernel
theorem dX9_scanName_263 : decode cX9_scanName 263 = .ok (.lcmp, 1) := by decide +kernel
theorem dX9_scanName_264 : decode cX9_scanName 264 = .ok (.ifCond .ne 17, 3) := by decide +kernel
theorem dX9_scanName_267 : decode cX9_scanName 267 = .ok (.aload_n 0, 1) := by decide +kernel
theorem dX9_scanName_268 : decode cX9_scanName 268 = .ok (.getfield 15, 3) := by decide +kernel
theorem dX9_scanName_271 : decode cX9_scanName 271 = .ok (.aload_n 0, 1) := by decide +kernel
theorem dX9_scanName_272 : decode cX9_scanName 272 = .ok (.getfield 111, 3) := by decide +kernel
theorem dX9_scanName_275 : decode cX9_scanName 275 = .ok (.bipush 10, 2) := by decide +kernel
theorem dX9_scanName_277 : decode cX9_scanName 277 = .ok (.iload 7, 2) := by decide +kernel
theorem dX9_scanName_279 : decode cX9_scanName 279 = .ok (.iadd, 1) := by decide +kernel
theorem dX9_scanName_280 : decode cX9_scanName 280 = .ok (.iastore, 1) := by decide +kernel
theorem dX9_scanName_281 : decode cX9_scanName 281 = .ok (.iinc 7 1, 3) := by decide +kernel
theorem dX9_scanName_284 : decode cX9_scanName 284 = .ok (.goto (-49), 3) := by decide +kernel
theorem dX9_scanName_287 : decode cX9_scanName 287 = .ok (.iload 5, 2) := by decide +kernel
theorem dX9_scanName_289 : decode cX9_scanName 289 = .ok (.ireturn, 1) := by decide +kernel
theorem dX9_sixBits_0 : decode cX9_sixBits 0 = .ok (.iload_n 0, 1) := by decide +kernel
theorem dX9_sixBits_1 : decode cX9_sixBits 1 = .ok (.bipush 97, 2) := by decide +kernel
theorem dX9_sixBits_3 : decode cX9_sixBits 3 = .ok (.if_icmp .lt 17, 3) := by decide +kernel
theorem dX9_sixBits_6 : decode cX9_sixBits 6 = .ok (.iload_n 0, 1) := by decide +kernel
theorem dX9_sixBits_7 : decode cX9_sixBits 7 = .ok (.bipush 122, 2) := by decide +kernel
theorem dX9_sixBits_9 : decode cX9_sixBits 9 = .ok (.if_icmp .gt 11, 3) := by decide +kernel
theorem dX9_sixBits_12 : decode cX9_sixBits 12 = .ok (.iload_n 0, 1) := by decide +kernel
theorem dX9_sixBits_13 : decode cX9_sixBits 13 = .ok (.bipush 97, 2) := by decide +kernel
theorem dX9_sixBits_15 : decode cX9_sixBits 15 = .ok (.isub, 1) := by decide +kernel
theorem dX9_sixBits_16 : decode cX9_sixBits 16 = .ok (.iconst 1, 1) := by decide +kernel
theorem dX9_sixBits_17 : decode cX9_sixBits 17 = .ok (.iadd, 1) := by decide +kernel
theorem dX9_sixBits_18 : decode cX9_sixBits 18 = .ok (.i2l, 1) := by decide +kernel
theorem dX9_sixBits_19 : decode cX9_sixBits 19 = .ok (.lreturn, 1) := by decide +kernel
theorem dX9_sixBits_20 : decode cX9_sixBits 20 = .ok (.iload_n 0, 1) := by decide +kernel
theorem dX9_sixBits_21 : decode cX9_sixBits 21 = .ok (.bipush 65, 2) := by decide +kernel
theorem dX9_sixBits_23 : decode cX9_sixBits 23 = .ok (.if_icmp .lt 18, 3) := by decide +kernel
theorem dX9_sixBits_26 : decode cX9_sixBits 26 = .ok (.iload_n 0, 1) := by decide +kernel
theorem dX9_sixBits_27 : decode cX9_sixBits 27 = .ok (.bipush 90, 2) := by decide +kernel
theorem dX9_sixBits_29 : decode cX9_sixBits 29 = .ok (.if_icmp .gt 12, 3) := by decide +kernel
theorem dX9_sixBits_32 : decode cX9_sixBits 32 = .ok (.iload_n 0, 1) := by decide +kernel
theorem dX9_sixBits_33 : decode cX9_sixBits 33 = .ok (.bipush 65, 2) := by decide +kernel
theorem dX9_sixBits_35 : decode cX9_sixBits 35 = .ok (.isub, 1) := by decide +kernel
theorem dX9_sixBits_36 : decode cX9_sixBits 36 = .ok (.bipush 27, 2) := by decide +kernel
theorem dX9_sixBits_38 : decode cX9_sixBits 38 = .ok (.iadd, 1) := by decide +kernel
theorem dX9_sixBits_39 : decode cX9_sixBits 39 = .ok (.i2l, 1) := by decide +kernel
theorem dX9_sixBits_40 : decode cX9_sixBits 40 = .ok (.lreturn, 1) := by decide +kernel
theorem dX9_sixBits_41 : decode cX9_sixBits 41 = .ok (.iload_n 0, 1) := by decide +kernel
theorem dX9_sixBits_42 : decode cX9_sixBits 42 = .ok (.bipush 48, 2) := by decide +kernel
theorem dX9_sixBits_44 : decode cX9_sixBits 44 = .ok (.if_icmp .lt 20, 3) := by decide +kernel
theorem dX9_sixBits_47 : decode cX9_sixBits 47 = .ok (.iload_n 0, 1) := by decide +kernel
theorem dX9_sixBits_48 : decode cX9_sixBits 48 = .ok (.bipush 57, 2) := by decide +kernel
theorem dX9_sixBits_50 : decode cX9_sixBits 50 = .ok (.if_icmp .gt 14, 3) := by decide +kernel
theorem dX9_sixBits_53 : decode cX9_sixBits 53 = .ok (.iload_n 0, 1) := by decide +kernel
theorem dX9_sixBits_54 : decode cX9_sixBits 54 = .ok (.bipush 48, 2) := by decide +kernel
theorem dX9_sixBits_56 : decode cX9_sixBits 56 = .ok (.isub, 1) := by decide +kernel
theorem dX9_sixBits_57 : decode cX9_sixBits 57 = .ok (.bipush 53, 2) := by decide +kernel
theorem dX9_sixBits_59 : decode cX9_sixBits 59 = .ok (.iadd, 1) := by decide +kernel
theorem dX9_sixBits_60 : decode cX9_sixBits 60 = .ok (.i2l, 1) := by decide +kernel
theorem dX9_sixBits_61 : decode cX9_sixBits 61 = .ok (.goto 4, 3) := by decide +kernel
theorem dX9_sixBits_64 : decode cX9_sixBits 64 = .ok (.lconst 0, 1) := by decide +kernel
theorem dX9_sixBits_65 : decode cX9_sixBits 65 = .ok (.lreturn, 1) := by decide +kernel
theorem dX9_now_0 : decode cX9_now 0 = .ok (.aload_n 0, 1) := by decide +kernel
theorem dX9_now_1 : decode cX9_now 1 = .ok (.getfield 114, 3) := by decide +kernel
theorem dX9_now_4 : decode cX9_now 4 = .ok (.aload_n 0, 1) := by decide +kernel
theorem dX9_now_5 : decode cX9_now 5 = .ok (.getfield 111, 3) := by decide +kernel
theorem dX9_now_8 : decode cX9_now 8 = .ok (.if_icmp .gt 15, 3) := by decide +kernel
theorem dX9_now_11 : decode cX9_now 11 = .ok (.aload_n 0, 1) := by decide +kernel
theorem dX9_now_12 : decode cX9_now 12 = .ok (.getfield 15, 3) := by decide +kernel
theorem dX9_now_15 : decode cX9_now 15 = .ok (.aload_n 0, 1) := by decide +kernel
theorem dX9_now_16 : decode cX9_now 16 = .ok (.getfield 114, 3) := by decide +kernel
theorem dX9_now_19 : decode cX9_now 19 = .ok (.iaload, 1) := by decide +kernel
theorem dX9_now_20 : decode cX9_now 20 = .ok (.goto 4, 3) := by decide +kernel
theorem dX9_now_23 : decode cX9_now 23 = .ok (.iconst 0, 1) := by decide +kernel
theorem dX9_now_24 : decode cX9_now 24 = .ok (.ireturn, 1) := by decide +kernel
theorem dX9_behind_0 : decode cX9_behind 0 = .ok (.aload_n 0, 1) := by decide +kernel
theorem dX9_behind_1 : decode cX9_behind 1 = .ok (.getfield 114, 3) := by decide +kernel
theorem dX9_behind_4 : decode cX9_behind 4 = .ok (.iconst 1, 1) := by decide +kernel
theorem dX9_behind_5 : decode cX9_behind 5 = .ok (.iadd, 1) := by decide +kernel
theorem dX9_behind_6 : decode cX9_behind 6 = .ok (.aload_n 0, 1) := by decide +kernel
theorem dX9_behind_7 : decode cX9_behind 7 = .ok (.getfield 111, 3) := by decide +kernel
theorem dX9_behind_10 : decode cX9_behind 10 = .ok (.if_icmp .gt 17, 3) := by decide +kernel
theorem dX9_behind_13 : decode cX9_behind 13 = .ok (.aload_n 0, 1) := by decide +kernel
theorem dX9_behind_14 : decode cX9_behind 14 = .ok (.getfield 15, 3) := by decide +kernel
theorem dX9_behind_17 : decode cX9_behind 17 = .ok (.aload_n 0, 1) := by decide +kernel
theorem dX9_behind_18 : decode cX9_behind 18 = .ok (.getfield 114, 3) := by decide +kernel
theorem dX9_behind_21 : decode cX9_behind 21 = .ok (.iconst 1, 1) := by decide +kernel
theorem dX9_behind_22 : decode cX9_behind 22 = .ok (.iadd, 1) := by decide +kernel
theorem dX9_behind_23 : decode cX9_behind 23 = .ok (.iaload, 1) := by decide +kernel
theorem dX9_behind_24 : decode cX9_behind 24 = .ok (.goto 4, 3) := by decide +kernel
theorem dX9_behind_27 : decode cX9_behind 27 = .ok (.iconst 0, 1) := by decide +kernel
theorem dX9_behind_28 : decode cX9_behind 28 = .ok (.ireturn, 1) := by decide +kernel
theorem dX9_stop_0 : decode cX9_stop 0 = .ok (.aload_n 0, 1) := by decide +kernel
theorem dX9_stop_1 : decode cX9_stop 1 = .ok (.getfield 60, 3) := by decide +kernel
theorem dX9_stop_4 : decode cX9_stop 4 = .ok (.ifCond .ne 16, 3) := by decide +kernel
theorem dX9_stop_7 : decode cX9_stop 7 = .ok (.aload_n 0, 1) := by decide +kernel
theorem dX9_stop_8 : decode cX9_stop 8 = .ok (.iload_n 1, 1) := by decide +kernel
theorem dX9_stop_9 : decode cX9_stop 9 = .ok (.putfield 60, 3) := by decide +kernel
theorem dX9_stop_12 : decode cX9_stop 12 = .ok (.aload_n 0, 1) := by decide +kernel
theorem dX9_stop_13 : decode cX9_stop 13 = .ok (.aload_n 0, 1) := by decide +kernel
theorem dX9_stop_14 : decode cX9_stop 14 = .ok (.getfield 114, 3) := by decide +kernel
theorem dX9_stop_17 : decode cX9_stop 17 = .ok (.putfield 64, 3) := by decide +kernel
theorem dX9_stop_20 : decode cX9_stop 20 = .ok (.iconst 0, 1) := by decide +kernel
theorem dX9_stop_21 : decode cX9_stop 21 = .ok (.ireturn, 1) := by decide +kernel
theorem dX9_miss_0 : decode cX9_miss 0 = .ok (.aload_n 0, 1) := by decide +kernel
theorem dX9_miss_1 : decode cX9_miss 1 = .ok (.getfield 60, 3) := by decide +kernel
theorem dX9_miss_4 : decode cX9_miss 4 = .ok (.ifCond .ne 44, 3) := by decide +kernel
theorem dX9_miss_7 : decode cX9_miss 7 = .ok (.aload_n 0, 1) := by decide +kernel
theorem dX9_miss_8 : decode cX9_miss 8 = .ok (.aload_n 0, 1) := by decide +kernel
theorem dX9_miss_9 : decode cX9_miss 9 = .ok (.getfield 114, 3) := by decide +kernel
theorem dX9_miss_12 : decode cX9_miss 12 = .ok (.aload_n 0, 1) := by decide +kernel
theorem dX9_miss_13 : decode cX9_miss 13 = .ok (.getfield 111, 3) := by decide +kernel
theorem dX9_miss_16 : decode cX9_miss 16 = .ok (.if_icmp .gt 20, 3) := by decide +kernel
theorem dX9_miss_19 : decode cX9_miss 19 = .ok (.aload_n 0, 1) := by decide +kernel
theorem dX9_miss_20 : decode cX9_miss 20 = .ok (.getfield 15, 3) := by decide +kernel
theorem dX9_miss_23 : decode cX9_miss 23 = .ok (.aload_n 0, 1) := by decide +kernel
theorem dX9_miss_24 : decode cX9_miss 24 = .ok (.getfield 114, 3) := by decide +kernel
theorem dX9_miss_27 : decode cX9_miss 27 = .ok (.iaload, 1) := by decide +kernel
theorem dX9_miss_28 : decode cX9_miss 28 = .ok (.iconst 1, 1) := by decide +kernel
theorem dX9_miss_29 : decode cX9_miss 29 = .ok (.if_icmp .ne 7, 3) := by decide +kernel
theorem dX9_miss_32 : decode cX9_miss 32 = .ok (.iconst 1, 1) := by decide +kernel
theorem dX9_miss_33 : decode cX9_miss 33 = .ok (.goto 4, 3) := by decide +kernel
theorem dX9_miss_36 : decode cX9_miss 36 = .ok (.iconst 2, 1) := by decide +kernel
theorem dX9_miss_37 : decode cX9_miss 37 = .ok (.putfield 60, 3) := by decide +kernel
theorem dX9_miss_40 : decode cX9_miss 40 = .ok (.aload_n 0, 1) := by decide +kernel
theorem dX9_miss_41 : decode cX9_miss 41 = .ok (.aload_n 0, 1) := by decide +kernel
theorem dX9_miss_42 : decode cX9_miss 42 = .ok (.getfield 114, 3) := by decide +kernel
theorem dX9_miss_45 : decode cX9_miss 45 = .ok (.putfield 64, 3) := by decide +kernel
theorem dX9_miss_48 : decode cX9_miss 48 = .ok (.iconst 0, 1) := by decide +kernel
theorem dX9_miss_49 : decode cX9_miss 49 = .ok (.ireturn, 1) := by decide +kernel
theorem dX9_take_0 : decode cX9_take 0 = .ok (.aload_n 0, 1) := by decide +kernel
theorem dX9_take_1 : decode cX9_take 1 = .ok (.getfield 114, 3) := by decide +kernel
theorem dX9_take_4 : decode cX9_take 4 = .ok (.sipush 700, 3) := by decide +kernel
theorem dX9_take_7 : decode cX9_take 7 = .ok (.if_icmp .lt 9, 3) := by decide +kernel
theorem dX9_take_10 : decode cX9_take 10 = .ok (.aload_n 0, 1) := by decide +kernel
theorem dX9_take_11 : decode cX9_take 11 = .ok (.iconst 3, 1) := by decide +kernel
theorem dX9_take_12 : decode cX9_take 12 = .ok (.invokevirtual 148, 3) := by decide +kernel
theorem dX9_take_15 : decode cX9_take 15 = .ok (.ireturn, 1) := by decide +kernel
theorem dX9_take_16 : decode cX9_take 16 = .ok (.aload_n 0, 1) := by decide +kernel
theorem dX9_take_17 : decode cX9_take 17 = .ok (.dup, 1) := by decide +kernel
theorem dX9_take_18 : decode cX9_take 18 = .ok (.getfield 114, 3) := by decide +kernel
theorem dX9_take_21 : decode cX9_take 21 = .ok (.iconst 1, 1) := by decide +kernel
theorem dX9_take_22 : decode cX9_take 22 = .ok (.iadd, 1) := by decide +kernel
theorem dX9_take_23 : decode cX9_take 23 = .ok (.putfield 114, 3) := by decide +kernel
theorem dX9_take_26 : decode cX9_take 26 = .ok (.iconst 1, 1) := by decide +kernel
theorem dX9_take_27 : decode cX9_take 27 = .ok (.ireturn, 1) := by decide +kernel
theorem dX9_need_0 : decode cX9_need 0 = .ok (.aload_n 0, 1) := by decide +kernel
theorem dX9_need_1 : decode cX9_need 1 = .ok (.getfield 114, 3) := by decide +kernel
theorem dX9_need_4 : decode cX9_need 4 = .ok (.aload_n 0, 1) := by decide +kernel
theorem dX9_need_5 : decode cX9_need 5 = .ok (.getfield 111, 3) := by decide +kernel
theorem dX9_need_8 : decode cX9_need 8 = .ok (.if_icmp .gt 16, 3) := by decide +kernel
theorem dX9_need_11 : decode cX9_need 11 = .ok (.aload_n 0, 1) := by decide +kernel
theorem dX9_need_12 : decode cX9_need 12 = .ok (.getfield 15, 3) := by decide +kernel
theorem dX9_need_15 : decode cX9_need 15 = .ok (.aload_n 0, 1) := by decide +kernel
theorem dX9_need_16 : decode cX9_need 16 = .ok (.getfield 114, 3) := by decide +kernel
theorem dX9_need_19 : decode cX9_need 19 = .ok (.iaload, 1) := by decide +kernel
theorem dX9_need_20 : decode cX9_need 20 = .ok (.iload_n 1, 1) := by decide +kernel
theorem dX9_need_21 : decode cX9_need 21 = .ok (.if_icmp .eq 8, 3) := by decide +kernel
theorem dX9_need_24 : decode cX9_need 24 = .ok (.aload_n 0, 1) := by decide +kernel
theorem dX9_need_25 : decode cX9_need 25 = .ok (.invokevirtual 151, 3) := by decide +kernel
theorem dX9_need_28 : decode cX9_need 28 = .ok (.ireturn, 1) := by decide +kernel
theorem dX9_need_29 : decode cX9_need 29 = .ok (.aload_n 0, 1) := by decide +kernel
theorem dX9_need_30 : decode cX9_need 30 = .ok (.getfield 114, 3) := by decide +kernel
theorem dX9_need_33 : decode cX9_need 33 = .ok (.sipush 700, 3) := by decide +kernel
theorem dX9_need_36 : decode cX9_need 36 = .ok (.if_icmp .lt 9, 3) := by decide +kernel
theorem dX9_need_39 : decode cX9_need 39 = .ok (.aload_n 0, 1) := by decide +kernel
theorem dX9_need_40 : decode cX9_need 40 = .ok (.iconst 3, 1) := by decide +kernel
theorem dX9_need_41 : decode cX9_need 41 = .ok (.invokevirtual 148, 3) := by decide +kernel
theorem dX9_need_44 : decode cX9_need 44 = .ok (.ireturn, 1) := by decide +kernel
theorem dX9_need_45 : decode cX9_need 45 = .ok (.aload_n 0, 1) := by decide +kernel
theorem dX9_need_46 : decode cX9_need 46 = .ok (.dup, 1) := by decide +kernel
theorem dX9_need_47 : decode cX9_need 47 = .ok (.getfield 114, 3) := by decide +kernel
theorem dX9_need_50 : decode cX9_need 50 = .ok (.iconst 1, 1) := by decide +kernel
theorem dX9_need_51 : decode cX9_need 51 = .ok (.iadd, 1) := by decide +kernel
theorem dX9_need_52 : decode cX9_need 52 = .ok (.putfield 114, 3) := by decide +kernel
theorem dX9_need_55 : decode cX9_need 55 = .ok (.iconst 1, 1) := by decide +kernel
theorem dX9_need_56 : decode cX9_need 56 = .ok (.ireturn, 1) := by decide +kernel
theorem dX9_node_0 : decode cX9_node 0 = .ok (.aload_n 0, 1) := by decide +kernel
theorem dX9_node_1 : decode cX9_node 1 = .ok (.getfield 67, 3) := by decide +kernel
theorem dX9_node_4 : decode cX9_node 4 = .ok (.aload_n 0, 1) := by decide +kernel
theorem dX9_node_5 : decode cX9_node 5 = .ok (.getfield 30, 3) := by decide +kernel
theorem dX9_node_8 : decode cX9_node 8 = .ok (.arraylength, 1) := by decide +kernel
theorem dX9_node_9 : decode cX9_node 9 = .ok (.if_icmp .lt 14, 3) := by decide +kernel
theorem dX9_node_12 : decode cX9_node 12 = .ok (.aload_n 0, 1) := by decide +kernel
theorem dX9_node_13 : decode cX9_node 13 = .ok (.aload_n 0, 1) := by decide +kernel
theorem dX9_node_14 : decode cX9_node 14 = .ok (.getfield 30, 3) := by decide +kernel
theorem dX9_node_17 : decode cX9_node 17 = .ok (.arraylength, 1) := by decide +kernel
theorem dX9_node_18 : decode cX9_node 18 = .ok (.iconst 1, 1) := by decide +kernel
theorem dX9_node_19 : decode cX9_node 19 = .ok (.isub, 1) := by decide +kernel
theorem dX9_node_20 : decode cX9_node 20 = .ok (.putfield 67, 3) := by decide +kernel
theorem dX9_node_23 : decode cX9_node 23 = .ok (.aload_n 0, 1) := by decide +kernel
theorem dX9_node_24 : decode cX9_node 24 = .ok (.getfield 30, 3) := by decide +kernel
theorem dX9_node_27 : decode cX9_node 27 = .ok (.aload_n 0, 1) := by decide +kernel
theorem dX9_node_28 : decode cX9_node 28 = .ok (.getfield 67, 3) := by decide +kernel
theorem dX9_node_31 : decode cX9_node 31 = .ok (.aaload, 1) := by decide +kernel
theorem dX9_node_32 : decode cX9_node 32 = .ok (.astore_n 3, 1) := by decide +kernel
theorem dX9_node_33 : decode cX9_node 33 = .ok (.aload_n 0, 1) := by decide +kernel
theorem dX9_node_34 : decode cX9_node 34 = .ok (.dup, 1) := by decide +kernel
theorem dX9_node_35 : decode cX9_node 35 = .ok (.getfield 67, 3) := by decide +kernel
theorem dX9_node_38 : decode cX9_node 38 = .ok (.iconst 1, 1) := by decide +kernel
theorem dX9_node_39 : decode cX9_node 39 = .ok (.iadd, 1) := by decide +kernel
theorem dX9_node_40 : decode cX9_node 40 = .ok (.putfield 67, 3) := by decide +kernel
theorem dX9_node_43 : decode cX9_node 43 = .ok (.aload_n 3, 1) := by decide +kernel
theorem dX9_node_44 : decode cX9_node 44 = .ok (.iload_n 1, 1) := by decide +kernel
theorem dX9_node_45 : decode cX9_node 45 = .ok (.iload_n 2, 1) := by decide +kernel
theorem dX9_node_46 : decode cX9_node 46 = .ok (.invokevirtual 155, 3) := by decide +kernel
theorem dX9_node_49 : decode cX9_node 49 = .ok (.aload_n 3, 1) := by decide +kernel
theorem dX9_node_50 : decode cX9_node 50 = .ok (.areturn, 1) := by decide +kernel
theorem dX9_readHead_0 : decode cX9_readHead 0 = .ok (.aload_n 0, 1) := by decide +kernel
theorem dX9_readHead_1 : decode cX9_readHead 1 = .ok (.invokevirtual 74, 3) := by decide +kernel
theorem dX9_readHead_4 : decode cX9_readHead 4 = .ok (.bipush 17, 2) := by decide +kernel
theorem dX9_readHead_6 : decode cX9_readHead 6 = .ok (.if_icmp .ne 7, 3) := by decide +kernel
theorem dX9_readHead_9 : decode cX9_readHead 9 = .ok (.iconst 1, 1) := by decide +kernel
theorem dX9_readHead_10 : decode cX9_readHead 10 = .ok (.goto 4, 3) := by decide +kernel
theorem dX9_readHead_13 : decode cX9_readHead 13 = .ok (.iconst 0, 1) := by decide +kernel
theorem dX9_readHead_14 : decode cX9_readHead 14 = .ok (.istore_n 1, 1) := by decide +kernel
theorem dX9_readHead_15 : decode cX9_readHead 15 = .ok (.iload_n 1, 1) := by decide +kernel
theorem dX9_readHead_16 : decode cX9_readHead 16 = .ok (.ifCond .eq 12, 3) := by decide +kernel
theorem dX9_readHead_19 : decode cX9_readHead 19 = .ok (.aload_n 0, 1) := by decide +kernel
theorem dX9_readHead_20 : decode cX9_readHead 20 = .ok (.invokevirtual 158, 3) := by decide +kernel
theorem dX9_readHead_23 : decode cX9_readHead 23 = .ok (.ifCond .ne 5, 3) := by decide +kernel
theorem dX9_readHead_26 : decode cX9_readHead 26 = .ok (.aconst_null, 1) := by decide +kernel
theorem dX9_readHead_27 : decode cX9_readHead 27 = .ok (.areturn, 1) := by decide +kernel
theorem dX9_readHead_28 : decode cX9_readHead 28 = .ok (.aload_n 0, 1) := by decide +kernel
theorem dX9_readHead_29 : decode cX9_readHead 29 = .ok (.invokevirtual 74, 3) := by decide +kernel
theorem dX9_readHead_32 : decode cX9_readHead 32 = .ok (.istore_n 2, 1) := by decide +kernel
theorem dX9_readHead_33 : decode cX9_readHead 33 = .ok (.iload_n 2, 1) := by decide +kernel
theorem dX9_readHead_34 : decode cX9_readHead 34 = .ok (.bipush 20, 2) := by decide +kernel
theorem dX9_readHead_36 : decode cX9_readHead 36 = .ok (.if_icmp .eq 9, 3) := by decide +kernel
theorem dX9_readHead_39 : decode cX9_readHead 39 = .ok (.iload_n 2, 1) := by decide +kernel
theorem dX9_readHead_40 : decode cX9_readHead 40 = .ok (.bipush 21, 2) := by decide +kernel
theorem dX9_readHead_42 : decode cX9_readHead 42 = .ok (.if_icmp .ne 12, 3) := by decide +kernel
theorem dX9_readHead_45 : decode cX9_readHead 45 = .ok (.aload_n 0, 1) := by decide +kernel
theorem dX9_readHead_46 : decode cX9_readHead 46 = .ok (.invokevirtual 158, 3) := by decide +kernel
theorem dX9_readHead_49 : decode cX9_readHead 49 = .ok (.ifCond .ne 5, 3) := by decide +kernel
theorem dX9_readHead_52 : decode cX9_readHead 52 = .ok (.aconst_null, 1) := by decide +kernel
theorem dX9_readHead_53 : decode cX9_readHead 53 = .ok (.areturn, 1) := by decide +kernel
theorem dX9_readHead_54 : decode cX9_readHead 54 = .ok (.aload_n 0, 1) := by decide +kernel
theorem dX9_readHead_55 : decode cX9_readHead 55 = .ok (.invokevirtual 74, 3) := by decide +kernel
theorem dX9_readHead_58 : decode cX9_readHead 58 = .ok (.bipush 11, 2) := by decide +kernel
theorem dX9_readHead_60 : decode cX9_readHead 60 = .ok (.if_icmp .ne 13, 3) := by decide +kernel
theorem dX9_readHead_63 : decode cX9_readHead 63 = .ok (.iload_n 2, 1) := by decide +kernel
theorem dX9_readHead_64 : decode cX9_readHead 64 = .ok (.bipush 11, 2) := by decide +kernel
theorem dX9_readHead_66 : decode cX9_readHead 66 = .ok (.if_icmp .ne 7, 3) := by decide +kernel
theorem dX9_readHead_69 : decode cX9_readHead 69 = .ok (.iconst 1, 1) := by decide +kernel
theorem dX9_readHead_70 : decode cX9_readHead 70 = .ok (.goto 4, 3) := by decide +kernel
theorem dX9_readHead_73 : decode cX9_readHead 73 = .ok (.iconst 0, 1) := by decide +kernel
theorem dX9_readHead_74 : decode cX9_readHead 74 = .ok (.istore_n 3, 1) := by decide +kernel
theorem dX9_readHead_75 : decode cX9_readHead 75 = .ok (.iload_n 3, 1) := by decide +kernel
theorem dX9_readHead_76 : decode cX9_readHead 76 = .ok (.ifCond .ne 19, 3) := by decide +kernel
theorem dX9_readHead_79 : decode cX9_readHead 79 = .ok (.aload_n 0, 1) := by decide +kernel
theorem dX9_readHead_80 : decode cX9_readHead 80 = .ok (.invokevirtual 74, 3) := by decide +kernel
theorem dX9_readHead_83 : decode cX9_readHead 83 = .ok (.bipush 10, 2) := by decide +kernel
theorem dX9_readHead_85 : decode cX9_readHead 85 = .ok (.if_icmp .eq 10, 3) := by decide +kernel
theorem dX9_readHead_88 : decode cX9_readHead 88 = .ok (.aload_n 0, 1) := by decide +kernel
theorem dX9_readHead_89 : decode cX9_readHead 89 = .ok (.invokevirtual 151, 3) := by decide +kernel
theorem dX9_readHead_92 : decode cX9_readHead 92 = .ok (.pop, 1) := by decide +kernel
theorem dX9_readHead_93 : decode cX9_readHead 93 = .ok (.aconst_null, 1) := by decide +kernel
theorem dX9_readHead_94 : decode cX9_readHead 94 = .ok (.areturn, 1) := by decide +kernel
theorem dX9_readHead_95 : decode cX9_readHead 95 = .ok (.aload_n 0, 1) := by decide +kernel
theorem dX9_readHead_96 : decode cX9_readHead 96 = .ok (.invokevirtual 158, 3) := by decide +kernel
theorem dX9_readHead_99 : decode cX9_readHead 99 = .ok (.ifCond .ne 5, 3) := by decide +kernel
theorem dX9_readHead_102 : decode cX9_readHead 102 = .ok (.aconst_null, 1) := by decide +kernel
theorem dX9_readHead_103 : decode cX9_readHead 103 = .ok (.areturn, 1) := by decide +kernel
theorem dX9_readHead_104 : decode cX9_readHead 104 = .ok (.aload_n 0, 1) := by decide +kernel
theorem dX9_readHead_105 : decode cX9_readHead 105 = .ok (.invokevirtual 74, 3) := by decide +kernel
theorem dX9_readHead_108 : decode cX9_readHead 108 = .ok (.iconst 2, 1) := by decide +kernel
theorem dX9_readHead_109 : decode cX9_readHead 109 = .ok (.if_icmp .eq 10, 3) := by decide +kernel
theorem dX9_readHead_112 : decode cX9_readHead 112 = .ok (.aload_n 0, 1) := by decide +kernel
theorem dX9_readHead_113 : decode cX9_readHead 113 = .ok (.invokevirtual 151, 3) := by decide +kernel
theorem dX9_readHead_116 : decode cX9_readHead 116 = .ok (.pop, 1) := by decide +kernel
theorem dX9_readHead_117 : decode cX9_readHead 117 = .ok (.aconst_null, 1) := by decide +kernel
theorem dX9_readHead_118 : decode cX9_readHead 118 = .ok (.areturn, 1) := by decide +kernel
theorem dX9_readHead_119 : decode cX9_readHead 119 = .ok (.aload_n 0, 1) := by decide +kernel
theorem dX9_readHead_120 : decode cX9_readHead 120 = .ok (.getfield 51, 3) := by decide +kernel
theorem dX9_readHead_123 : decode cX9_readHead 123 = .ok (.invokevirtual 161, 3) := by decide +kernel
theorem dX9_readHead_126 : decode cX9_readHead 126 = .ok (.astore 4, 2) := by decide +kernel
theorem dX9_readHead_128 : decode cX9_readHead 128 = .ok (.aload 4, 2) := by decide +kernel
theorem dX9_readHead_130 : decode cX9_readHead 130 = .ok (.ifnonnull 11, 3) := by decide +kernel
theorem dX9_readHead_133 : decode cX9_readHead 133 = .ok (.aload_n 0, 1) := by decide +kernel
theorem dX9_readHead_134 : decode cX9_readHead 134 = .ok (.iconst 3, 1) := by decide +kernel
theorem dX9_readHead_135 : decode cX9_readHead 135 = .ok (.invokevirtual 148, 3) := by decide +kernel
theorem dX9_readHead_138 : decode cX9_readHead 138 = .ok (.pop, 1) := by decide +kernel
theorem dX9_readHead_139 : decode cX9_readHead 139 = .ok (.aconst_null, 1) := by decide +kernel
theorem dX9_readHead_140 : decode cX9_readHead 140 = .ok (.areturn, 1) := by decide +kernel
theorem dX9_readHead_141 : decode cX9_readHead 141 = .ok (.aload 4, 2) := by decide +kernel
theorem dX9_readHead_143 : decode cX9_readHead 143 = .ok (.iload_n 1, 1) := by decide +kernel
theorem dX9_readHead_144 : decode cX9_readHead 144 = .ok (.putfield 164, 3) := by decide +kernel
theorem dX9_readHead_147 : decode cX9_readHead 147 = .ok (.aload 4, 2) := by decide +kernel
theorem dX9_readHead_149 : decode cX9_readHead 149 = .ok (.iload_n 3, 1) := by decide +kernel
theorem dX9_readHead_150 : decode cX9_readHead 150 = .ok (.putfield 168, 3) := by decide +kernel
theorem dX9_readHead_153 : decode cX9_readHead 153 = .ok (.aload 4, 2) := by decide +kernel
theorem dX9_readHead_155 : decode cX9_readHead 155 = .ok (.iload_n 2, 1) := by decide +kernel
theorem dX9_readHead_156 : decode cX9_readHead 156 = .ok (.bipush 20, 2) := by decide +kernel
theorem dX9_readHead_158 : decode cX9_readHead 158 = .ok (.if_icmp .ne 7, 3) := by decide +kernel
theorem dX9_readHead_161 : decode cX9_readHead 161 = .ok (.iconst 1, 1) := by decide +kernel
theorem dX9_readHead_162 : decode cX9_readHead 162 = .ok (.goto 4, 3) := by decide +kernel
theorem dX9_readHead_165 : decode cX9_readHead 165 = .ok (.iconst 0, 1) := by decide +kernel
theorem dX9_readHead_166 : decode cX9_readHead 166 = .ok (.putfield 171, 3) := by decide +kernel
theorem dX9_readHead_169 : decode cX9_readHead 169 = .ok (.aload 4, 2) := by decide +kernel
theorem dX9_readHead_171 : decode cX9_readHead 171 = .ok (.iload_n 2, 1) := by decide +kernel
theorem dX9_readHead_172 : decode cX9_readHead 172 = .ok (.bipush 21, 2) := by decide +kernel
theorem dX9_readHead_174 : decode cX9_readHead 174 = .ok (.if_icmp .ne 7, 3) := by decide +kernel
theorem dX9_readHead_177 : decode cX9_readHead 177 = .ok (.iconst 1, 1) := by decide +kernel
theorem dX9_readHead_178 : decode cX9_readHead 178 = .ok (.goto 4, 3) := by decide +kernel
theorem dX9_readHead_181 : decode cX9_readHead 181 = .ok (.iconst 0, 1) := by decide +kernel
theorem dX9_readHead_182 : decode cX9_readHead 182 = .ok (.putfield 174, 3) := by decide +kernel
theorem dX9_readHead_185 : decode cX9_readHead 185 = .ok (.aload 4, 2) := by decide +kernel
theorem dX9_readHead_187 : decode cX9_readHead 187 = .ok (.aload_n 0, 1) := by decide +kernel
theorem dX9_readHead_188 : decode cX9_readHead 188 = .ok (.getfield 25, 3) := by decide +kernel
theorem dX9_readHead_191 : decode cX9_readHead 191 = .ok (.aload_n 0, 1) := by decide +kernel
theorem dX9_readHead_192 : decode cX9_readHead 192 = .ok (.getfield 114, 3) := by decide +kernel
theorem dX9_readHead_195 : decode cX9_readHead 195 = .ok (.laload, 1) := by decide +kernel
theorem dX9_readHead_196 : decode cX9_readHead 196 = .ok (.putfield 177, 3) := by decide +kernel
theorem dX9_readHead_199 : decode cX9_readHead 199 = .ok (.aload 4, 2) := by decide +kernel
theorem dX9_readHead_201 : decode cX9_readHead 201 = .ok (.aload_n 0, 1) := by decide +kernel
theorem dX9_readHead_202 : decode cX9_readHead 202 = .ok (.getfield 114, 3) := by decide +kernel
theorem dX9_readHead_205 : decode cX9_readHead 205 = .ok (.putfield 181, 3) := by decide +kernel
theorem dX9_readHead_208 : decode cX9_readHead 208 = .ok (.aload_n 0, 1) := by decide +kernel
theorem dX9_readHead_209 : decode cX9_readHead 209 = .ok (.invokevirtual 158, 3) := by decide +kernel
theorem dX9_readHead_212 : decode cX9_readHead 212 = .ok (.ifCond .eq 27, 3) := by decide +kernel
theorem dX9_readHead_215 : decode cX9_readHead 215 = .ok (.aload_n 0, 1) := by decide +kernel
theorem dX9_readHead_216 : decode cX9_readHead 216 = .ok (.aload 4, 2) := by decide +kernel
theorem dX9_readHead_218 : decode cX9_readHead 218 = .ok (.invokevirtual 184, 3) := by decide +kernel
theorem dX9_readHead_221 : decode cX9_readHead 221 = .ok (.ifCond .eq 18, 3) := by decide +kernel
theorem dX9_readHead_224 : decode cX9_readHead 224 = .ok (.aload_n 0, 1) := by decide +kernel
theorem dX9_readHead_225 : decode cX9_readHead 225 = .ok (.sipush 223, 3) := by decide +kernel
theorem dX9_readHead_228 : decode cX9_readHead 228 = .ok (.invokevirtual 101, 3) := by decide +kernel
theorem dX9_readHead_231 : decode cX9_readHead 231 = .ok (.ifCond .eq 8, 3) := by decide +kernel
theorem dX9_readHead_234 : decode cX9_readHead 234 = .ok (.aload 4, 2) := by decide +kernel
theorem dX9_readHead_236 : decode cX9_readHead 236 = .ok (.goto 4, 3) := by decide +kernel
theorem dX9_readHead_239 : decode cX9_readHead 239 = .ok (.aconst_null, 1) := by decide +kernel
theorem dX9_readHead_240 : decode cX9_readHead 240 = .ok (.areturn, 1) := by decide +kernel
theorem dX9_readParents_0 : decode cX9_readParents 0 = .ok (.aload_n 0, 1) := by decide +kernel
theorem dX9_readParents_1 : decode cX9_readParents 1 = .ok (.invokevirtual 74, 3) := by decide +kernel
theorem dX9_readParents_4 : decode cX9_readParents 4 = .ok (.bipush 13, 2) := by decide +kernel
theorem dX9_readParents_6 : decode cX9_readParents 6 = .ok (.if_icmp .ne 50, 3) := by decide +kernel
theorem dX9_readParents_9 : decode cX9_readParents 9 = .ok (.aload_n 0, 1) := by decide +kernel
theorem dX9_readParents_10 : decode cX9_readParents 10 = .ok (.invokevirtual 158, 3) := by decide +kernel
theorem dX9_readParents_13 : decode cX9_readParents 13 = .ok (.ifCond .eq 11, 3) := by decide +kernel
theorem dX9_readParents_16 : decode cX9_readParents 16 = .ok (.aload_n 0, 1) := by decide +kernel
theorem dX9_readParents_17 : decode cX9_readParents 17 = .ok (.invokevirtual 74, 3) := by decide +kernel
theorem dX9_readParents_20 : decode cX9_readParents 20 = .ok (.iconst 2, 1) := by decide +kernel
theorem dX9_readParents_21 : decode cX9_readParents 21 = .ok (.if_icmp .eq 8, 3) := by decide +kernel
theorem dX9_readParents_24 : decode cX9_readParents 24 = .ok (.aload_n 0, 1) := by decide +kernel
theorem dX9_readParents_25 : decode cX9_readParents 25 = .ok (.invokevirtual 151, 3) := by decide +kernel
theorem dX9_readParents_28 : decode cX9_readParents 28 = .ok (.ireturn, 1) := by decide +kernel
theorem dX9_readParents_29 : decode cX9_readParents 29 = .ok (.aload_n 1, 1) := by decide +kernel
theorem dX9_readParents_30 : decode cX9_readParents 30 = .ok (.iconst 1, 1) := by decide +kernel
theorem dX9_readParents_31 : decode cX9_readParents 31 = .ok (.putfield 187, 3) := by decide +kernel
theorem dX9_readParents_34 : decode cX9_readParents 34 = .ok (.aload_n 1, 1) := by decide +kernel
theorem dX9_readParents_35 : decode cX9_readParents 35 = .ok (.aload_n 0, 1) := by decide +kernel
theorem dX9_readParents_36 : decode cX9_readParents 36 = .ok (.getfield 25, 3) := by decide +kernel
theorem dX9_readParents_39 : decode cX9_readParents 39 = .ok (.aload_n 0, 1) := by decide +kernel
theorem dX9_readParents_40 : decode cX9_readParents 40 = .ok (.getfield 114, 3) := by decide +kernel
theorem dX9_readParents_43 : decode cX9_readParents 43 = .ok (.laload, 1) := by decide +kernel
theorem dX9_readParents_44 : decode cX9_readParents 44 = .ok (.putfield 190, 3) := by decide +kernel
theorem dX9_readParents_47 : decode cX9_readParents 47 = .ok (.aload_n 0, 1) := by decide +kernel
theorem dX9_readParents_48 : decode cX9_readParents 48 = .ok (.invokevirtual 158, 3) := by decide +kernel
theorem dX9_readParents_51 : decode cX9_readParents 51 = .ok (.ifCond .ne 5, 3) := by decide +kernel
theorem dX9_readParents_54 : decode cX9_readParents 54 = .ok (.iconst 0, 1) := by decide +kernel
theorem dX9_readParents_55 : decode cX9_readParents 55 = .ok (.ireturn, 1) := by decide +kernel
theorem dX9_readParents_56 : decode cX9_readParents 56 = .ok (.aload_n 0, 1) := by decide +kernel
theorem dX9_readParents_57 : decode cX9_readParents 57 = .ok (.aload_n 1, 1) := by decide +kernel
theorem dX9_readParents_58 : decode cX9_readParents 58 = .ok (.bipush 12, 2) := by decide +kernel
theorem dX9_readParents_60 : decode cX9_readParents 60 = .ok (.iconst 0, 1) := by decide +kernel
theorem dX9_readParents_61 : decode cX9_readParents 61 = .ok (.iconst 4, 1) := by decide +kernel
theorem dX9_readParents_62 : decode cX9_readParents 62 = .ok (.invokevirtual 193, 3) := by decide +kernel
theorem dX9_readParents_65 : decode cX9_readParents 65 = .ok (.ifCond .ne 5, 3) := by decide +kernel
theorem dX9_readParents_68 : decode cX9_readParents 68 = .ok (.iconst 0, 1) := by decide +kernel
theorem dX9_readParents_69 : decode cX9_readParents 69 = .ok (.ireturn, 1) := by decide +kernel
theorem dX9_readParents_70 : decode cX9_readParents 70 = .ok (.aload_n 0, 1) := by decide +kernel
theorem dX9_readParents_71 : decode cX9_readParents 71 = .ok (.invokevirtual 74, 3) := by decide +kernel
theorem dX9_readParents_74 : decode cX9_readParents 74 = .ok (.bipush 14, 2) := by decide +kernel
theorem dX9_readParents_76 : decode cX9_readParents 76 = .ok (.if_icmp .ne 45, 3) := by decide +kernel
theorem dX9_readParents_79 : decode cX9_readParents 79 = .ok (.aload_n 0, 1) := by decide +kernel
theorem dX9_readParents_80 : decode cX9_readParents 80 = .ok (.invokevirtual 158, 3) := by decide +kernel
theorem dX9_readParents_83 : decode cX9_readParents 83 = .ok (.ifCond .eq 11, 3) := by decide +kernel
theorem dX9_readParents_86 : decode cX9_readParents 86 = .ok (.aload_n 0, 1) := by decide +kernel
theorem dX9_readParents_87 : decode cX9_readParents 87 = .ok (.invokevirtual 74, 3) := by decide +kernel
theorem dX9_readParents_90 : decode cX9_readParents 90 = .ok (.iconst 2, 1) := by decide +kernel
theorem dX9_readParents_91 : decode cX9_readParents 91 = .ok (.if_icmp .eq 8, 3) := by decide +kernel
theorem dX9_readParents_94 : decode cX9_readParents 94 = .ok (.aload_n 0, 1) := by decide +kernel
theorem dX9_readParents_95 : decode cX9_readParents 95 = .ok (.invokevirtual 151, 3) := by decide +kernel
theorem dX9_readParents_98 : decode cX9_readParents 98 = .ok (.ireturn, 1) := by decide +kernel
theorem dX9_readParents_99 : decode cX9_readParents 99 = .ok (.aload_n 1, 1) := by decide +kernel
theorem dX9_readParents_100 : decode cX9_readParents 100 = .ok (.aload_n 0, 1) := by decide +kernel
theorem dX9_readParents_101 : decode cX9_readParents 101 = .ok (.getfield 25, 3) := by decide +kernel
theorem dX9_readParents_104 : decode cX9_readParents 104 = .ok (.aload_n 0, 1) := by decide +kernel
theorem dX9_readParents_105 : decode cX9_readParents 105 = .ok (.getfield 114, 3) := by decide +kernel
theorem dX9_readParents_108 : decode cX9_readParents 108 = .ok (.laload, 1) := by decide +kernel
theorem dX9_readParents_109 : decode cX9_readParents 109 = .ok (.putfield 197, 3) := by decide +kernel
theorem dX9_readParents_112 : decode cX9_readParents 112 = .ok (.aload_n 0, 1) := by decide +kernel
theorem dX9_readParents_113 : decode cX9_readParents 113 = .ok (.invokevirtual 158, 3) := by decide +kernel
theorem dX9_readParents_116 : decode cX9_readParents 116 = .ok (.ifCond .ne 5, 3) := by decide +kernel
theorem dX9_readParents_119 : decode cX9_readParents 119 = .ok (.iconst 0, 1) := by decide +kernel
theorem dX9_readParents_120 : decode cX9_readParents 120 = .ok (.ireturn, 1) := by decide +kernel
theorem dX9_readParents_121 : decode cX9_readParents 121 = .ok (.aload_n 0, 1) := by decide +kernel
theorem dX9_readParents_122 : decode cX9_readParents 122 = .ok (.aload_n 1, 1) := by decide +kernel
theorem dX9_readParents_123 : decode cX9_readParents 123 = .ok (.bipush 15, 2) := by decide +kernel
theorem dX9_readParents_125 : decode cX9_readParents 125 = .ok (.iconst 1, 1) := by decide +kernel
theorem dX9_readParents_126 : decode cX9_readParents 126 = .ok (.bipush 8, 2) := by decide +kernel
theorem dX9_readParents_128 : decode cX9_readParents 128 = .ok (.invokevirtual 193, 3) := by decide +kernel
theorem dX9_readParents_131 : decode cX9_readParents 131 = .ok (.ifCond .eq 20, 3) := by decide +kernel
theorem dX9_readParents_134 : decode cX9_readParents 134 = .ok (.aload_n 0, 1) := by decide +kernel
theorem dX9_readParents_135 : decode cX9_readParents 135 = .ok (.aload_n 1, 1) := by decide +kernel
theorem dX9_readParents_136 : decode cX9_readParents 136 = .ok (.bipush 16, 2) := by decide +kernel
theorem dX9_readParents_138 : decode cX9_readParents 138 = .ok (.iconst 2, 1) := by decide +kernel
theorem dX9_readParents_139 : decode cX9_readParents 139 = .ok (.bipush 8, 2) := by decide +kernel
theorem dX9_readParents_141 : decode cX9_readParents 141 = .ok (.invokevirtual 193, 3) := by decide +kernel
theorem dX9_readParents_144 : decode cX9_readParents 144 = .ok (.ifCond .eq 7, 3) := by decide +kernel
theorem dX9_readParents_147 : decode cX9_readParents 147 = .ok (.iconst 1, 1) := by decide +kernel
theorem dX9_readParents_148 : decode cX9_readParents 148 = .ok (.goto 4, 3) := by decide +kernel
theorem dX9_readParents_151 : decode cX9_readParents 151 = .ok (.iconst 0, 1) := by decide +kernel
theorem dX9_readParents_152 : decode cX9_readParents 152 = .ok (.ireturn, 1) := by decide +kernel
theorem dX9_readList_0 : decode cX9_readList 0 = .ok (.aload_n 0, 1) := by decide +kernel
theorem dX9_readList_1 : decode cX9_readList 1 = .ok (.invokevirtual 74, 3) := by decide +kernel
theorem dX9_readList_4 : decode cX9_readList 4 = .ok (.iload_n 2, 1) := by decide +kernel
theorem dX9_readList_5 : decode cX9_readList 5 = .ok (.if_icmp .eq 5, 3) := by decide +kernel
theorem dX9_readList_8 : decode cX9_readList 8 = .ok (.iconst 1, 1) := by decide +kernel
theorem dX9_readList_9 : decode cX9_readList 9 = .ok (.ireturn, 1) := by decide +kernel
theorem dX9_readList_10 : decode cX9_readList 10 = .ok (.iconst 1, 1) := by decide +kernel
theorem dX9_readList_11 : decode cX9_readList 11 = .ok (.istore 5, 2) := by decide +kernel
theorem dX9_readList_13 : decode cX9_readList 13 = .ok (.iconst 0, 1) := by decide +kernel
theorem dX9_readList_14 : decode cX9_readList 14 = .ok (.istore 6, 2) := by decide +kernel
theorem dX9_readList_16 : decode cX9_readList 16 = .ok (.iload 6, 2) := by decide +kernel
theorem dX9_readList_18 : decode cX9_readList 18 = .ok (.sipush 700, 3) := by decide +kernel
theorem dX9_readList_21 : decode cX9_readList 21 = .ok (.if_icmp .ge 91, 3) := by decide +kernel
theorem dX9_readList_24 : decode cX9_readList 24 = .ok (.iload 5, 2) := by decide +kernel
theorem dX9_readList_26 : decode cX9_readList 26 = .ok (.ifCond .eq 86, 3) := by decide +kernel
theorem dX9_readList_29 : decode cX9_readList 29 = .ok (.aload_n 0, 1) := by decide +kernel
theorem dX9_readList_30 : decode cX9_readList 30 = .ok (.invokevirtual 158, 3) := by decide +kernel
theorem dX9_readList_33 : decode cX9_readList 33 = .ok (.ifCond .eq 11, 3) := by decide +kernel
theorem dX9_readList_36 : decode cX9_readList 36 = .ok (.aload_n 0, 1) := by decide +kernel
theorem dX9_readList_37 : decode cX9_readList 37 = .ok (.invokevirtual 74, 3) := by decide +kernel
theorem dX9_readList_40 : decode cX9_readList 40 = .ok (.iconst 2, 1) := by decide +kernel
theorem dX9_readList_41 : decode cX9_readList 41 = .ok (.if_icmp .eq 8, 3) := by decide +kernel
theorem dX9_readList_44 : decode cX9_readList 44 = .ok (.aload_n 0, 1) := by decide +kernel
theorem dX9_readList_45 : decode cX9_readList 45 = .ok (.invokevirtual 151, 3) := by decide +kernel
theorem dX9_readList_48 : decode cX9_readList 48 = .ok (.ireturn, 1) := by decide +kernel
theorem dX9_readList_49 : decode cX9_readList 49 = .ok (.aload_n 1, 1) := by decide +kernel
theorem dX9_readList_50 : decode cX9_readList 50 = .ok (.getfield 200, 3) := by decide +kernel
theorem dX9_readList_53 : decode cX9_readList 53 = .ok (.iload_n 3, 1) := by decide +kernel
theorem dX9_readList_54 : decode cX9_readList 54 = .ok (.iaload, 1) := by decide +kernel
theorem dX9_readList_55 : decode cX9_readList 55 = .ok (.iload 4, 2) := by decide +kernel
theorem dX9_readList_57 : decode cX9_readList 57 = .ok (.if_icmp .lt 9, 3) := by decide +kernel
theorem dX9_readList_60 : decode cX9_readList 60 = .ok (.aload_n 0, 1) := by decide +kernel
theorem dX9_readList_61 : decode cX9_readList 61 = .ok (.iconst 3, 1) := by decide +kernel
theorem dX9_readList_62 : decode cX9_readList 62 = .ok (.invokevirtual 148, 3) := by decide +kernel
theorem dX9_readList_65 : decode cX9_readList 65 = .ok (.ireturn, 1) := by decide +kernel
theorem dX9_readList_66 : decode cX9_readList 66 = .ok (.aload_n 1, 1) := by decide +kernel
theorem dX9_readList_67 : decode cX9_readList 67 = .ok (.iload_n 3, 1) := by decide +kernel
theorem dX9_readList_68 : decode cX9_readList 68 = .ok (.aload_n 0, 1) := by decide +kernel
theorem dX9_readList_69 : decode cX9_readList 69 = .ok (.getfield 25, 3) := by decide +kernel
theorem dX9_readList_72 : decode cX9_readList 72 = .ok (.aload_n 0, 1) := by decide +kernel
theorem dX9_readList_73 : decode cX9_readList 73 = .ok (.getfield 114, 3) := by decide +kernel
theorem dX9_readList_76 : decode cX9_readList 76 = .ok (.laload, 1) := by decide +kernel
theorem dX9_readList_77 : decode cX9_readList 77 = .ok (.invokevirtual 203, 3) := by decide +kernel
theorem dX9_readList_80 : decode cX9_readList 80 = .ok (.aload_n 0, 1) := by decide +kernel
theorem dX9_readList_81 : decode cX9_readList 81 = .ok (.invokevirtual 158, 3) := by decide +kernel
theorem dX9_readList_84 : decode cX9_readList 84 = .ok (.ifCond .ne 5, 3) := by decide +kernel
theorem dX9_readList_87 : decode cX9_readList 87 = .ok (.iconst 0, 1) := by decide +kernel
theorem dX9_readList_88 : decode cX9_readList 88 = .ok (.ireturn, 1) := by decide +kernel
theorem dX9_readList_89 : decode cX9_readList 89 = .ok (.aload_n 0, 1) := by decide +kernel
theorem dX9_readList_90 : decode cX9_readList 90 = .ok (.invokevirtual 74, 3) := by decide +kernel
theorem dX9_readList_93 : decode cX9_readList 93 = .ok (.sipush 144, 3) := by decide +kernel
theorem dX9_readList_96 : decode cX9_readList 96 = .ok (.if_icmp .ne 7, 3) := by decide +kernel
theorem dX9_readList_99 : decode cX9_readList 99 = .ok (.iconst 1, 1) := by decide +kernel
theorem dX9_readList_100 : decode cX9_readList 100 = .ok (.goto 4, 3) := by decide +kernel
theorem dX9_readList_103 : decode cX9_readList 103 = .ok (.iconst 0, 1) := by decide +kernel
theorem dX9_readList_104 : decode cX9_readList 104 = .ok (.istore 5, 2) := by decide +kernel
theorem dX9_readList_106 : decode cX9_readList 106 = .ok (.iinc 6 1, 3) := by decide +kernel
theorem dX9_readList_109 : decode cX9_readList 109 = .ok (.goto (-93), 3) := by decide +kernel
theorem dX9_readList_112 : decode cX9_readList 112 = .ok (.iconst 1, 1) := by decide +kernel
theorem dX9_readList_113 : decode cX9_readList 113 = .ok (.ireturn, 1) := by decide +kernel
theorem dX9_readMember_0 : decode cX9_readMember 0 = .ok (.aload_n 0, 1) := by decide +kernel
theorem dX9_readMember_1 : decode cX9_readMember 1 = .ok (.invokevirtual 74, 3) := by decide +kernel
theorem dX9_readMember_4 : decode cX9_readMember 4 = .ok (.istore_n 2, 1) := by decide +kernel
theorem dX9_readMember_5 : decode cX9_readMember 5 = .ok (.iload_n 2, 1) := by decide +kernel
theorem dX9_readMember_6 : decode cX9_readMember 6 = .ok (.iconst 2, 1) := by decide +kernel
theorem dX9_readMember_7 : decode cX9_readMember 7 = .ok (.if_icmp .eq 20, 3) := by decide +kernel
theorem dX9_readMember_10 : decode cX9_readMember 10 = .ok (.iload_n 2, 1) := by decide +kernel
theorem dX9_readMember_11 : decode cX9_readMember 11 = .ok (.bipush 17, 2) := by decide +kernel
theorem dX9_readMember_13 : decode cX9_readMember 13 = .ok (.if_icmp .lt 9, 3) := by decide +kernel
theorem dX9_readMember_16 : decode cX9_readMember 16 = .ok (.iload_n 2, 1) := by decide +kernel
theorem dX9_readMember_17 : decode cX9_readMember 17 = .ok (.bipush 26, 2) := by decide +kernel
theorem dX9_readMember_19 : decode cX9_readMember 19 = .ok (.if_icmp .le 8, 3) := by decide +kernel
theorem dX9_readMember_22 : decode cX9_readMember 22 = .ok (.aload_n 0, 1) := by decide +kernel
theorem dX9_readMember_23 : decode cX9_readMember 23 = .ok (.invokevirtual 151, 3) := by decide +kernel
theorem dX9_readMember_26 : decode cX9_readMember 26 = .ok (.ireturn, 1) := by decide +kernel
theorem dX9_readMember_27 : decode cX9_readMember 27 = .ok (.aload_n 1, 1) := by decide +kernel
theorem dX9_readMember_28 : decode cX9_readMember 28 = .ok (.getfield 88, 3) := by decide +kernel
theorem dX9_readMember_31 : decode cX9_readMember 31 = .ok (.bipush 20, 2) := by decide +kernel
theorem dX9_readMember_33 : decode cX9_readMember 33 = .ok (.if_icmp .lt 9, 3) := by decide +kernel
theorem dX9_readMember_36 : decode cX9_readMember 36 = .ok (.aload_n 0, 1) := by decide +kernel
theorem dX9_readMember_37 : decode cX9_readMember 37 = .ok (.iconst 3, 1) := by decide +kernel
theorem dX9_readMember_38 : decode cX9_readMember 38 = .ok (.invokevirtual 148, 3) := by decide +kernel
theorem dX9_readMember_41 : decode cX9_readMember 41 = .ok (.ireturn, 1) := by decide +kernel
theorem dX9_readMember_42 : decode cX9_readMember 42 = .ok (.aload_n 0, 1) := by decide +kernel
theorem dX9_readMember_43 : decode cX9_readMember 43 = .ok (.getfield 51, 3) := by decide +kernel
theorem dX9_readMember_46 : decode cX9_readMember 46 = .ok (.invokevirtual 207, 3) := by decide +kernel
theorem dX9_readMember_49 : decode cX9_readMember 49 = .ok (.astore_n 3, 1) := by decide +kernel
theorem dX9_readMember_50 : decode cX9_readMember 50 = .ok (.aload_n 1, 1) := by decide +kernel
theorem dX9_readMember_51 : decode cX9_readMember 51 = .ok (.aload_n 3, 1) := by decide +kernel
theorem dX9_readMember_52 : decode cX9_readMember 52 = .ok (.invokevirtual 211, 3) := by decide +kernel
theorem dX9_readMember_55 : decode cX9_readMember 55 = .ok (.aload_n 0, 1) := by decide +kernel
theorem dX9_readMember_56 : decode cX9_readMember 56 = .ok (.sipush 223, 3) := by decide +kernel
theorem dX9_readMember_59 : decode cX9_readMember 59 = .ok (.putfield 85, 3) := by decide +kernel
theorem dX9_readMember_62 : decode cX9_readMember 62 = .ok (.iload_n 2, 1) := by decide +kernel
theorem dX9_readMember_63 : decode cX9_readMember 63 = .ok (.bipush 23, 2) := by decide +kernel
theorem dX9_readMember_65 : decode cX9_readMember 65 = .ok (.if_icmp .ne 21, 3) := by decide +kernel
theorem dX9_readMember_68 : decode cX9_readMember 68 = .ok (.aload_n 3, 1) := by decide +kernel
theorem dX9_readMember_69 : decode cX9_readMember 69 = .ok (.iconst 3, 1) := by decide +kernel
theorem dX9_readMember_70 : decode cX9_readMember 70 = .ok (.putfield 215, 3) := by decide +kernel
theorem dX9_readMember_73 : decode cX9_readMember 73 = .ok (.aload_n 3, 1) := by decide +kernel
theorem dX9_readMember_74 : decode cX9_readMember 74 = .ok (.aload_n 0, 1) := by decide +kernel
theorem dX9_readMember_75 : decode cX9_readMember 75 = .ok (.getfield 114, 3) := by decide +kernel
theorem dX9_readMember_78 : decode cX9_readMember 78 = .ok (.putfield 219, 3) := by decide +kernel
theorem dX9_readMember_81 : decode cX9_readMember 81 = .ok (.aload_n 0, 1) := by decide +kernel
theorem dX9_readMember_82 : decode cX9_readMember 82 = .ok (.invokevirtual 158, 3) := by decide +kernel
theorem dX9_readMember_85 : decode cX9_readMember 85 = .ok (.ireturn, 1) := by decide +kernel
theorem dX9_readMember_86 : decode cX9_readMember 86 = .ok (.aload_n 1, 1) := by decide +kernel
theorem dX9_readMember_87 : decode cX9_readMember 87 = .ok (.aload_n 3, 1) := by decide +kernel
theorem dX9_readMember_88 : decode cX9_readMember 88 = .ok (.invokevirtual 220, 3) := by decide +kernel
theorem dX9_readMember_91 : decode cX9_readMember 91 = .ok (.iload_n 2, 1) := by decide +kernel
theorem dX9_readMember_92 : decode cX9_readMember 92 = .ok (.bipush 17, 2) := by decide +kernel
theorem dX9_readMember_94 : decode cX9_readMember 94 = .ok (.if_icmp .lt 43, 3) := by decide +kernel
theorem dX9_readMember_97 : decode cX9_readMember 97 = .ok (.iload_n 2, 1) := by decide +kernel
theorem dX9_readMember_98 : decode cX9_readMember 98 = .ok (.bipush 19, 2) := by decide +kernel
theorem dX9_readMember_100 : decode cX9_readMember 100 = .ok (.if_icmp .gt 37, 3) := by decide +kernel
theorem dX9_readMember_103 : decode cX9_readMember 103 = .ok (.aload_n 3, 1) := by decide +kernel
theorem dX9_readMember_104 : decode cX9_readMember 104 = .ok (.iload_n 2, 1) := by decide +kernel
theorem dX9_readMember_105 : decode cX9_readMember 105 = .ok (.bipush 17, 2) := by decide +kernel
theorem dX9_readMember_107 : decode cX9_readMember 107 = .ok (.if_icmp .ne 7, 3) := by decide +kernel
theorem dX9_readMember_110 : decode cX9_readMember 110 = .ok (.iconst 3, 1) := by decide +kernel
theorem dX9_readMember_111 : decode cX9_readMember 111 = .ok (.goto 14, 3) := by decide +kernel
theorem dX9_readMember_114 : decode cX9_readMember 114 = .ok (.iload_n 2, 1) := by decide +kernel
theorem dX9_readMember_115 : decode cX9_readMember 115 = .ok (.bipush 18, 2) := by decide +kernel
theorem dX9_readMember_117 : decode cX9_readMember 117 = .ok (.if_icmp .ne 7, 3) := by decide +kernel
theorem dX9_readMember_120 : decode cX9_readMember 120 = .ok (.iconst 2, 1) := by decide +kernel
theorem dX9_readMember_121 : decode cX9_readMember 121 = .ok (.goto 4, 3) := by decide +kernel
theorem dX9_readMember_124 : decode cX9_readMember 124 = .ok (.iconst 0, 1) := by decide +kernel
theorem dX9_readMember_125 : decode cX9_readMember 125 = .ok (.putfield 223, 3) := by decide +kernel
theorem dX9_readMember_128 : decode cX9_readMember 128 = .ok (.aload_n 0, 1) := by decide +kernel
theorem dX9_readMember_129 : decode cX9_readMember 129 = .ok (.invokevirtual 158, 3) := by decide +kernel
theorem dX9_readMember_132 : decode cX9_readMember 132 = .ok (.ifCond .ne 5, 3) := by decide +kernel
theorem dX9_readMember_135 : decode cX9_readMember 135 = .ok (.iconst 0, 1) := by decide +kernel
theorem dX9_readMember_136 : decode cX9_readMember 136 = .ok (.ireturn, 1) := by decide +kernel
theorem dX9_readMember_137 : decode cX9_readMember 137 = .ok (.aload_n 0, 1) := by decide +kernel
theorem dX9_readMember_138 : decode cX9_readMember 138 = .ok (.invokevirtual 74, 3) := by decide +kernel
theorem dX9_readMember_141 : decode cX9_readMember 141 = .ok (.bipush 25, 2) := by decide +kernel
theorem dX9_readMember_143 : decode cX9_readMember 143 = .ok (.if_icmp .ne 37, 3) := by decide +kernel
theorem dX9_readMember_146 : decode cX9_readMember 146 = .ok (.aload_n 3, 1) := by decide +kernel
theorem dX9_readMember_147 : decode cX9_readMember 147 = .ok (.iconst 2, 1) := by decide +kernel
theorem dX9_readMember_148 : decode cX9_readMember 148 = .ok (.putfield 215, 3) := by decide +kernel
theorem dX9_readMember_151 : decode cX9_readMember 151 = .ok (.aload_n 3, 1) := by decide +kernel
theorem dX9_readMember_152 : decode cX9_readMember 152 = .ok (.aload_n 0, 1) := by decide +kernel
theorem dX9_readMember_153 : decode cX9_readMember 153 = .ok (.getfield 114, 3) := by decide +kernel
theorem dX9_readMember_156 : decode cX9_readMember 156 = .ok (.putfield 219, 3) := by decide +kernel
theorem dX9_readMember_159 : decode cX9_readMember 159 = .ok (.aload_n 0, 1) := by decide +kernel
theorem dX9_readMember_160 : decode cX9_readMember 160 = .ok (.invokevirtual 158, 3) := by decide +kernel
theorem dX9_readMember_163 : decode cX9_readMember 163 = .ok (.ifCond .eq 15, 3) := by decide +kernel
theorem dX9_readMember_166 : decode cX9_readMember 166 = .ok (.aload_n 0, 1) := by decide +kernel
theorem dX9_readMember_167 : decode cX9_readMember 167 = .ok (.aload_n 3, 1) := by decide +kernel
theorem dX9_readMember_168 : decode cX9_readMember 168 = .ok (.invokevirtual 226, 3) := by decide +kernel
theorem dX9_readMember_171 : decode cX9_readMember 171 = .ok (.ifCond .eq 7, 3) := by decide +kernel
theorem dX9_readMember_174 : decode cX9_readMember 174 = .ok (.iconst 1, 1) := by decide +kernel
theorem dX9_readMember_175 : decode cX9_readMember 175 = .ok (.goto 4, 3) := by decide +kernel
theorem dX9_readMember_178 : decode cX9_readMember 178 = .ok (.iconst 0, 1) := by decide +kernel
theorem dX9_readMember_179 : decode cX9_readMember 179 = .ok (.ireturn, 1) := by decide +kernel
theorem dX9_readMember_180 : decode cX9_readMember 180 = .ok (.aload_n 3, 1) := by decide +kernel
theorem dX9_readMember_181 : decode cX9_readMember 181 = .ok (.aload_n 0, 1) := by decide +kernel
theorem dX9_readMember_182 : decode cX9_readMember 182 = .ok (.invokevirtual 74, 3) := by decide +kernel
theorem dX9_readMember_185 : decode cX9_readMember 185 = .ok (.bipush 22, 2) := by decide +kernel
theorem dX9_readMember_187 : decode cX9_readMember 187 = .ok (.if_icmp .ne 7, 3) := by decide +kernel
theorem dX9_readMember_190 : decode cX9_readMember 190 = .ok (.iconst 1, 1) := by decide +kernel
theorem dX9_readMember_191 : decode cX9_readMember 191 = .ok (.goto 4, 3) := by decide +kernel
theorem dX9_readMember_194 : decode cX9_readMember 194 = .ok (.iconst 0, 1) := by decide +kernel
theorem dX9_readMember_195 : decode cX9_readMember 195 = .ok (.putfield 229, 3) := by decide +kernel
theorem dX9_readMember_198 : decode cX9_readMember 198 = .ok (.aload_n 3, 1) := by decide +kernel
theorem dX9_readMember_199 : decode cX9_readMember 199 = .ok (.getfield 229, 3) := by decide +kernel
theorem dX9_readMember_202 : decode cX9_readMember 202 = .ok (.ifCond .eq 12, 3) := by decide +kernel
theorem dX9_readMember_205 : decode cX9_readMember 205 = .ok (.aload_n 0, 1) := by decide +kernel
theorem dX9_readMember_206 : decode cX9_readMember 206 = .ok (.invokevirtual 158, 3) := by decide +kernel
theorem dX9_readMember_209 : decode cX9_readMember 209 = .ok (.ifCond .ne 5, 3) := by decide +kernel
theorem dX9_readMember_212 : decode cX9_readMember 212 = .ok (.iconst 0, 1) := by decide +kernel
theorem dX9_readMember_213 : decode cX9_readMember 213 = .ok (.ireturn, 1) := by decide +kernel
theorem dX9_readMember_214 : decode cX9_readMember 214 = .ok (.aload_n 3, 1) := by decide +kernel
theorem dX9_readMember_215 : decode cX9_readMember 215 = .ok (.aload_n 0, 1) := by decide +kernel
theorem dX9_readMember_216 : decode cX9_readMember 216 = .ok (.invokevirtual 74, 3) := by decide +kernel
theorem dX9_readMember_219 : decode cX9_readMember 219 = .ok (.bipush 20, 2) := by decide +kernel
theorem dX9_readMember_221 : decode cX9_readMember 221 = .ok (.if_icmp .ne 7, 3) := by decide +kernel
theorem dX9_readMember_224 : decode cX9_readMember 224 = .ok (.iconst 1, 1) := by decide +kernel
theorem dX9_readMember_225 : decode cX9_readMember 225 = .ok (.goto 4, 3) := by decide +kernel
theorem dX9_readMember_228 : decode cX9_readMember 228 = .ok (.iconst 0, 1) := by decide +kernel
theorem dX9_readMember_229 : decode cX9_readMember 229 = .ok (.putfield 232, 3) := by decide +kernel
theorem dX9_readMember_232 : decode cX9_readMember 232 = .ok (.aload_n 3, 1) := by decide +kernel
theorem dX9_readMember_233 : decode cX9_readMember 233 = .ok (.aload_n 0, 1) := by decide +kernel
theorem dX9_readMember_234 : decode cX9_readMember 234 = .ok (.invokevirtual 74, 3) := by decide +kernel
theorem dX9_readMember_237 : decode cX9_readMember 237 = .ok (.bipush 21, 2) := by decide +kernel
theorem dX9_readMember_239 : decode cX9_readMember 239 = .ok (.if_icmp .ne 7, 3) := by decide +kernel
theorem dX9_readMember_242 : decode cX9_readMember 242 = .ok (.iconst 1, 1) := by decide +kernel
theorem dX9_readMember_243 : decode cX9_readMember 243 = .ok (.goto 4, 3) := by decide +kernel
theorem dX9_readMember_246 : decode cX9_readMember 246 = .ok (.iconst 0, 1) := by decide +kernel
theorem dX9_readMember_247 : decode cX9_readMember 247 = .ok (.putfield 233, 3) := by decide +kernel
theorem dX9_readMember_250 : decode cX9_readMember 250 = .ok (.aload_n 3, 1) := by decide +kernel
theorem dX9_readMember_251 : decode cX9_readMember 251 = .ok (.getfield 232, 3) := by decide +kernel
theorem dX9_readMember_254 : decode cX9_readMember 254 = .ok (.ifCond .ne 10, 3) := by decide +kernel
theorem dX9_readMember_257 : decode cX9_readMember 257 = .ok (.aload_n 3, 1) := by decide +kernel
theorem dX9_readMember_258 : decode cX9_readMember 258 = .ok (.getfield 233, 3) := by decide +kernel
theorem dX9_readMember_261 : decode cX9_readMember 261 = .ok (.ifCond .eq 10, 3) := by decide +kernel
theorem dX9_readMember_264 : decode cX9_readMember 264 = .ok (.aload_n 0, 1) := by decide +kernel
theorem dX9_readMember_265 : decode cX9_readMember 265 = .ok (.invokevirtual 158, 3) := by decide +kernel
theorem dX9_readMember_268 : decode cX9_readMember 268 = .ok (.ifCond .eq 15, 3) := by decide +kernel
theorem dX9_readMember_271 : decode cX9_readMember 271 = .ok (.aload_n 0, 1) := by decide +kernel
theorem dX9_readMember_272 : decode cX9_readMember 272 = .ok (.aload_n 3, 1) := by decide +kernel
theorem dX9_readMember_273 : decode cX9_readMember 273 = .ok (.invokevirtual 234, 3) := by decide +kernel
theorem dX9_readMember_276 : decode cX9_readMember 276 = .ok (.ifCond .eq 7, 3) := by decide +kernel
theorem dX9_readMember_279 : decode cX9_readMember 279 = .ok (.iconst 1, 1) := by decide +kernel
theorem dX9_readMember_280 : decode cX9_readMember 280 = .ok (.goto 4, 3) := by decide +kernel
theorem dX9_readMember_283 : decode cX9_readMember 283 = .ok (.iconst 0, 1) := by decide +kernel
theorem dX9_readMember_284 : decode cX9_readMember 284 = .ok (.ireturn, 1) := by decide +kernel
theorem dX9_readTyped_0 : decode cX9_readTyped 0 = .ok (.aload_n 0, 1) := by decide +kernel
theorem dX9_readTyped_1 : decode cX9_readTyped 1 = .ok (.invokevirtual 74, 3) := by decide +kernel
theorem dX9_readTyped_4 : decode cX9_readTyped 4 = .ok (.bipush 24, 2) := by decide +kernel
theorem dX9_readTyped_6 : decode cX9_readTyped 6 = .ok (.if_icmp .ne 7, 3) := by decide +kernel
theorem dX9_readTyped_9 : decode cX9_readTyped 9 = .ok (.iconst 1, 1) := by decide +kernel
theorem dX9_readTyped_10 : decode cX9_readTyped 10 = .ok (.goto 4, 3) := by decide +kernel
theorem dX9_readTyped_13 : decode cX9_readTyped 13 = .ok (.iconst 0, 1) := by decide +kernel
theorem dX9_readTyped_14 : decode cX9_readTyped 14 = .ok (.istore_n 2, 1) := by decide +kernel
theorem dX9_readTyped_15 : decode cX9_readTyped 15 = .ok (.iload_n 2, 1) := by decide +kernel
theorem dX9_readTyped_16 : decode cX9_readTyped 16 = .ok (.ifCond .ne 25, 3) := by decide +kernel
theorem dX9_readTyped_19 : decode cX9_readTyped 19 = .ok (.aload_n 0, 1) := by decide +kernel
theorem dX9_readTyped_20 : decode cX9_readTyped 20 = .ok (.invokevirtual 74, 3) := by decide +kernel
theorem dX9_readTyped_23 : decode cX9_readTyped 23 = .ok (.bipush 26, 2) := by decide +kernel
theorem dX9_readTyped_25 : decode cX9_readTyped 25 = .ok (.if_icmp .eq 16, 3) := by decide +kernel
theorem dX9_readTyped_28 : decode cX9_readTyped 28 = .ok (.aload_n 0, 1) := by decide +kernel
theorem dX9_readTyped_29 : decode cX9_readTyped 29 = .ok (.invokevirtual 74, 3) := by decide +kernel
theorem dX9_readTyped_32 : decode cX9_readTyped 32 = .ok (.iconst 2, 1) := by decide +kernel
theorem dX9_readTyped_33 : decode cX9_readTyped 33 = .ok (.if_icmp .eq 8, 3) := by decide +kernel
theorem dX9_readTyped_36 : decode cX9_readTyped 36 = .ok (.aload_n 0, 1) := by decide +kernel
theorem dX9_readTyped_37 : decode cX9_readTyped 37 = .ok (.invokevirtual 151, 3) := by decide +kernel
theorem dX9_readTyped_40 : decode cX9_readTyped 40 = .ok (.ireturn, 1) := by decide +kernel
theorem dX9_readTyped_41 : decode cX9_readTyped 41 = .ok (.aload_n 1, 1) := by decide +kernel
theorem dX9_readTyped_42 : decode cX9_readTyped 42 = .ok (.iload_n 2, 1) := by decide +kernel
theorem dX9_readTyped_43 : decode cX9_readTyped 43 = .ok (.ifCond .eq 9, 3) := by decide +kernel
theorem dX9_readTyped_46 : decode cX9_readTyped 46 = .ok (.ldc2_w 237, 3) := by decide +kernel
theorem dX9_readTyped_49 : decode cX9_readTyped 49 = .ok (.goto 27, 3) := by decide +kernel
theorem dX9_readTyped_52 : decode cX9_readTyped 52 = .ok (.aload_n 0, 1) := by decide +kernel
theorem dX9_readTyped_53 : decode cX9_readTyped 53 = .ok (.invokevirtual 74, 3) := by decide +kernel
theorem dX9_readTyped_56 : decode cX9_readTyped 56 = .ok (.bipush 26, 2) := by decide +kernel
theorem dX9_readTyped_58 : decode cX9_readTyped 58 = .ok (.if_icmp .ne 9, 3) := by decide +kernel
theorem dX9_readTyped_61 : decode cX9_readTyped 61 = .ok (.ldc2_w 239, 3) := by decide +kernel
theorem dX9_readTyped_64 : decode cX9_readTyped 64 = .ok (.goto 12, 3) := by decide +kernel
theorem dX9_readTyped_67 : decode cX9_readTyped 67 = .ok (.aload_n 0, 1) := by decide +kernel
theorem dX9_readTyped_68 : decode cX9_readTyped 68 = .ok (.getfield 25, 3) := by decide +kernel
theorem dX9_readTyped_71 : decode cX9_readTyped 71 = .ok (.aload_n 0, 1) := by decide +kernel
theorem dX9_readTyped_72 : decode cX9_readTyped 72 = .ok (.getfield 114, 3) := by decide +kernel
theorem dX9_readTyped_75 : decode cX9_readTyped 75 = .ok (.laload, 1) := by decide +kernel
theorem dX9_readTyped_76 : decode cX9_readTyped 76 = .ok (.putfield 241, 3) := by decide +kernel
theorem dX9_readTyped_79 : decode cX9_readTyped 79 = .ok (.aload_n 0, 1) := by decide +kernel
theorem dX9_readTyped_80 : decode cX9_readTyped 80 = .ok (.invokevirtual 158, 3) := by decide +kernel
theorem dX9_readTyped_83 : decode cX9_readTyped 83 = .ok (.ifCond .ne 5, 3) := by decide +kernel
theorem dX9_readTyped_86 : decode cX9_readTyped 86 = .ok (.iconst 0, 1) := by decide +kernel
theorem dX9_readTyped_87 : decode cX9_readTyped 87 = .ok (.ireturn, 1) := by decide +kernel
theorem dX9_readTyped_88 : decode cX9_readTyped 88 = .ok (.aload_n 0, 1) := by decide +kernel
theorem dX9_readTyped_89 : decode cX9_readTyped 89 = .ok (.invokevirtual 74, 3) := by decide +kernel
theorem dX9_readTyped_92 : decode cX9_readTyped 92 = .ok (.iconst 3, 1) := by decide +kernel
theorem dX9_readTyped_93 : decode cX9_readTyped 93 = .ok (.if_icmp .eq 8, 3) := by decide +kernel
theorem dX9_readTyped_96 : decode cX9_readTyped 96 = .ok (.aload_n 0, 1) := by decide +kernel
theorem dX9_readTyped_97 : decode cX9_readTyped 97 = .ok (.invokevirtual 151, 3) := by decide +kernel
theorem dX9_readTyped_100 : decode cX9_readTyped 100 = .ok (.ireturn, 1) := by decide +kernel
theorem dX9_readTyped_101 : decode cX9_readTyped 101 = .ok (.aload_n 1, 1) := by decide +kernel

theorem dX9_round_117 : decode cX9_round 117 = .ok (.bipush 12, 2) := by decide +kernel
theorem dX9_round_119 : decode cX9_round 119 = .ok (.putfield 295, 3) := by decide +kernel
theorem dX9_round_122 : decode cX9_round 122 = .ok (.aload_n 1, 1) := by decide +kernel
theorem dX9_round_123 : decode cX9_round 123 = .ok (.aload_n 0, 1) := by decide +kernel
theorem dX9_round_124 : decode cX9_round 124 = .ok (.iload_n 2, 1) := by decide +kernel
theorem dX9_round_125 : decode cX9_round 125 = .ok (.invokevirtual 257, 3) := by decide +kernel
theorem dX9_round_128 : decode cX9_round 128 = .ok (.putfield 273, 3) := by decide +kernel
theorem dX9_round_131 : decode cX9_round 131 = .ok (.aload_n 1, 1) := by decide +kernel
theorem dX9_round_132 : decode cX9_round 132 = .ok (.getfield 273, 3) := by decide +kernel
theorem dX9_round_135 : decode cX9_round 135 = .ok (.ifnull 17, 3) := by decide +kernel
theorem dX9_round_138 : decode cX9_round 138 = .ok (.aload_n 0, 1) := by decide +kernel
theorem dX9_round_139 : decode cX9_round 139 = .ok (.sipush 141, 3) := by decide +kernel
theorem dX9_round_142 : decode cX9_round 142 = .ok (.invokevirtual 101, 3) := by decide +kernel
theorem dX9_round_145 : decode cX9_round 145 = .ok (.ifCond .eq 7, 3) := by decide +kernel
theorem dX9_round_148 : decode cX9_round 148 = .ok (.aload_n 1, 1) := by decide +kernel
theorem dX9_round_149 : decode cX9_round 149 = .ok (.goto 4, 3) := by decide +kernel
theorem dX9_round_152 : decode cX9_round 152 = .ok (.aconst_null, 1) := by decide +kernel
theorem dX9_round_153 : decode cX9_round 153 = .ok (.areturn, 1) := by decide +kernel
theorem dX9_args_0 : decode cX9_args 0 = .ok (.aload_n 0, 1) := by decide +kernel
theorem dX9_args_1 : decode cX9_args 1 = .ok (.sipush 140, 3) := by decide +kernel
theorem dX9_args_4 : decode cX9_args 4 = .ok (.invokevirtual 101, 3) := by decide +kernel
theorem dX9_args_7 : decode cX9_args 7 = .ok (.ifCond .ne 5, 3) := by decide +kernel
theorem dX9_args_10 : decode cX9_args 10 = .ok (.iconst 0, 1) := by decide +kernel
theorem dX9_args_11 : decode cX9_args 11 = .ok (.ireturn, 1) := by decide +kernel
theorem dX9_args_12 : decode cX9_args 12 = .ok (.aload_n 0, 1) := by decide +kernel
theorem dX9_args_13 : decode cX9_args 13 = .ok (.invokevirtual 74, 3) := by decide +kernel
theorem dX9_args_16 : decode cX9_args 16 = .ok (.sipush 141, 3) := by decide +kernel
theorem dX9_args_19 : decode cX9_args 19 = .ok (.if_icmp .eq 7, 3) := by decide +kernel
theorem dX9_args_22 : decode cX9_args 22 = .ok (.iconst 1, 1) := by decide +kernel
theorem dX9_args_23 : decode cX9_args 23 = .ok (.goto 4, 3) := by decide +kernel
theorem dX9_args_26 : decode cX9_args 26 = .ok (.iconst 0, 1) := by decide +kernel
theorem dX9_args_27 : decode cX9_args 27 = .ok (.istore_n 3, 1) := by decide +kernel
theorem dX9_args_28 : decode cX9_args 28 = .ok (.aconst_null, 1) := by decide +kernel
theorem dX9_args_29 : decode cX9_args 29 = .ok (.astore 4, 2) := by decide +kernel
theorem dX9_args_31 : decode cX9_args 31 = .ok (.iconst 0, 1) := by decide +kernel
theorem dX9_args_32 : decode cX9_args 32 = .ok (.istore 5, 2) := by decide +kernel
theorem dX9_args_34 : decode cX9_args 34 = .ok (.iload 5, 2) := by decide +kernel
theorem dX9_args_36 : decode cX9_args 36 = .ok (.sipush 700, 3) := by decide +kernel
theorem dX9_args_39 : decode cX9_args 39 = .ok (.if_icmp .ge 81, 3) := by decide +kernel
theorem dX9_args_42 : decode cX9_args 42 = .ok (.iload_n 3, 1) := by decide +kernel
theorem dX9_args_43 : decode cX9_args 43 = .ok (.ifCond .eq 77, 3) := by decide +kernel
theorem dX9_args_46 : decode cX9_args 46 = .ok (.aload_n 0, 1) := by decide +kernel
theorem dX9_args_47 : decode cX9_args 47 = .ok (.iload_n 2, 1) := by decide +kernel
theorem dX9_args_48 : decode cX9_args 48 = .ok (.invokevirtual 257, 3) := by decide +kernel
theorem dX9_args_51 : decode cX9_args 51 = .ok (.astore 6, 2) := by decide +kernel
theorem dX9_args_53 : decode cX9_args 53 = .ok (.aload 6, 2) := by decide +kernel
theorem dX9_args_55 : decode cX9_args 55 = .ok (.ifnonnull 5, 3) := by decide +kernel
theorem dX9_args_58 : decode cX9_args 58 = .ok (.iconst 0, 1) := by decide +kernel
theorem dX9_args_59 : decode cX9_args 59 = .ok (.ireturn, 1) := by decide +kernel
theorem dX9_args_60 : decode cX9_args 60 = .ok (.aload 4, 2) := by decide +kernel
theorem dX9_args_62 : decode cX9_args 62 = .ok (.ifnonnull 12, 3) := by decide +kernel
theorem dX9_args_65 : decode cX9_args 65 = .ok (.aload_n 1, 1) := by decide +kernel
theorem dX9_args_66 : decode cX9_args 66 = .ok (.aload 6, 2) := by decide +kernel
theorem dX9_args_68 : decode cX9_args 68 = .ok (.putfield 273, 3) := by decide +kernel
theorem dX9_args_71 : decode cX9_args 71 = .ok (.goto 10, 3) := by decide +kernel
theorem dX9_args_74 : decode cX9_args 74 = .ok (.aload 4, 2) := by decide +kernel
theorem dX9_args_76 : decode cX9_args 76 = .ok (.aload 6, 2) := by decide +kernel
theorem dX9_args_78 : decode cX9_args 78 = .ok (.putfield 276, 3) := by decide +kernel
theorem dX9_args_81 : decode cX9_args 81 = .ok (.aload 6, 2) := by decide +kernel
theorem dX9_args_83 : decode cX9_args 83 = .ok (.astore 4, 2) := by decide +kernel
theorem dX9_args_85 : decode cX9_args 85 = .ok (.aload_n 0, 1) := by decide +kernel
theorem dX9_args_86 : decode cX9_args 86 = .ok (.invokevirtual 74, 3) := by decide +kernel
theorem dX9_args_89 : decode cX9_args 89 = .ok (.sipush 144, 3) := by decide +kernel
theorem dX9_args_92 : decode cX9_args 92 = .ok (.if_icmp .ne 7, 3) := by decide +kernel
theorem dX9_args_95 : decode cX9_args 95 = .ok (.iconst 1, 1) := by decide +kernel
theorem dX9_args_96 : decode cX9_args 96 = .ok (.goto 4, 3) := by decide +kernel
theorem dX9_args_99 : decode cX9_args 99 = .ok (.iconst 0, 1) := by decide +kernel
theorem dX9_args_100 : decode cX9_args 100 = .ok (.istore_n 3, 1) := by decide +kernel
theorem dX9_args_101 : decode cX9_args 101 = .ok (.iload_n 3, 1) := by decide +kernel
theorem dX9_args_102 : decode cX9_args 102 = .ok (.ifCond .eq 12, 3) := by decide +kernel
theorem dX9_args_105 : decode cX9_args 105 = .ok (.aload_n 0, 1) := by decide +kernel
theorem dX9_args_106 : decode cX9_args 106 = .ok (.invokevirtual 158, 3) := by decide +kernel
theorem dX9_args_109 : decode cX9_args 109 = .ok (.ifCond .ne 5, 3) := by decide +kernel
theorem dX9_args_112 : decode cX9_args 112 = .ok (.iconst 0, 1) := by decide +kernel
theorem dX9_args_113 : decode cX9_args 113 = .ok (.ireturn, 1) := by decide +kernel
theorem dX9_args_114 : decode cX9_args 114 = .ok (.iinc 5 1, 3) := by decide +kernel
theorem dX9_args_117 : decode cX9_args 117 = .ok (.goto (-83), 3) := by decide +kernel
theorem dX9_args_120 : decode cX9_args 120 = .ok (.aload_n 0, 1) := by decide +kernel
theorem dX9_args_121 : decode cX9_args 121 = .ok (.sipush 141, 3) := by decide +kernel
theorem dX9_args_124 : decode cX9_args 124 = .ok (.invokevirtual 101, 3) := by decide +kernel
theorem dX9_args_127 : decode cX9_args 127 = .ok (.ireturn, 1) := by decide +kernel
theorem dX10_init_0 : decode cX10_init 0 = .ok (.aload_n 0, 1) := by decide +kernel
theorem dX10_init_1 : decode cX10_init 1 = .ok (.invokespecial 3, 3) := by decide +kernel
theorem dX10_init_4 : decode cX10_init 4 = .ok (.aload_n 0, 1) := by decide +kernel
theorem dX10_init_5 : decode cX10_init 5 = .ok (.bipush 24, 2) := by decide +kernel
theorem dX10_init_7 : decode cX10_init 7 = .ok (.newarray .long, 2) := by decide +kernel
theorem dX10_init_9 : decode cX10_init 9 = .ok (.putfield 9, 3) := by decide +kernel
theorem dX10_init_12 : decode cX10_init 12 = .ok (.aload_n 0, 1) := by decide +kernel
theorem dX10_init_13 : decode cX10_init 13 = .ok (.iconst 3, 1) := by decide +kernel
theorem dX10_init_14 : decode cX10_init 14 = .ok (.newarray .int, 2) := by decide +kernel
theorem dX10_init_16 : decode cX10_init 16 = .ok (.putfield 15, 3) := by decide +kernel
theorem dX10_init_19 : decode cX10_init 19 = .ok (.aload_n 0, 1) := by decide +kernel
theorem dX10_init_20 : decode cX10_init 20 = .ok (.bipush 20, 2) := by decide +kernel
theorem dX10_init_22 : decode cX10_init 22 = .ok (.anewarray 19, 3) := by decide +kernel
theorem dX10_init_25 : decode cX10_init 25 = .ok (.putfield 21, 3) := by decide +kernel
theorem dX10_init_28 : decode cX10_init 28 = .ok (.aload_n 0, 1) := by decide +kernel
theorem dX10_init_29 : decode cX10_init 29 = .ok (.bipush 33, 2) := by decide +kernel
theorem dX10_init_31 : decode cX10_init 31 = .ok (.anewarray 19, 3) := by decide +kernel
theorem dX10_init_34 : decode cX10_init 34 = .ok (.putfield 25, 3) := by decide +kernel
theorem dX10_init_37 : decode cX10_init 37 = .ok (.return_, 1) := by decide +kernel
theorem dX10_clear_0 : decode cX10_clear 0 = .ok (.aload_n 0, 1) := by decide +kernel
theorem dX10_clear_1 : decode cX10_clear 1 = .ok (.aload_n 1, 1) := by decide +kernel
theorem dX10_clear_2 : decode cX10_clear 2 = .ok (.putfield 28, 3) := by decide +kernel
theorem dX10_clear_5 : decode cX10_clear 5 = .ok (.aload_n 0, 1) := by decide +kernel
theorem dX10_clear_6 : decode cX10_clear 6 = .ok (.ldc2_w 32, 3) := by decide +kernel
theorem dX10_clear_9 : decode cX10_clear 9 = .ok (.putfield 34, 3) := by decide +kernel
theorem dX10_clear_12 : decode cX10_clear 12 = .ok (.aload_n 0, 1) := by decide +kernel
theorem dX10_clear_13 : decode cX10_clear 13 = .ok (.iconst 0, 1) := by decide +kernel
theorem dX10_clear_14 : decode cX10_clear 14 = .ok (.putfield 38, 3) := by decide +kernel
theorem dX10_clear_17 : decode cX10_clear 17 = .ok (.aload_n 0, 1) := by decide +kernel
theorem dX10_clear_18 : decode cX10_clear 18 = .ok (.iconst 0, 1) := by decide +kernel
theorem dX10_clear_19 : decode cX10_clear 19 = .ok (.putfield 42, 3) := by decide +kernel
theorem dX10_clear_22 : decode cX10_clear 22 = .ok (.aload_n 0, 1) := by decide +kernel
theorem dX10_clear_23 : decode cX10_clear 23 = .ok (.iconst 0, 1) := by decide +kernel
theorem dX10_clear_24 : decode cX10_clear 24 = .ok (.putfield 46, 3) := by decide +kernel
theorem dX10_clear_27 : decode cX10_clear 27 = .ok (.aload_n 0, 1) := by decide +kernel
theorem dX10_clear_28 : decode cX10_clear 28 = .ok (.iconst 0, 1) := by decide +kernel
theorem dX10_clear_29 : decode cX10_clear 29 = .ok (.putfield 49, 3) := by decide +kernel
theorem dX10_clear_32 : decode cX10_clear 32 = .ok (.aload_n 0, 1) := by decide +kernel
theorem dX10_clear_33 : decode cX10_clear 33 = .ok (.iconst 0, 1) := by decide +kernel
theorem dX10_clear_34 : decode cX10_clear 34 = .ok (.putfield 52, 3) := by decide +kernel
theorem dX10_clear_37 : decode cX10_clear 37 = .ok (.aload_n 0, 1) := by decide +kernel
theorem dX10_clear_38 : decode cX10_clear 38 = .ok (.iconst 0, 1) := by decide +kernel
theorem dX10_clear_39 : decode cX10_clear 39 = .ok (.putfield 55, 3) := by decide +kernel
theorem dX10_clear_42 : decode cX10_clear 42 = .ok (.aload_n 0, 1) := by decide +kernel
theorem dX10_clear_43 : decode cX10_clear 43 = .ok (.ldc2_w 58, 3) := by decide +kernel
theorem dX10_clear_46 : decode cX10_clear 46 = .ok (.putfield 60, 3) := by decide +kernel
theorem dX10_clear_49 : decode cX10_clear 49 = .ok (.aload_n 0, 1) := by decide +kernel
theorem dX10_clear_50 : decode cX10_clear 50 = .ok (.ldc2_w 32, 3) := by decide +kernel
theorem dX10_clear_53 : decode cX10_clear 53 = .ok (.putfield 63, 3) := by decide +kernel
theorem dX10_clear_56 : decode cX10_clear 56 = .ok (.aload_n 0, 1) := by decide +kernel
theorem dX10_clear_57 : decode cX10_clear 57 = .ok (.getfield 15, 3) := by decide +kernel
theorem dX10_clear_60 : decode cX10_clear 60 = .ok (.iconst 0, 1) := by decide +kernel
theorem dX10_clear_61 : decode cX10_clear 61 = .ok (.invokestatic 66, 3) := by decide +kernel
theorem dX10_clear_64 : decode cX10_clear 64 = .ok (.aload_n 0, 1) := by decide +kernel
theorem dX10_clear_65 : decode cX10_clear 65 = .ok (.iconst 0, 1) := by decide +kernel
theorem dX10_clear_66 : decode cX10_clear 66 = .ok (.putfield 72, 3) := by decide +kernel
theorem dX10_clear_69 : decode cX10_clear 69 = .ok (.aload_n 0, 1) := by decide +kernel
theorem dX10_clear_70 : decode cX10_clear 70 = .ok (.iconst 0, 1) := by decide +kernel
theorem dX10_clear_71 : decode cX10_clear 71 = .ok (.putfield 75, 3) := by decide +kernel
theorem dX10_clear_74 : decode cX10_clear 74 = .ok (.aload_n 0, 1) := by decide +kernel
theorem dX10_clear_75 : decode cX10_clear 75 = .ok (.iconst 0, 1) := by decide +kernel
theorem dX10_clear_76 : decode cX10_clear 76 = .ok (.putfield 78, 3) := by decide +kernel
theorem dX10_clear_79 : decode cX10_clear 79 = .ok (.aload_n 0, 1) := by decide +kernel
theorem dX10_clear_80 : decode cX10_clear 80 = .ok (.iconst 0, 1) := by decide +kernel
theorem dX10_clear_81 : decode cX10_clear 81 = .ok (.putfield 81, 3) := by decide +kernel
theorem dX10_clear_84 : decode cX10_clear 84 = .ok (.aload_n 0, 1) := by decide +kernel
theorem dX10_clear_85 : decode cX10_clear 85 = .ok (.aconst_null, 1) := by decide +kernel
theorem dX10_clear_86 : decode cX10_clear 86 = .ok (.putfield 84, 3) := by decide +kernel
theorem dX10_clear_89 : decode cX10_clear 89 = .ok (.aload_n 0, 1) := by decide +kernel
theorem dX10_clear_90 : decode cX10_clear 90 = .ok (.iconst 0, 1) := by decide +kernel
theorem dX10_clear_91 : decode cX10_clear 91 = .ok (.putfield 88, 3) := by decide +kernel
theorem dX10_clear_94 : decode cX10_clear 94 = .ok (.aload_n 0, 1) := by decide +kernel
theorem dX10_clear_95 : decode cX10_clear 95 = .ok (.iconst 0, 1) := by decide +kernel
theorem dX10_clear_96 : decode cX10_clear 96 = .ok (.putfield 91, 3) := by decide +kernel
theorem dX10_clear_99 : decode cX10_clear 99 = .ok (.return_, 1) := by decide +kernel
theorem dX10_add_0 : decode cX10_add 0 = .ok (.aload_n 0, 1) := by decide +kernel
theorem dX10_add_1 : decode cX10_add 1 = .ok (.getfield 75, 3) := by decide +kernel
theorem dX10_add_4 : decode cX10_add 4 = .ok (.aload_n 0, 1) := by decide +kernel
theorem dX10_add_5 : decode cX10_add 5 = .ok (.getfield 25, 3) := by decide +kernel
theorem dX10_add_8 : decode cX10_add 8 = .ok (.arraylength, 1) := by decide +kernel
theorem dX10_add_9 : decode cX10_add 9 = .ok (.if_icmp .ge 23, 3) := by decide +kernel
theorem dX10_add_12 : decode cX10_add 12 = .ok (.aload_n 0, 1) := by decide +kernel
theorem dX10_add_13 : decode cX10_add 13 = .ok (.getfield 25, 3) := by decide +kernel
theorem dX10_add_16 : decode cX10_add 16 = .ok (.aload_n 0, 1) := by decide +kernel
theorem dX10_add_17 : decode cX10_add 17 = .ok (.getfield 75, 3) := by decide +kernel
theorem dX10_add_20 : decode cX10_add 20 = .ok (.aload_n 1, 1) := by decide +kernel
theorem dX10_add_21 : decode cX10_add 21 = .ok (.aastore, 1) := by decide +kernel
theorem dX10_add_22 : decode cX10_add 22 = .ok (.aload_n 0, 1) := by decide +kernel
theorem dX10_add_23 : decode cX10_add 23 = .ok (.dup, 1) := by decide +kernel
theorem dX10_add_24 : decode cX10_add 24 = .ok (.getfield 75, 3) := by decide +kernel
theorem dX10_add_27 : decode cX10_add 27 = .ok (.iconst 1, 1) := by decide +kernel
theorem dX10_add_28 : decode cX10_add 28 = .ok (.iadd, 1) := by decide +kernel
theorem dX10_add_29 : decode cX10_add 29 = .ok (.putfield 75, 3) := by decide +kernel
theorem dX10_add_32 : decode cX10_add 32 = .ok (.return_, 1) := by decide +kernel
theorem dX10_addItem_0 : decode cX10_addItem 0 = .ok (.aload_n 0, 1) := by decide +kernel
theorem dX10_addItem_1 : decode cX10_addItem 1 = .ok (.getfield 72, 3) := by decide +kernel
theorem dX10_addItem_4 : decode cX10_addItem 4 = .ok (.aload_n 0, 1) := by decide +kernel
theorem dX10_addItem_5 : decode cX10_addItem 5 = .ok (.getfield 21, 3) := by decide +kernel
theorem dX10_addItem_8 : decode cX10_addItem 8 = .ok (.arraylength, 1) := by decide +kernel
theorem dX10_addItem_9 : decode cX10_addItem 9 = .ok (.if_icmp .ge 23, 3) := by decide +kernel
theorem dX10_addItem_12 : decode cX10_addItem 12 = .ok (.aload_n 0, 1) := by decide +kernel
theorem dX10_addItem_13 : decode cX10_addItem 13 = .ok (.getfield 21, 3) := by decide +kernel
theorem dX10_addItem_16 : decode cX10_addItem 16 = .ok (.aload_n 0, 1) := by decide +kernel
theorem dX10_addItem_17 : decode cX10_addItem 17 = .ok (.getfield 72, 3) := by decide +kernel
theorem dX10_addItem_20 : decode cX10_addItem 20 = .ok (.aload_n 1, 1) := by decide +kernel
theorem dX10_addItem_21 : decode cX10_addItem 21 = .ok (.aastore, 1) := by decide +kernel
theorem dX10_addItem_22 : decode cX10_addItem 22 = .ok (.aload_n 0, 1) := by decide +kernel
theorem dX10_addItem_23 : decode cX10_addItem 23 = .ok (.dup, 1) := by decide +kernel
theorem dX10_addItem_24 : decode cX10_addItem 24 = .ok (.getfield 72, 3) := by decide +kernel
theorem dX10_addItem_27 : decode cX10_addItem 27 = .ok (.iconst 1, 1) := by decide +kernel
theorem dX10_addItem_28 : decode cX10_addItem 28 = .ok (.iadd, 1) := by decide +kernel
theorem dX10_addItem_29 : decode cX10_addItem 29 = .ok (.putfield 72, 3) := by decide +kernel
theorem dX10_addItem_32 : decode cX10_addItem 32 = .ok (.return_, 1) := by decide +kernel
theorem dX10_list_0 : decode cX10_list 0 = .ok (.aload_n 0, 1) := by decide +kernel
theorem dX10_list_1 : decode cX10_list 1 = .ok (.getfield 15, 3) := by decide +kernel
theorem dX10_list_4 : decode cX10_list 4 = .ok (.iload_n 1, 1) := by decide +kernel
theorem dX10_list_5 : decode cX10_list 5 = .ok (.iaload, 1) := by decide +kernel
theorem dX10_list_6 : decode cX10_list 6 = .ok (.bipush 8, 2) := by decide +kernel
theorem dX10_list_8 : decode cX10_list 8 = .ok (.if_icmp .ge 30, 3) := by decide +kernel
theorem dX10_list_11 : decode cX10_list 11 = .ok (.aload_n 0, 1) := by decide +kernel
theorem dX10_list_12 : decode cX10_list 12 = .ok (.getfield 9, 3) := by decide +kernel
theorem dX10_list_15 : decode cX10_list 15 = .ok (.iload_n 1, 1) := by decide +kernel
theorem dX10_list_16 : decode cX10_list 16 = .ok (.bipush 8, 2) := by decide +kernel
theorem dX10_list_18 : decode cX10_list 18 = .ok (.imul, 1) := by decide +kernel
theorem dX10_list_19 : decode cX10_list 19 = .ok (.aload_n 0, 1) := by decide +kernel
theorem dX10_list_20 : decode cX10_list 20 = .ok (.getfield 15, 3) := by decide +kernel
theorem dX10_list_23 : decode cX10_list 23 = .ok (.iload_n 1, 1) := by decide +kernel
theorem dX10_list_24 : decode cX10_list 24 = .ok (.iaload, 1) := by decide +kernel
theorem dX10_list_25 : decode cX10_list 25 = .ok (.iadd, 1) := by decide +kernel
theorem dX10_list_26 : decode cX10_list 26 = .ok (.lload_n 2, 1) := by decide +kernel
theorem dX10_list_27 : decode cX10_list 27 = .ok (.lastore, 1) := by decide +kernel
theorem dX10_list_28 : decode cX10_list 28 = .ok (.aload_n 0, 1) := by decide +kernel
theorem dX10_list_29 : decode cX10_list 29 = .ok (.getfield 15, 3) := by decide +kernel
theorem dX10_list_32 : decode cX10_list 32 = .ok (.iload_n 1, 1) := by decide +kernel
theorem dX10_list_33 : decode cX10_list 33 = .ok (.dup2, 1) := by decide +kernel
theorem dX10_list_34 : decode cX10_list 34 = .ok (.iaload, 1) := by decide +kernel
theorem dX10_list_35 : decode cX10_list 35 = .ok (.iconst 1, 1) := by decide +kernel
theorem dX10_list_36 : decode cX10_list 36 = .ok (.iadd, 1) := by decide +kernel
theorem dX10_list_37 : decode cX10_list 37 = .ok (.iastore, 1) := by decide +kernel
theorem dX10_list_38 : decode cX10_list 38 = .ok (.return_, 1) := by decide +kernel
theorem dX10_listedAt_0 : decode cX10_listedAt 0 = .ok (.aload_n 0, 1) := by decide +kernel
theorem dX10_listedAt_1 : decode cX10_listedAt 1 = .ok (.getfield 9, 3) := by decide +kernel
theorem dX10_listedAt_4 : decode cX10_listedAt 4 = .ok (.iload_n 1, 1) := by decide +kernel
theorem dX10_listedAt_5 : decode cX10_listedAt 5 = .ok (.bipush 8, 2) := by decide +kernel
theorem dX10_listedAt_7 : decode cX10_listedAt 7 = .ok (.imul, 1) := by decide +kernel
theorem dX10_listedAt_8 : decode cX10_listedAt 8 = .ok (.iload_n 2, 1) := by decide +kernel
theorem dX10_listedAt_9 : decode cX10_listedAt 9 = .ok (.iadd, 1) := by decide +kernel
theorem dX10_listedAt_10 : decode cX10_listedAt 10 = .ok (.laload, 1) := by decide +kernel
theorem dX10_listedAt_11 : decode cX10_listedAt 11 = .ok (.lreturn, 1) := by decide +kernel
theorem dX10_has_0 : decode cX10_has 0 = .ok (.iconst 0, 1) := by decide +kernel
theorem dX10_has_1 : decode cX10_has 1 = .ok (.istore 4, 2) := by decide +kernel
theorem dX10_has_3 : decode cX10_has 3 = .ok (.iload 4, 2) := by decide +kernel
theorem dX10_has_5 : decode cX10_has 5 = .ok (.aload_n 0, 1) := by decide +kernel
theorem dX10_has_6 : decode cX10_has 6 = .ok (.getfield 15, 3) := by decide +kernel
theorem dX10_has_9 : decode cX10_has 9 = .ok (.iload_n 1, 1) := by decide +kernel
theorem dX10_has_10 : decode cX10_has 10 = .ok (.iaload, 1) := by decide +kernel
theorem dX10_has_11 : decode cX10_has 11 = .ok (.if_icmp .ge 28, 3) := by decide +kernel
theorem dX10_has_14 : decode cX10_has 14 = .ok (.aload_n 0, 1) := by decide +kernel
theorem dX10_has_15 : decode cX10_has 15 = .ok (.getfield 9, 3) := by decide +kernel
theorem dX10_has_18 : decode cX10_has 18 = .ok (.iload_n 1, 1) := by decide +kernel
theorem dX10_has_19 : decode cX10_has 19 = .ok (.bipush 8, 2) := by decide +kernel
theorem dX10_has_21 : decode cX10_has 21 = .ok (.imul, 1) := by decide +kernel
theorem dX10_has_22 : decode cX10_has 22 = .ok (.iload 4, 2) := by decide +kernel
theorem dX10_has_24 : decode cX10_has 24 = .ok (.iadd, 1) := by decide +kernel
theorem dX10_has_25 : decode cX10_has 25 = .ok (.laload, 1) := by decide +kernel
theorem dX10_has_26 : decode cX10_has 26 = .ok (.lload_n 2, 1) := by decide +kernel
theorem dX10_has_27 : decode cX10_has 27 = .ok (.lcmp, 1) := by decide +kernel
theorem dX10_has_28 : decode cX10_has 28 = .ok (.ifCond .ne 5, 3) := by decide +kernel
theorem dX10_has_31 : decode cX10_has 31 = .ok (.iconst 1, 1) := by decide +kernel
theorem dX10_has_32 : decode cX10_has 32 = .ok (.ireturn, 1) := by decide +kernel
theorem dX10_has_33 : decode cX10_has 33 = .ok (.iinc 4 1, 3) := by decide +kernel
theorem dX10_has_36 : decode cX10_has 36 = .ok (.goto (-33), 3) := by decide +kernel
theorem dX10_has_39 : decode cX10_has 39 = .ok (.iconst 0, 1) := by decide +kernel
theorem dX10_has_40 : decode cX10_has 40 = .ok (.ireturn, 1) := by decide +kernel
theorem dX10_method_0 : decode cX10_method 0 = .ok (.iconst 0, 1) := by decide +kernel
theorem dX10_method_1 : decode cX10_method 1 = .ok (.istore_n 2, 1) := by decide +kernel
theorem dX10_method_2 : decode cX10_method 2 = .ok (.iload_n 2, 1) := by decide +kernel
theorem dX10_method_3 : decode cX10_method 3 = .ok (.aload_n 0, 1) := by decide +kernel
theorem dX10_method_4 : decode cX10_method 4 = .ok (.getfield 75, 3) := by decide +kernel
theorem dX10_method_7 : decode cX10_method 7 = .ok (.if_icmp .ge 125, 3) := by decide +kernel
theorem dX10_method_10 : decode cX10_method 10 = .ok (.aload_n 0, 1) := by decide +kernel
theorem dX10_method_11 : decode cX10_method 11 = .ok (.getfield 25, 3) := by decide +kernel
theorem dX10_method_14 : decode cX10_method 14 = .ok (.iload_n 2, 1) := by decide +kernel
theorem dX10_method_15 : decode cX10_method 15 = .ok (.aaload, 1) := by decide +kernel
theorem dX10_method_16 : decode cX10_method 16 = .ok (.astore_n 3, 1) := by decide +kernel
theorem dX10_method_17 : decode cX10_method 17 = .ok (.aload_n 3, 1) := by decide +kernel
theorem dX10_method_18 : decode cX10_method 18 = .ok (.getfield 94, 3) := by decide +kernel
theorem dX10_method_21 : decode cX10_method 21 = .ok (.aload_n 1, 1) := by decide +kernel
theorem dX10_method_22 : decode cX10_method 22 = .ok (.getfield 94, 3) := by decide +kernel
theorem dX10_method_25 : decode cX10_method 25 = .ok (.lcmp, 1) := by decide +kernel
theorem dX10_method_26 : decode cX10_method 26 = .ok (.ifCond .ne 100, 3) := by decide +kernel
theorem dX10_method_29 : decode cX10_method 29 = .ok (.aload_n 3, 1) := by decide +kernel
theorem dX10_method_30 : decode cX10_method 30 = .ok (.getfield 95, 3) := by decide +kernel
theorem dX10_method_33 : decode cX10_method 33 = .ok (.aload_n 1, 1) := by decide +kernel
theorem dX10_method_34 : decode cX10_method 34 = .ok (.getfield 95, 3) := by decide +kernel
theorem dX10_method_37 : decode cX10_method 37 = .ok (.lcmp, 1) := by decide +kernel
theorem dX10_method_38 : decode cX10_method 38 = .ok (.ifCond .ne 88, 3) := by decide +kernel
theorem dX10_method_41 : decode cX10_method 41 = .ok (.aload_n 3, 1) := by decide +kernel
theorem dX10_method_42 : decode cX10_method 42 = .ok (.getfield 98, 3) := by decide +kernel
theorem dX10_method_45 : decode cX10_method 45 = .ok (.iconst 1, 1) := by decide +kernel
theorem dX10_method_46 : decode cX10_method 46 = .ok (.if_icmp .ne 80, 3) := by decide +kernel
theorem dX10_method_49 : decode cX10_method 49 = .ok (.aload_n 3, 1) := by decide +kernel
theorem dX10_method_50 : decode cX10_method 50 = .ok (.getfield 101, 3) := by decide +kernel
theorem dX10_method_53 : decode cX10_method 53 = .ok (.aload_n 1, 1) := by decide +kernel
theorem dX10_method_54 : decode cX10_method 54 = .ok (.getfield 101, 3) := by decide +kernel
theorem dX10_method_57 : decode cX10_method 57 = .ok (.if_icmp .ne 69, 3) := by decide +kernel
theorem dX10_method_60 : decode cX10_method 60 = .ok (.aload_n 3, 1) := by decide +kernel
theorem dX10_method_61 : decode cX10_method 61 = .ok (.getfield 104, 3) := by decide +kernel
theorem dX10_method_64 : decode cX10_method 64 = .ok (.iconst 0, 1) := by decide +kernel
theorem dX10_method_65 : decode cX10_method 65 = .ok (.laload, 1) := by decide +kernel
theorem dX10_method_66 : decode cX10_method 66 = .ok (.aload_n 1, 1) := by decide +kernel
theorem dX10_method_67 : decode cX10_method 67 = .ok (.getfield 104, 3) := by decide +kernel
theorem dX10_method_70 : decode cX10_method 70 = .ok (.iconst 0, 1) := by decide +kernel
theorem dX10_method_71 : decode cX10_method 71 = .ok (.laload, 1) := by decide +kernel
theorem dX10_method_72 : decode cX10_method 72 = .ok (.lcmp, 1) := by decide +kernel
theorem dX10_method_73 : decode cX10_method 73 = .ok (.ifCond .ne 53, 3) := by decide +kernel
theorem dX10_method_76 : decode cX10_method 76 = .ok (.aload_n 3, 1) := by decide +kernel
theorem dX10_method_77 : decode cX10_method 77 = .ok (.getfield 104, 3) := by decide +kernel
theorem dX10_method_80 : decode cX10_method 80 = .ok (.iconst 1, 1) := by decide +kernel
theorem dX10_method_81 : decode cX10_method 81 = .ok (.laload, 1) := by decide +kernel
theorem dX10_method_82 : decode cX10_method 82 = .ok (.aload_n 1, 1) := by decide +kernel
theorem dX10_method_83 : decode cX10_method 83 = .ok (.getfield 104, 3) := by decide +kernel
theorem dX10_method_86 : decode cX10_method 86 = .ok (.iconst 1, 1) := by decide +kernel
theorem dX10_method_87 : decode cX10_method 87 = .ok (.laload, 1) := by decide +kernel
theorem dX10_method_88 : decode cX10_method 88 = .ok (.lcmp, 1) := by decide +kernel
theorem dX10_method_89 : decode cX10_method 89 = .ok (.ifCond .ne 37, 3) := by decide +kernel
theorem dX10_method_92 : decode cX10_method 92 = .ok (.aload_n 3, 1) := by decide +kernel
theorem dX10_method_93 : decode cX10_method 93 = .ok (.getfield 104, 3) := by decide +kernel
theorem dX10_method_96 : decode cX10_method 96 = .ok (.iconst 2, 1) := by decide +kernel
theorem dX10_method_97 : decode cX10_method 97 = .ok (.laload, 1) := by decide +kernel
theorem dX10_method_98 : decode cX10_method 98 = .ok (.aload_n 1, 1) := by decide +kernel
theorem dX10_method_99 : decode cX10_method 99 = .ok (.getfield 104, 3) := by decide +kernel
theorem dX10_method_102 : decode cX10_method 102 = .ok (.iconst 2, 1) := by decide +kernel
theorem dX10_method_103 : decode cX10_method 103 = .ok (.laload, 1) := by decide +kernel
theorem dX10_method_104 : decode cX10_method 104 = .ok (.lcmp, 1) := by decide +kernel
theorem dX10_method_105 : decode cX10_method 105 = .ok (.ifCond .ne 21, 3) := by decide +kernel
theorem dX10_method_108 : decode cX10_method 108 = .ok (.aload_n 3, 1) := by decide +kernel
theorem dX10_method_109 : decode cX10_method 109 = .ok (.getfield 104, 3) := by decide +kernel
theorem dX10_method_112 : decode cX10_method 112 = .ok (.iconst 3, 1) := by decide +kernel
theorem dX10_method_113 : decode cX10_method 113 = .ok (.laload, 1) := by decide +kernel
theorem dX10_method_114 : decode cX10_method 114 = .ok (.aload_n 1, 1) := by decide +kernel
theorem dX10_method_115 : decode cX10_method 115 = .ok (.getfield 104, 3) := by decide +kernel
theorem dX10_method_118 : decode cX10_method 118 = .ok (.iconst 3, 1) := by decide +kernel
theorem dX10_method_119 : decode cX10_method 119 = .ok (.laload, 1) := by decide +kernel
theorem dX10_method_120 : decode cX10_method 120 = .ok (.lcmp, 1) := by decide +kernel
theorem dX10_method_121 : decode cX10_method 121 = .ok (.ifCond .ne 5, 3) := by decide +kernel
theorem dX10_method_124 : decode cX10_method 124 = .ok (.aload_n 3, 1) := by decide +kernel
theorem dX10_method_125 : decode cX10_method 125 = .ok (.areturn, 1) := by decide +kernel
theorem dX10_method_126 : decode cX10_method 126 = .ok (.iinc 2 1, 3) := by decide +kernel
theorem dX10_method_129 : decode cX10_method 129 = .ok (.goto (-127), 3) := by decide +kernel
theorem dX10_method_132 : decode cX10_method 132 = .ok (.aconst_null, 1) := by decide +kernel
theorem dX10_method_133 : decode cX10_method 133 = .ok (.areturn, 1) := by decide +kernel
theorem dX10_plain_0 : decode cX10_plain 0 = .ok (.iconst 0, 1) := by decide +kernel
theorem dX10_plain_1 : decode cX10_plain 1 = .ok (.istore_n 2, 1) := by decide +kernel
theorem dX10_plain_2 : decode cX10_plain 2 = .ok (.iload_n 2, 1) := by decide +kernel
theorem dX10_plain_3 : decode cX10_plain 3 = .ok (.aload_n 0, 1) := by decide +kernel
theorem dX10_plain_4 : decode cX10_plain 4 = .ok (.getfield 75, 3) := by decide +kernel
theorem dX10_plain_7 : decode cX10_plain 7 = .ok (.if_icmp .ge 53, 3) := by decide +kernel
theorem dX10_plain_10 : decode cX10_plain 10 = .ok (.aload_n 0, 1) := by decide +kernel
theorem dX10_plain_11 : decode cX10_plain 11 = .ok (.getfield 25, 3) := by decide +kernel
theorem dX10_plain_14 : decode cX10_plain 14 = .ok (.iload_n 2, 1) := by decide +kernel
theorem dX10_plain_15 : decode cX10_plain 15 = .ok (.aaload, 1) := by decide +kernel
theorem dX10_plain_16 : decode cX10_plain 16 = .ok (.astore_n 3, 1) := by decide +kernel
theorem dX10_plain_17 : decode cX10_plain 17 = .ok (.aload_n 3, 1) := by decide +kernel
theorem dX10_plain_18 : decode cX10_plain 18 = .ok (.getfield 98, 3) := by decide +kernel
theorem dX10_plain_21 : decode cX10_plain 21 = .ok (.iconst 1, 1) := by decide +kernel
theorem dX10_plain_22 : decode cX10_plain 22 = .ok (.if_icmp .ne 32, 3) := by decide +kernel
theorem dX10_plain_25 : decode cX10_plain 25 = .ok (.aload_n 3, 1) := by decide +kernel
theorem dX10_plain_26 : decode cX10_plain 26 = .ok (.getfield 107, 3) := by decide +kernel
theorem dX10_plain_29 : decode cX10_plain 29 = .ok (.ifCond .ne 25, 3) := by decide +kernel
theorem dX10_plain_32 : decode cX10_plain 32 = .ok (.aload_n 3, 1) := by decide +kernel
theorem dX10_plain_33 : decode cX10_plain 33 = .ok (.getfield 94, 3) := by decide +kernel
theorem dX10_plain_36 : decode cX10_plain 36 = .ok (.aload_n 1, 1) := by decide +kernel
theorem dX10_plain_37 : decode cX10_plain 37 = .ok (.getfield 94, 3) := by decide +kernel
theorem dX10_plain_40 : decode cX10_plain 40 = .ok (.lcmp, 1) := by decide +kernel
theorem dX10_plain_41 : decode cX10_plain 41 = .ok (.ifCond .ne 13, 3) := by decide +kernel
theorem dX10_plain_44 : decode cX10_plain 44 = .ok (.aload_n 3, 1) := by decide +kernel
theorem dX10_plain_45 : decode cX10_plain 45 = .ok (.aload_n 1, 1) := by decide +kernel
theorem dX10_plain_46 : decode cX10_plain 46 = .ok (.invokevirtual 110, 3) := by decide +kernel
theorem dX10_plain_49 : decode cX10_plain 49 = .ok (.ifCond .eq 5, 3) := by decide +kernel
theorem dX10_plain_52 : decode cX10_plain 52 = .ok (.aload_n 3, 1) := by decide +kernel
theorem dX10_plain_53 : decode cX10_plain 53 = .ok (.areturn, 1) := by decide +kernel
theorem dX10_plain_54 : decode cX10_plain 54 = .ok (.iinc 2 1, 3) := by decide +kernel
theorem dX10_plain_57 : decode cX10_plain 57 = .ok (.goto (-55), 3) := by decide +kernel
theorem dX10_plain_60 : decode cX10_plain 60 = .ok (.aconst_null, 1) := by decide +kernel
theorem dX10_plain_61 : decode cX10_plain 61 = .ok (.areturn, 1) := by decide +kernel
theorem dX10_maker_0 : decode cX10_maker 0 = .ok (.iconst 0, 1) := by decide +kernel
theorem dX10_maker_1 : decode cX10_maker 1 = .ok (.istore_n 2, 1) := by decide +kernel
theorem dX10_maker_2 : decode cX10_maker 2 = .ok (.iload_n 2, 1) := by decide +kernel
theorem dX10_maker_3 : decode cX10_maker 3 = .ok (.aload_n 0, 1) := by decide +kernel
theorem dX10_maker_4 : decode cX10_maker 4 = .ok (.getfield 75, 3) := by decide +kernel
theorem dX10_maker_7 : decode cX10_maker 7 = .ok (.if_icmp .ge 34, 3) := by decide +kernel
theorem dX10_maker_10 : decode cX10_maker 10 = .ok (.aload_n 0, 1) := by decide +kernel
theorem dX10_maker_11 : decode cX10_maker 11 = .ok (.getfield 25, 3) := by decide +kernel
theorem dX10_maker_14 : decode cX10_maker 14 = .ok (.iload_n 2, 1) := by decide +kernel
theorem dX10_maker_15 : decode cX10_maker 15 = .ok (.aaload, 1) := by decide +kernel
theorem dX10_maker_16 : decode cX10_maker 16 = .ok (.astore_n 3, 1) := by decide +kernel
theorem dX10_maker_17 : decode cX10_maker 17 = .ok (.aload_n 3, 1) := by decide +kernel
theorem dX10_maker_18 : decode cX10_maker 18 = .ok (.getfield 98, 3) := by decide +kernel
theorem dX10_maker_21 : decode cX10_maker 21 = .ok (.iconst 2, 1) := by decide +kernel
theorem dX10_maker_22 : decode cX10_maker 22 = .ok (.if_icmp .ne 13, 3) := by decide +kernel
theorem dX10_maker_25 : decode cX10_maker 25 = .ok (.aload_n 3, 1) := by decide +kernel
theorem dX10_maker_26 : decode cX10_maker 26 = .ok (.aload_n 1, 1) := by decide +kernel
theorem dX10_maker_27 : decode cX10_maker 27 = .ok (.invokevirtual 110, 3) := by decide +kernel
theorem dX10_maker_30 : decode cX10_maker 30 = .ok (.ifCond .eq 5, 3) := by decide +kernel
theorem dX10_maker_33 : decode cX10_maker 33 = .ok (.aload_n 3, 1) := by decide +kernel
theorem dX10_maker_34 : decode cX10_maker 34 = .ok (.areturn, 1) := by decide +kernel
theorem dX10_maker_35 : decode cX10_maker 35 = .ok (.iinc 2 1, 3) := by decide +kernel
theorem dX10_maker_38 : decode cX10_maker 38 = .ok (.goto (-36), 3) := by decide +kernel
theorem dX10_maker_41 : decode cX10_maker 41 = .ok (.aconst_null, 1) := by decide +kernel
theorem dX10_maker_42 : decode cX10_maker 42 = .ok (.areturn, 1) := by decide +kernel
theorem dX10_field_0 : decode cX10_field 0 = .ok (.iconst 0, 1) := by decide +kernel
theorem dX10_field_1 : decode cX10_field 1 = .ok (.istore 5, 2) := by decide +kernel
theorem dX10_field_3 : decode cX10_field 3 = .ok (.iload 5, 2) := by decide +kernel
theorem dX10_field_5 : decode cX10_field 5 = .ok (.aload_n 0, 1) := by decide +kernel
theorem dX10_field_6 : decode cX10_field 6 = .ok (.getfield 75, 3) := by decide +kernel
theorem dX10_field_9 : decode cX10_field 9 = .ok (.if_icmp .ge 57, 3) := by decide +kernel
theorem dX10_field_12 : decode cX10_field 12 = .ok (.aload_n 0, 1) := by decide +kernel
theorem dX10_field_13 : decode cX10_field 13 = .ok (.getfield 25, 3) := by decide +kernel
theorem dX10_field_16 : decode cX10_field 16 = .ok (.iload 5, 2) := by decide +kernel
theorem dX10_field_18 : decode cX10_field 18 = .ok (.aaload, 1) := by decide +kernel
theorem dX10_field_19 : decode cX10_field 19 = .ok (.astore 6, 2) := by decide +kernel
theorem dX10_field_21 : decode cX10_field 21 = .ok (.aload 6, 2) := by decide +kernel
theorem dX10_field_23 : decode cX10_field 23 = .ok (.getfield 98, 3) := by decide +kernel
theorem dX10_field_26 : decode cX10_field 26 = .ok (.ifCond .ne 34, 3) := by decide +kernel
theorem dX10_field_29 : decode cX10_field 29 = .ok (.aload 6, 2) := by decide +kernel
theorem dX10_field_31 : decode cX10_field 31 = .ok (.getfield 94, 3) := by decide +kernel
theorem dX10_field_34 : decode cX10_field 34 = .ok (.lload_n 1, 1) := by decide +kernel
theorem dX10_field_35 : decode cX10_field 35 = .ok (.lcmp, 1) := by decide +kernel
theorem dX10_field_36 : decode cX10_field 36 = .ok (.ifCond .ne 24, 3) := by decide +kernel
theorem dX10_field_39 : decode cX10_field 39 = .ok (.lload_n 3, 1) := by decide +kernel
theorem dX10_field_40 : decode cX10_field 40 = .ok (.ldc2_w 32, 3) := by decide +kernel
theorem dX10_field_43 : decode cX10_field 43 = .ok (.lcmp, 1) := by decide +kernel
theorem dX10_field_44 : decode cX10_field 44 = .ok (.ifCond .eq 13, 3) := by decide +kernel
theorem dX10_field_47 : decode cX10_field 47 = .ok (.aload 6, 2) := by decide +kernel
theorem dX10_field_49 : decode cX10_field 49 = .ok (.getfield 95, 3) := by decide +kernel
theorem dX10_field_52 : decode cX10_field 52 = .ok (.lload_n 3, 1) := by decide +kernel
theorem dX10_field_53 : decode cX10_field 53 = .ok (.lcmp, 1) := by decide +kernel
theorem dX10_field_54 : decode cX10_field 54 = .ok (.ifCond .ne 6, 3) := by decide +kernel
theorem dX10_field_57 : decode cX10_field 57 = .ok (.aload 6, 2) := by decide +kernel
theorem dX10_field_59 : decode cX10_field 59 = .ok (.areturn, 1) := by decide +kernel
theorem dX10_field_60 : decode cX10_field 60 = .ok (.iinc 5 1, 3) := by decide +kernel
theorem dX10_field_63 : decode cX10_field 63 = .ok (.goto (-60), 3) := by decide +kernel
theorem dX10_field_66 : decode cX10_field 66 = .ok (.aconst_null, 1) := by decide +kernel
theorem dX10_field_67 : decode cX10_field 67 = .ok (.areturn, 1) := by decide +kernel
theorem dX10_bridges_0 : decode cX10_bridges 0 = .ok (.iconst 0, 1) := by decide +kernel
theorem dX10_bridges_1 : decode cX10_bridges 1 = .ok (.istore_n 1, 1) := by decide +kernel
theorem dX10_bridges_2 : decode cX10_bridges 2 = .ok (.iconst 0, 1) := by decide +kernel
theorem dX10_bridges_3 : decode cX10_bridges 3 = .ok (.istore_n 2, 1) := by decide +kernel
theorem dX10_bridges_4 : decode cX10_bridges 4 = .ok (.iload_n 2, 1) := by decide +kernel
theorem dX10_bridges_5 : decode cX10_bridges 5 = .ok (.aload_n 0, 1) := by decide +kernel
theorem dX10_bridges_6 : decode cX10_bridges 6 = .ok (.getfield 75, 3) := by decide +kernel
theorem dX10_bridges_9 : decode cX10_bridges 9 = .ok (.if_icmp .ge 29, 3) := by decide +kernel
theorem dX10_bridges_12 : decode cX10_bridges 12 = .ok (.iload_n 1, 1) := by decide +kernel
theorem dX10_bridges_13 : decode cX10_bridges 13 = .ok (.aload_n 0, 1) := by decide +kernel
theorem dX10_bridges_14 : decode cX10_bridges 14 = .ok (.getfield 25, 3) := by decide +kernel
theorem dX10_bridges_17 : decode cX10_bridges 17 = .ok (.iload_n 2, 1) := by decide +kernel
theorem dX10_bridges_18 : decode cX10_bridges 18 = .ok (.aaload, 1) := by decide +kernel
theorem dX10_bridges_19 : decode cX10_bridges 19 = .ok (.getfield 107, 3) := by decide +kernel
theorem dX10_bridges_22 : decode cX10_bridges 22 = .ok (.ifCond .eq 7, 3) := by decide +kernel
theorem dX10_bridges_25 : decode cX10_bridges 25 = .ok (.iconst 1, 1) := by decide +kernel
theorem dX10_bridges_26 : decode cX10_bridges 26 = .ok (.goto 4, 3) := by decide +kernel
theorem dX10_bridges_29 : decode cX10_bridges 29 = .ok (.iconst 0, 1) := by decide +kernel
theorem dX10_bridges_30 : decode cX10_bridges 30 = .ok (.iadd, 1) := by decide +kernel
theorem dX10_bridges_31 : decode cX10_bridges 31 = .ok (.istore_n 1, 1) := by decide +kernel
theorem dX10_bridges_32 : decode cX10_bridges 32 = .ok (.iinc 2 1, 3) := by decide +kernel
theorem dX10_bridges_35 : decode cX10_bridges 35 = .ok (.goto (-31), 3) := by decide +kernel
theorem dX10_bridges_38 : decode cX10_bridges 38 = .ok (.iload_n 1, 1) := by decide +kernel
theorem dX10_bridges_39 : decode cX10_bridges 39 = .ok (.ireturn, 1) := by decide +kernel
theorem dX10_hasMaker_0 : decode cX10_hasMaker 0 = .ok (.iconst 0, 1) := by decide +kernel
theorem dX10_hasMaker_1 : decode cX10_hasMaker 1 = .ok (.istore_n 1, 1) := by decide +kernel
theorem dX10_hasMaker_2 : decode cX10_hasMaker 2 = .ok (.iload_n 1, 1) := by decide +kernel
theorem dX10_hasMaker_3 : decode cX10_hasMaker 3 = .ok (.aload_n 0, 1) := by decide +kernel
theorem dX10_hasMaker_4 : decode cX10_hasMaker 4 = .ok (.getfield 75, 3) := by decide +kernel
theorem dX10_hasMaker_7 : decode cX10_hasMaker 7 = .ok (.if_icmp .ge 24, 3) := by decide +kernel
theorem dX10_hasMaker_10 : decode cX10_hasMaker 10 = .ok (.aload_n 0, 1) := by decide +kernel
theorem dX10_hasMaker_11 : decode cX10_hasMaker 11 = .ok (.getfield 25, 3) := by decide +kernel
theorem dX10_hasMaker_14 : decode cX10_hasMaker 14 = .ok (.iload_n 1, 1) := by decide +kernel
theorem dX10_hasMaker_15 : decode cX10_hasMaker 15 = .ok (.aaload, 1) := by decide +kernel
theorem dX10_hasMaker_16 : decode cX10_hasMaker 16 = .ok (.getfield 98, 3) := by decide +kernel
theorem dX10_hasMaker_19 : decode cX10_hasMaker 19 = .ok (.iconst 2, 1) := by decide +kernel
theorem dX10_hasMaker_20 : decode cX10_hasMaker 20 = .ok (.if_icmp .ne 5, 3) := by decide +kernel
theorem dX10_hasMaker_23 : decode cX10_hasMaker 23 = .ok (.iconst 1, 1) := by decide +kernel
theorem dX10_hasMaker_24 : decode cX10_hasMaker 24 = .ok (.ireturn, 1) := by decide +kernel
theorem dX10_hasMaker_25 : decode cX10_hasMaker 25 = .ok (.iinc 1 1, 3) := by decide +kernel
theorem dX10_hasMaker_28 : decode cX10_hasMaker 28 = .ok (.goto (-26), 3) := by decide +kernel
theorem dX10_hasMaker_31 : decode cX10_hasMaker 31 = .ok (.iconst 0, 1) := by decide +kernel
theorem dX10_hasMaker_32 : decode cX10_hasMaker 32 = .ok (.ireturn, 1) := by decide +kernel
theorem dX10_hasRunning_0 : decode cX10_hasRunning 0 = .ok (.iconst 0, 1) := by decide +kernel
theorem dX10_hasRunning_1 : decode cX10_hasRunning 1 = .ok (.istore_n 1, 1) := by decide +kernel
theorem dX10_hasRunning_2 : decode cX10_hasRunning 2 = .ok (.iload_n 1, 1) := by decide +kernel
theorem dX10_hasRunning_3 : decode cX10_hasRunning 3 = .ok (.aload_n 0, 1) := by decide +kernel
theorem dX10_hasRunning_4 : decode cX10_hasRunning 4 = .ok (.getfield 75, 3) := by decide +kernel
theorem dX10_hasRunning_7 : decode cX10_hasRunning 7 = .ok (.if_icmp .ge 40, 3) := by decide +kernel
theorem dX10_hasRunning_10 : decode cX10_hasRunning 10 = .ok (.aload_n 0, 1) := by decide +kernel
theorem dX10_hasRunning_11 : decode cX10_hasRunning 11 = .ok (.getfield 25, 3) := by decide +kernel
theorem dX10_hasRunning_14 : decode cX10_hasRunning 14 = .ok (.iload_n 1, 1) := by decide +kernel
theorem dX10_hasRunning_15 : decode cX10_hasRunning 15 = .ok (.aaload, 1) := by decide +kernel
theorem dX10_hasRunning_16 : decode cX10_hasRunning 16 = .ok (.astore_n 2, 1) := by decide +kernel
theorem dX10_hasRunning_17 : decode cX10_hasRunning 17 = .ok (.aload_n 2, 1) := by decide +kernel
theorem dX10_hasRunning_18 : decode cX10_hasRunning 18 = .ok (.getfield 98, 3) := by decide +kernel
theorem dX10_hasRunning_21 : decode cX10_hasRunning 21 = .ok (.iconst 1, 1) := by decide +kernel
theorem dX10_hasRunning_22 : decode cX10_hasRunning 22 = .ok (.if_icmp .ne 19, 3) := by decide +kernel
theorem dX10_hasRunning_25 : decode cX10_hasRunning 25 = .ok (.aload_n 2, 1) := by decide +kernel
theorem dX10_hasRunning_26 : decode cX10_hasRunning 26 = .ok (.getfield 114, 3) := by decide +kernel
theorem dX10_hasRunning_29 : decode cX10_hasRunning 29 = .ok (.ifCond .ne 12, 3) := by decide +kernel
theorem dX10_hasRunning_32 : decode cX10_hasRunning 32 = .ok (.aload_n 2, 1) := by decide +kernel
theorem dX10_hasRunning_33 : decode cX10_hasRunning 33 = .ok (.getfield 115, 3) := by decide +kernel
theorem dX10_hasRunning_36 : decode cX10_hasRunning 36 = .ok (.ifCond .ne 5, 3) := by decide +kernel
theorem dX10_hasRunning_39 : decode cX10_hasRunning 39 = .ok (.iconst 1, 1) := by decide +kernel
theorem dX10_hasRunning_40 : decode cX10_hasRunning 40 = .ok (.ireturn, 1) := by decide +kernel
theorem dX10_hasRunning_41 : decode cX10_hasRunning 41 = .ok (.iinc 1 1, 3) := by decide +kernel
theorem dX10_hasRunning_44 : decode cX10_hasRunning 44 = .ok (.goto (-42), 3) := by decide +kernel
theorem dX10_hasRunning_47 : decode cX10_hasRunning 47 = .ok (.iconst 0, 1) := by decide +kernel
theorem dX10_hasRunning_48 : decode cX10_hasRunning 48 = .ok (.ireturn, 1) := by decide +kernel
theorem dX11_init_0 : decode cX11_init 0 = .ok (.aload_n 0, 1) := by decide +kernel
theorem dX11_init_1 : decode cX11_init 1 = .ok (.invokespecial 3, 3) := by decide +kernel
theorem dX11_init_4 : decode cX11_init 4 = .ok (.aload_n 0, 1) := by decide +kernel
theorem dX11_init_5 : decode cX11_init 5 = .ok (.bipush 64, 2) := by decide +kernel
theorem dX11_init_7 : decode cX11_init 7 = .ok (.anewarray 9, 3) := by decide +kernel
theorem dX11_init_10 : decode cX11_init 10 = .ok (.putfield 11, 3) := by decide +kernel
theorem dX11_init_13 : decode cX11_init 13 = .ok (.aload_n 0, 1) := by decide +kernel
theorem dX11_init_14 : decode cX11_init 14 = .ok (.bipush 64, 2) := by decide +kernel
theorem dX11_init_16 : decode cX11_init 16 = .ok (.newarray .int, 2) := by decide +kernel
theorem dX11_init_18 : decode cX11_init 18 = .ok (.putfield 17, 3) := by decide +kernel
theorem dX11_init_21 : decode cX11_init 21 = .ok (.aload_n 0, 1) := by decide +kernel
theorem dX11_init_22 : decode cX11_init 22 = .ok (.bipush 64, 2) := by decide +kernel
theorem dX11_init_24 : decode cX11_init 24 = .ok (.newarray .int, 2) := by decide +kernel
theorem dX11_init_26 : decode cX11_init 26 = .ok (.putfield 21, 3) := by decide +kernel
theorem dX11_init_29 : decode cX11_init 29 = .ok (.aload_n 0, 1) := by decide +kernel
theorem dX11_init_30 : decode cX11_init 30 = .ok (.sipush 256, 3) := by decide +kernel
theorem dX11_init_33 : decode cX11_init 33 = .ok (.newarray .int, 2) := by decide +kernel
theorem dX11_init_35 : decode cX11_init 35 = .ok (.putfield 24, 3) := by decide +kernel
theorem dX11_init_38 : decode cX11_init 38 = .ok (.aload_n 0, 1) := by decide +kernel
theorem dX11_init_39 : decode cX11_init 39 = .ok (.sipush 320, 3) := by decide +kernel
theorem dX11_init_42 : decode cX11_init 42 = .ok (.newarray .int, 2) := by decide +kernel
theorem dX11_init_44 : decode cX11_init 44 = .ok (.putfield 27, 3) := by decide +kernel
theorem dX11_init_47 : decode cX11_init 47 = .ok (.aload_n 0, 1) := by decide +kernel
theorem dX11_init_48 : decode cX11_init 48 = .ok (.bipush 64, 2) := by decide +kernel
theorem dX11_init_50 : decode cX11_init 50 = .ok (.newarray .int, 2) := by decide +kernel
theorem dX11_init_52 : decode cX11_init 52 = .ok (.putfield 30, 3) := by decide +kernel
theorem dX11_init_55 : decode cX11_init 55 = .ok (.aload_n 0, 1) := by decide +kernel
theorem dX11_init_56 : decode cX11_init 56 = .ok (.bipush 64, 2) := by decide +kernel
theorem dX11_init_58 : decode cX11_init 58 = .ok (.newarray .int, 2) := by decide +kernel
theorem dX11_init_60 : decode cX11_init 60 = .ok (.putfield 33, 3) := by decide +kernel
theorem dX11_init_63 : decode cX11_init 63 = .ok (.aload_n 0, 1) := by decide +kernel
theorem dX11_init_64 : decode cX11_init 64 = .ok (.bipush 64, 2) := by decide +kernel
theorem dX11_init_66 : decode cX11_init 66 = .ok (.newarray .long, 2) := by decide +kernel
theorem dX11_init_68 : decode cX11_init 68 = .ok (.putfield 36, 3) := by decide +kernel
theorem dX11_init_71 : decode cX11_init 71 = .ok (.aload_n 0, 1) := by decide +kernel
theorem dX11_init_72 : decode cX11_init 72 = .ok (.sipush 4096, 3) := by decide +kernel
theorem dX11_init_75 : decode cX11_init 75 = .ok (.newarray .int, 2) := by decide +kernel
theorem dX11_init_77 : decode cX11_init 77 = .ok (.putfield 40, 3) := by decide +kernel
theorem dX11_init_80 : decode cX11_init 80 = .ok (.aload_n 0, 1) := by decide +kernel
theorem dX11_init_81 : decode cX11_init 81 = .ok (.bipush 64, 2) := by decide +kernel
theorem dX11_init_83 : decode cX11_init 83 = .ok (.newarray .int, 2) := by decide +kernel
theorem dX11_init_85 : decode cX11_init 85 = .ok (.putfield 43, 3) := by decide +kernel
theorem dX11_init_88 : decode cX11_init 88 = .ok (.aload_n 0, 1) := by decide +kernel
theorem dX11_init_89 : decode cX11_init 89 = .ok (.bipush 66, 2) := by decide +kernel
theorem dX11_init_91 : decode cX11_init 91 = .ok (.newarray .int, 2) := by decide +kernel
theorem dX11_init_93 : decode cX11_init 93 = .ok (.putfield 46, 3) := by decide +kernel
theorem dX11_init_96 : decode cX11_init 96 = .ok (.aload_n 0, 1) := by decide +kernel
theorem dX11_init_97 : decode cX11_init 97 = .ok (.bipush 66, 2) := by decide +kernel
theorem dX11_init_99 : decode cX11_init 99 = .ok (.newarray .int, 2) := by decide +kernel
theorem dX11_init_101 : decode cX11_init 101 = .ok (.putfield 49, 3) := by decide +kernel
theorem dX11_init_104 : decode cX11_init 104 = .ok (.aload_n 0, 1) := by decide +kernel
theorem dX11_init_105 : decode cX11_init 105 = .ok (.bipush 64, 2) := by decide +kernel
theorem dX11_init_107 : decode cX11_init 107 = .ok (.newarray .int, 2) := by decide +kernel
theorem dX11_init_109 : decode cX11_init 109 = .ok (.putfield 52, 3) := by decide +kernel
theorem dX11_init_112 : decode cX11_init 112 = .ok (.aload_n 0, 1) := by decide +kernel
theorem dX11_init_113 : decode cX11_init 113 = .ok (.bipush 64, 2) := by decide +kernel
theorem dX11_init_115 : decode cX11_init 115 = .ok (.anewarray 55, 3) := by decide +kernel
theorem dX11_init_118 : decode cX11_init 118 = .ok (.putfield 57, 3) := by decide +kernel
theorem dX11_init_121 : decode cX11_init 121 = .ok (.aload_n 0, 1) := by decide +kernel
theorem dX11_init_122 : decode cX11_init 122 = .ok (.new 61, 3) := by decide +kernel
theorem dX11_init_125 : decode cX11_init 125 = .ok (.dup, 1) := by decide +kernel
theorem dX11_init_126 : decode cX11_init 126 = .ok (.iconst 2, 1) := by decide +kernel
theorem dX11_init_127 : decode cX11_init 127 = .ok (.iconst 3, 1) := by decide +kernel
theorem dX11_init_128 : decode cX11_init 128 = .ok (.iconst 0, 1) := by decide +kernel
theorem dX11_init_129 : decode cX11_init 129 = .ok (.iconst 0, 1) := by decide +kernel
theorem dX11_init_130 : decode cX11_init 130 = .ok (.iconst 0, 1) := by decide +kernel
theorem dX11_init_131 : decode cX11_init 131 = .ok (.iconst 0, 1) := by decide +kernel
theorem dX11_init_132 : decode cX11_init 132 = .ok (.invokespecial 63, 3) := by decide +kernel
theorem dX11_init_135 : decode cX11_init 135 = .ok (.putfield 66, 3) := by decide +kernel
theorem dX11_init_138 : decode cX11_init 138 = .ok (.aload_n 0, 1) := by decide +kernel
theorem dX11_init_139 : decode cX11_init 139 = .ok (.getfield 66, 3) := by decide +kernel
theorem dX11_init_142 : decode cX11_init 142 = .ok (.invokevirtual 70, 3) := by decide +kernel
theorem dX11_init_145 : decode cX11_init 145 = .ok (.astore_n 1, 1) := by decide +kernel
theorem dX11_init_146 : decode cX11_init 146 = .ok (.aload_n 0, 1) := by decide +kernel
theorem dX11_init_147 : decode cX11_init 147 = .ok (.getfield 66, 3) := by decide +kernel
theorem dX11_init_150 : decode cX11_init 150 = .ok (.invokevirtual 70, 3) := by decide +kernel
theorem dX11_init_153 : decode cX11_init 153 = .ok (.astore_n 2, 1) := by decide +kernel
theorem dX11_init_154 : decode cX11_init 154 = .ok (.aload_n 1, 1) := by decide +kernel
theorem dX11_init_155 : decode cX11_init 155 = .ok (.ldc2_w 74, 3) := by decide +kernel
theorem dX11_init_158 : decode cX11_init 158 = .ok (.putfield 76, 3) := by decide +kernel
theorem dX11_init_161 : decode cX11_init 161 = .ok (.aload_n 1, 1) := by decide +kernel
theorem dX11_init_162 : decode cX11_init 162 = .ok (.iconst 1, 1) := by decide +kernel
theorem dX11_init_163 : decode cX11_init 163 = .ok (.putfield 80, 3) := by decide +kernel
theorem dX11_init_166 : decode cX11_init 166 = .ok (.aload_n 1, 1) := by decide +kernel
theorem dX11_init_167 : decode cX11_init 167 = .ok (.ldc2_w 84, 3) := by decide +kernel
theorem dX11_init_170 : decode cX11_init 170 = .ok (.putfield 86, 3) := by decide +kernel
theorem dX11_init_173 : decode cX11_init 173 = .ok (.aload_n 1, 1) := by decide +kernel
theorem dX11_init_174 : decode cX11_init 174 = .ok (.aload_n 0, 1) := by decide +kernel
theorem dX11_init_175 : decode cX11_init 175 = .ok (.getfield 66, 3) := by decide +kernel
theorem dX11_init_178 : decode cX11_init 178 = .ok (.invokevirtual 88, 3) := by decide +kernel
theorem dX11_init_181 : decode cX11_init 181 = .ok (.invokestatic 92, 3) := by decide +kernel
theorem dX11_init_184 : decode cX11_init 184 = .ok (.invokevirtual 96, 3) := by decide +kernel
theorem dX11_init_187 : decode cX11_init 187 = .ok (.aload_n 2, 1) := by decide +kernel
theorem dX11_init_188 : decode cX11_init 188 = .ok (.ldc2_w 100, 3) := by decide +kernel
theorem dX11_init_191 : decode cX11_init 191 = .ok (.putfield 76, 3) := by decide +kernel
theorem dX11_init_194 : decode cX11_init 194 = .ok (.aload_n 2, 1) := by decide +kernel
theorem dX11_init_195 : decode cX11_init 195 = .ok (.iconst 1, 1) := by decide +kernel
theorem dX11_init_196 : decode cX11_init 196 = .ok (.putfield 80, 3) := by decide +kernel
theorem dX11_init_199 : decode cX11_init 199 = .ok (.aload_n 2, 1) := by decide +kernel
theorem dX11_init_200 : decode cX11_init 200 = .ok (.iconst 1, 1) := by decide +kernel
theorem dX11_init_201 : decode cX11_init 201 = .ok (.putfield 102, 3) := by decide +kernel
theorem dX11_init_204 : decode cX11_init 204 = .ok (.aload_n 2, 1) := by decide +kernel
theorem dX11_init_205 : decode cX11_init 205 = .ok (.iconst 1, 1) := by decide +kernel
theorem dX11_init_206 : decode cX11_init 206 = .ok (.putfield 105, 3) := by decide +kernel
theorem dX11_init_209 : decode cX11_init 209 = .ok (.aload_n 0, 1) := by decide +kernel
theorem dX11_init_210 : decode cX11_init 210 = .ok (.getfield 66, 3) := by decide +kernel
theorem dX11_init_213 : decode cX11_init 213 = .ok (.invokevirtual 88, 3) := by decide +kernel
theorem dX11_init_216 : decode cX11_init 216 = .ok (.astore_n 3, 1) := by decide +kernel
theorem dX11_init_217 : decode cX11_init 217 = .ok (.aload_n 3, 1) := by decide +kernel
theorem dX11_init_218 : decode cX11_init 218 = .ok (.iconst 3, 1) := by decide +kernel
theorem dX11_init_219 : decode cX11_init 219 = .ok (.putfield 109, 3) := by decide +kernel
theorem dX11_init_222 : decode cX11_init 222 = .ok (.aload_n 3, 1) := by decide +kernel
theorem dX11_init_223 : decode cX11_init 223 = .ok (.ldc2_w 112, 3) := by decide +kernel
theorem dX11_init_226 : decode cX11_init 226 = .ok (.putfield 114, 3) := by decide +kernel
theorem dX11_init_229 : decode cX11_init 229 = .ok (.aload_n 3, 1) := by decide +kernel
theorem dX11_init_230 : decode cX11_init 230 = .ok (.ldc2_w 115, 3) := by decide +kernel
theorem dX11_init_233 : decode cX11_init 233 = .ok (.putfield 117, 3) := by decide +kernel
theorem dX11_init_236 : decode cX11_init 236 = .ok (.aload_n 2, 1) := by decide +kernel
theorem dX11_init_237 : decode cX11_init 237 = .ok (.aload_n 3, 1) := by decide +kernel
theorem dX11_init_238 : decode cX11_init 238 = .ok (.invokevirtual 96, 3) := by decide +kernel
theorem dX11_init_241 : decode cX11_init 241 = .ok (.aload_n 2, 1) := by decide +kernel
theorem dX11_init_242 : decode cX11_init 242 = .ok (.aload_n 0, 1) := by decide +kernel
theorem dX11_init_243 : decode cX11_init 243 = .ok (.getfield 66, 3) := by decide +kernel
theorem dX11_init_246 : decode cX11_init 246 = .ok (.invokevirtual 88, 3) := by decide +kernel
theorem dX11_init_249 : decode cX11_init 249 = .ok (.invokestatic 92, 3) := by decide +kernel
theorem dX11_init_252 : decode cX11_init 252 = .ok (.invokevirtual 96, 3) := by decide +kernel
theorem dX11_init_255 : decode cX11_init 255 = .ok (.return_, 1) := by decide +kernel
theorem dX11_openMaker_0 : decode cX11_openMaker 0 = .ok (.aload_n 0, 1) := by decide +kernel
theorem dX11_openMaker_1 : decode cX11_openMaker 1 = .ok (.iconst 2, 1) := by decide +kernel
theorem dX11_openMaker_2 : decode cX11_openMaker 2 = .ok (.putfield 120, 3) := by decide +kernel
theorem dX11_openMaker_5 : decode cX11_openMaker 5 = .ok (.aload_n 0, 1) := by decide +kernel
theorem dX11_openMaker_6 : decode cX11_openMaker 6 = .ok (.iconst 3, 1) := by decide +kernel
theorem dX11_openMaker_7 : decode cX11_openMaker 7 = .ok (.putfield 109, 3) := by decide +kernel
theorem dX11_openMaker_10 : decode cX11_openMaker 10 = .ok (.aload_n 0, 1) := by decide +kernel
theorem dX11_openMaker_11 : decode cX11_openMaker 11 = .ok (.areturn, 1) := by decide +kernel
theorem dX11_clear_0 : decode cX11_clear 0 = .ok (.aload_n 0, 1) := by decide +kernel
theorem dX11_clear_1 : decode cX11_clear 1 = .ok (.iconst 2, 1) := by decide +kernel
theorem dX11_clear_2 : decode cX11_clear 2 = .ok (.putfield 123, 3) := by decide +kernel
theorem dX11_clear_5 : decode cX11_clear 5 = .ok (.aload_n 0, 1) := by decide +kernel
theorem dX11_clear_6 : decode cX11_clear 6 = .ok (.getfield 11, 3) := by decide +kernel
theorem dX11_clear_9 : decode cX11_clear 9 = .ok (.iconst 0, 1) := by decide +kernel
theorem dX11_clear_10 : decode cX11_clear 10 = .ok (.aload_n 0, 1) := by decide +kernel
theorem dX11_clear_11 : decode cX11_clear 11 = .ok (.getfield 66, 3) := by decide +kernel
theorem dX11_clear_14 : decode cX11_clear 14 = .ok (.getfield 126, 3) := by decide +kernel
theorem dX11_clear_17 : decode cX11_clear 17 = .ok (.iconst 0, 1) := by decide +kernel
theorem dX11_clear_18 : decode cX11_clear 18 = .ok (.aaload, 1) := by decide +kernel
theorem dX11_clear_19 : decode cX11_clear 19 = .ok (.aastore, 1) := by decide +kernel
theorem dX11_clear_20 : decode cX11_clear 20 = .ok (.aload_n 0, 1) := by decide +kernel
theorem dX11_clear_21 : decode cX11_clear 21 = .ok (.getfield 11, 3) := by decide +kernel
theorem dX11_clear_24 : decode cX11_clear 24 = .ok (.iconst 1, 1) := by decide +kernel
theorem dX11_clear_25 : decode cX11_clear 25 = .ok (.aload_n 0, 1) := by decide +kernel
theorem dX11_clear_26 : decode cX11_clear 26 = .ok (.getfield 66, 3) := by decide +kernel
theorem dX11_clear_29 : decode cX11_clear 29 = .ok (.getfield 126, 3) := by decide +kernel
theorem dX11_clear_32 : decode cX11_clear 32 = .ok (.iconst 1, 1) := by decide +kernel
theorem dX11_clear_33 : decode cX11_clear 33 = .ok (.aaload, 1) := by decide +kernel
theorem dX11_clear_34 : decode cX11_clear 34 = .ok (.aastore, 1) := by decide +kernel
theorem dX11_clear_35 : decode cX11_clear 35 = .ok (.return_, 1) := by decide +kernel
theorem dX11_enter_0 : decode cX11_enter 0 = .ok (.iconst 0, 1) := by decide +kernel
theorem dX11_enter_1 : decode cX11_enter 1 = .ok (.istore_n 2, 1) := by decide +kernel
theorem dX11_enter_2 : decode cX11_enter 2 = .ok (.aload_n 1, 1) := by decide +kernel
theorem dX11_enter_3 : decode cX11_enter 3 = .ok (.ifnull 112, 3) := by decide +kernel
theorem dX11_enter_6 : decode cX11_enter 6 = .ok (.iload_n 2, 1) := by decide +kernel
theorem dX11_enter_7 : decode cX11_enter 7 = .ok (.aload_n 1, 1) := by decide +kernel
theorem dX11_enter_8 : decode cX11_enter 8 = .ok (.getfield 129, 3) := by decide +kernel
theorem dX11_enter_11 : decode cX11_enter 11 = .ok (.if_icmp .ge 104, 3) := by decide +kernel
theorem dX11_enter_14 : decode cX11_enter 14 = .ok (.aload_n 0, 1) := by decide +kernel
theorem dX11_enter_15 : decode cX11_enter 15 = .ok (.getfield 123, 3) := by decide +kernel
theorem dX11_enter_18 : decode cX11_enter 18 = .ok (.bipush 64, 2) := by decide +kernel
theorem dX11_enter_20 : decode cX11_enter 20 = .ok (.if_icmp .lt 7, 3) := by decide +kernel
theorem dX11_enter_23 : decode cX11_enter 23 = .ok (.iconst 1, 1) := by decide +kernel
theorem dX11_enter_24 : decode cX11_enter 24 = .ok (.goto 4, 3) := by decide +kernel
theorem dX11_enter_27 : decode cX11_enter 27 = .ok (.iconst 0, 1) := by decide +kernel
theorem dX11_enter_28 : decode cX11_enter 28 = .ok (.istore_n 3, 1) := by decide +kernel
theorem dX11_enter_29 : decode cX11_enter 29 = .ok (.iconst 2, 1) := by decide +kernel
theorem dX11_enter_30 : decode cX11_enter 30 = .ok (.istore 4, 2) := by decide +kernel
theorem dX11_enter_32 : decode cX11_enter 32 = .ok (.iload 4, 2) := by decide +kernel
theorem dX11_enter_34 : decode cX11_enter 34 = .ok (.aload_n 0, 1) := by decide +kernel
theorem dX11_enter_35 : decode cX11_enter 35 = .ok (.getfield 123, 3) := by decide +kernel
theorem dX11_enter_38 : decode cX11_enter 38 = .ok (.if_icmp .ge 42, 3) := by decide +kernel
theorem dX11_enter_41 : decode cX11_enter 41 = .ok (.iload_n 3, 1) := by decide +kernel
theorem dX11_enter_42 : decode cX11_enter 42 = .ok (.ifCond .ne 38, 3) := by decide +kernel
theorem dX11_enter_45 : decode cX11_enter 45 = .ok (.aload_n 0, 1) := by decide +kernel
theorem dX11_enter_46 : decode cX11_enter 46 = .ok (.getfield 11, 3) := by decide +kernel
theorem dX11_enter_49 : decode cX11_enter 49 = .ok (.iload 4, 2) := by decide +kernel
theorem dX11_enter_51 : decode cX11_enter 51 = .ok (.aaload, 1) := by decide +kernel
theorem dX11_enter_52 : decode cX11_enter 52 = .ok (.getfield 76, 3) := by decide +kernel
theorem dX11_enter_55 : decode cX11_enter 55 = .ok (.aload_n 1, 1) := by decide +kernel
theorem dX11_enter_56 : decode cX11_enter 56 = .ok (.getfield 126, 3) := by decide +kernel
theorem dX11_enter_59 : decode cX11_enter 59 = .ok (.iload_n 2, 1) := by decide +kernel
theorem dX11_enter_60 : decode cX11_enter 60 = .ok (.aaload, 1) := by decide +kernel
theorem dX11_enter_61 : decode cX11_enter 61 = .ok (.getfield 76, 3) := by decide +kernel
theorem dX11_enter_64 : decode cX11_enter 64 = .ok (.lcmp, 1) := by decide +kernel
theorem dX11_enter_65 : decode cX11_enter 65 = .ok (.ifCond .ne 7, 3) := by decide +kernel
theorem dX11_enter_68 : decode cX11_enter 68 = .ok (.iconst 1, 1) := by decide +kernel
theorem dX11_enter_69 : decode cX11_enter 69 = .ok (.goto 4, 3) := by decide +kernel
theorem dX11_enter_72 : decode cX11_enter 72 = .ok (.iconst 0, 1) := by decide +kernel
theorem dX11_enter_73 : decode cX11_enter 73 = .ok (.istore_n 3, 1) := by decide +kernel
theorem dX11_enter_74 : decode cX11_enter 74 = .ok (.iinc 4 1, 3) := by decide +kernel
theorem dX11_enter_77 : decode cX11_enter 77 = .ok (.goto (-45), 3) := by decide +kernel
theorem dX11_enter_80 : decode cX11_enter 80 = .ok (.iload_n 3, 1) := by decide +kernel
theorem dX11_enter_81 : decode cX11_enter 81 = .ok (.ifCond .ne 28, 3) := by decide +kernel
theorem dX11_enter_84 : decode cX11_enter 84 = .ok (.aload_n 0, 1) := by decide +kernel
theorem dX11_enter_85 : decode cX11_enter 85 = .ok (.getfield 11, 3) := by decide +kernel
theorem dX11_enter_88 : decode cX11_enter 88 = .ok (.aload_n 0, 1) := by decide +kernel
theorem dX11_enter_89 : decode cX11_enter 89 = .ok (.getfield 123, 3) := by decide +kernel
theorem dX11_enter_92 : decode cX11_enter 92 = .ok (.aload_n 1, 1) := by decide +kernel
theorem dX11_enter_93 : decode cX11_enter 93 = .ok (.getfield 126, 3) := by decide +kernel
theorem dX11_enter_96 : decode cX11_enter 96 = .ok (.iload_n 2, 1) := by decide +kernel
theorem dX11_enter_97 : decode cX11_enter 97 = .ok (.aaload, 1) := by decide +kernel
theorem dX11_enter_98 : decode cX11_enter 98 = .ok (.aastore, 1) := by decide +kernel
theorem dX11_enter_99 : decode cX11_enter 99 = .ok (.aload_n 0, 1) := by decide +kernel
theorem dX11_enter_100 : decode cX11_enter 100 = .ok (.dup, 1) := by decide +kernel
theorem dX11_enter_101 : decode cX11_enter 101 = .ok (.getfield 123, 3) := by decide +kernel
theorem dX11_enter_104 : decode cX11_enter 104 = .ok (.iconst 1, 1) := by decide +kernel
theorem dX11_enter_105 : decode cX11_enter 105 = .ok (.iadd, 1) := by decide +kernel
theorem dX11_enter_106 : decode cX11_enter 106 = .ok (.putfield 123, 3) := by decide +kernel
theorem dX11_enter_109 : decode cX11_enter 109 = .ok (.iinc 2 1, 3) := by decide +kernel
theorem dX11_enter_112 : decode cX11_enter 112 = .ok (.goto (-110), 3) := by decide +kernel
theorem dX11_enter_115 : decode cX11_enter 115 = .ok (.return_, 1) := by decide +kernel
theorem dX11_find_0 : decode cX11_find 0 = .ok (.iconst 2, 1) := by decide +kernel
theorem dX11_find_1 : decode cX11_find 1 = .ok (.istore_n 3, 1) := by decide +kernel
theorem dX11_find_2 : decode cX11_find 2 = .ok (.iload_n 3, 1) := by decide +kernel
theorem dX11_find_3 : decode cX11_find 3 = .ok (.aload_n 0, 1) := by decide +kernel
theorem dX11_find_4 : decode cX11_find 4 = .ok (.getfield 123, 3) := by decide +kernel
theorem dX11_find_7 : decode cX11_find 7 = .ok (.if_icmp .ge 25, 3) := by decide +kernel
theorem dX11_find_10 : decode cX11_find 10 = .ok (.aload_n 0, 1) := by decide +kernel
theorem dX11_find_11 : decode cX11_find 11 = .ok (.getfield 11, 3) := by decide +kernel
theorem dX11_find_14 : decode cX11_find 14 = .ok (.iload_n 3, 1) := by decide +kernel
theorem dX11_find_15 : decode cX11_find 15 = .ok (.aaload, 1) := by decide +kernel
theorem dX11_find_16 : decode cX11_find 16 = .ok (.getfield 76, 3) := by decide +kernel
theorem dX11_find_19 : decode cX11_find 19 = .ok (.lload_n 1, 1) := by decide +kernel
theorem dX11_find_20 : decode cX11_find 20 = .ok (.lcmp, 1) := by decide +kernel
theorem dX11_find_21 : decode cX11_find 21 = .ok (.ifCond .ne 5, 3) := by decide +kernel
theorem dX11_find_24 : decode cX11_find 24 = .ok (.iload_n 3, 1) := by decide +kernel
theorem dX11_find_25 : decode cX11_find 25 = .ok (.ireturn, 1) := by decide +kernel
theorem dX11_find_26 : decode cX11_find 26 = .ok (.iinc 3 1, 3) := by decide +kernel
theorem dX11_find_29 : decode cX11_find 29 = .ok (.goto (-27), 3) := by decide +kernel
theorem dX11_find_32 : decode cX11_find 32 = .ok (.lload_n 1, 1) := by decide +kernel
theorem dX11_find_33 : decode cX11_find 33 = .ok (.ldc2_w 74, 3) := by decide +kernel
theorem dX11_find_36 : decode cX11_find 36 = .ok (.lcmp, 1) := by decide +kernel
theorem dX11_find_37 : decode cX11_find 37 = .ok (.ifCond .ne 7, 3) := by decide +kernel
theorem dX11_find_40 : decode cX11_find 40 = .ok (.iconst 0, 1) := by decide +kernel
theorem dX11_find_41 : decode cX11_find 41 = .ok (.goto 17, 3) := by decide +kernel
theorem dX11_find_44 : decode cX11_find 44 = .ok (.lload_n 1, 1) := by decide +kernel
theorem dX11_find_45 : decode cX11_find 45 = .ok (.ldc2_w 100, 3) := by decide +kernel
theorem dX11_find_48 : decode cX11_find 48 = .ok (.lcmp, 1) := by decide +kernel
theorem dX11_find_49 : decode cX11_find 49 = .ok (.ifCond .ne 7, 3) := by decide +kernel
theorem dX11_find_52 : decode cX11_find 52 = .ok (.iconst 1, 1) := by decide +kernel
theorem dX11_find_53 : decode cX11_find 53 = .ok (.goto 5, 3) := by decide +kernel
theorem dX11_find_56 : decode cX11_find 56 = .ok (.bipush (-2), 2) := by decide +kernel
theorem dX11_find_58 : decode cX11_find 58 = .ok (.ireturn, 1) := by decide +kernel
theorem dX11_settle_0 : decode cX11_settle 0 = .ok (.iconst 0, 1) := by decide +kernel
theorem dX11_settle_1 : decode cX11_settle 1 = .ok (.istore_n 1, 1) := by decide +kernel
theorem dX11_settle_2 : decode cX11_settle 2 = .ok (.iload_n 1, 1) := by decide +kernel
theorem dX11_settle_3 : decode cX11_settle 3 = .ok (.aload_n 0, 1) := by decide +kernel
theorem dX11_settle_4 : decode cX11_settle 4 = .ok (.getfield 123, 3) := by decide +kernel
theorem dX11_settle_7 : decode cX11_settle 7 = .ok (.if_icmp .ge 295, 3) := by decide +kernel
theorem dX11_settle_10 : decode cX11_settle 10 = .ok (.aload_n 0, 1) := by decide +kernel
theorem dX11_settle_11 : decode cX11_settle 11 = .ok (.getfield 11, 3) := by decide +kernel
theorem dX11_settle_14 : decode cX11_settle 14 = .ok (.iload_n 1, 1) := by decide +kernel
theorem dX11_settle_15 : decode cX11_settle 15 = .ok (.aaload, 1) := by decide +kernel
theorem dX11_settle_16 : decode cX11_settle 16 = .ok (.astore_n 2, 1) := by decide +kernel
theorem dX11_settle_17 : decode cX11_settle 17 = .ok (.aload_n 0, 1) := by decide +kernel
theorem dX11_settle_18 : decode cX11_settle 18 = .ok (.getfield 17, 3) := by decide +kernel
theorem dX11_settle_21 : decode cX11_settle 21 = .ok (.iload_n 1, 1) := by decide +kernel
theorem dX11_settle_22 : decode cX11_settle 22 = .ok (.iload_n 1, 1) := by decide +kernel
theorem dX11_settle_23 : decode cX11_settle 23 = .ok (.ifCond .eq 10, 3) := by decide +kernel
theorem dX11_settle_26 : decode cX11_settle 26 = .ok (.aload_n 2, 1) := by decide +kernel
theorem dX11_settle_27 : decode cX11_settle 27 = .ok (.getfield 132, 3) := by decide +kernel
theorem dX11_settle_30 : decode cX11_settle 30 = .ok (.ifCond .eq 8, 3) := by decide +kernel
theorem dX11_settle_33 : decode cX11_settle 33 = .ok (.bipush (-2), 2) := by decide +kernel
theorem dX11_settle_35 : decode cX11_settle 35 = .ok (.goto 11, 3) := by decide +kernel
theorem dX11_settle_38 : decode cX11_settle 38 = .ok (.aload_n 0, 1) := by decide +kernel
theorem dX11_settle_39 : decode cX11_settle 39 = .ok (.aload_n 2, 1) := by decide +kernel
theorem dX11_settle_40 : decode cX11_settle 40 = .ok (.getfield 86, 3) := by decide +kernel
theorem dX11_settle_43 : decode cX11_settle 43 = .ok (.invokevirtual 134, 3) := by decide +kernel
theorem dX11_settle_46 : decode cX11_settle 46 = .ok (.iastore, 1) := by decide +kernel
theorem dX11_settle_47 : decode cX11_settle 47 = .ok (.aload_n 0, 1) := by decide +kernel
theorem dX11_settle_48 : decode cX11_settle 48 = .ok (.getfield 30, 3) := by decide +kernel
theorem dX11_settle_51 : decode cX11_settle 51 = .ok (.iload_n 1, 1) := by decide +kernel
theorem dX11_settle_52 : decode cX11_settle 52 = .ok (.aload_n 2, 1) := by decide +kernel
theorem dX11_settle_53 : decode cX11_settle 53 = .ok (.getfield 138, 3) := by decide +kernel
theorem dX11_settle_56 : decode cX11_settle 56 = .ok (.ldc2_w 84, 3) := by decide +kernel
theorem dX11_settle_59 : decode cX11_settle 59 = .ok (.lcmp, 1) := by decide +kernel
theorem dX11_settle_60 : decode cX11_settle 60 = .ok (.ifCond .ne 8, 3) := by decide +kernel
theorem dX11_settle_63 : decode cX11_settle 63 = .ok (.bipush (-2), 2) := by decide +kernel
theorem dX11_settle_65 : decode cX11_settle 65 = .ok (.goto 11, 3) := by decide +kernel
theorem dX11_settle_68 : decode cX11_settle 68 = .ok (.aload_n 0, 1) := by decide +kernel
theorem dX11_settle_69 : decode cX11_settle 69 = .ok (.aload_n 2, 1) := by decide +kernel
theorem dX11_settle_70 : decode cX11_settle 70 = .ok (.getfield 138, 3) := by decide +kernel
theorem dX11_settle_73 : decode cX11_settle 73 = .ok (.invokevirtual 134, 3) := by decide +kernel
theorem dX11_settle_76 : decode cX11_settle 76 = .ok (.iastore, 1) := by decide +kernel
theorem dX11_settle_77 : decode cX11_settle 77 = .ok (.aload_n 0, 1) := by decide +kernel
theorem dX11_settle_78 : decode cX11_settle 78 = .ok (.getfield 30, 3) := by decide +kernel
theorem dX11_settle_81 : decode cX11_settle 81 = .ok (.iload_n 1, 1) := by decide +kernel
theorem dX11_settle_82 : decode cX11_settle 82 = .ok (.iaload, 1) := by decide +kernel
theorem dX11_settle_83 : decode cX11_settle 83 = .ok (.ifCond .lt 47, 3) := by decide +kernel
theorem dX11_settle_86 : decode cX11_settle 86 = .ok (.aload_n 2, 1) := by decide +kernel
theorem dX11_settle_87 : decode cX11_settle 87 = .ok (.getfield 138, 3) := by decide +kernel
theorem dX11_settle_90 : decode cX11_settle 90 = .ok (.bipush 59, 2) := by decide +kernel
theorem dX11_settle_92 : decode cX11_settle 92 = .ok (.lushr, 1) := by decide +kernel
theorem dX11_settle_93 : decode cX11_settle 93 = .ok (.aload_n 2, 1) := by decide +kernel
theorem dX11_settle_94 : decode cX11_settle 94 = .ok (.getfield 76, 3) := by decide +kernel
theorem dX11_settle_97 : decode cX11_settle 97 = .ok (.bipush 59, 2) := by decide +kernel
theorem dX11_settle_99 : decode cX11_settle 99 = .ok (.lushr, 1) := by decide +kernel
theorem dX11_settle_100 : decode cX11_settle 100 = .ok (.lcmp, 1) := by decide +kernel
theorem dX11_settle_101 : decode cX11_settle 101 = .ok (.ifCond .ne 29, 3) := by decide +kernel
theorem dX11_settle_104 : decode cX11_settle 104 = .ok (.aload_n 0, 1) := by decide +kernel
theorem dX11_settle_105 : decode cX11_settle 105 = .ok (.getfield 11, 3) := by decide +kernel
theorem dX11_settle_108 : decode cX11_settle 108 = .ok (.aload_n 0, 1) := by decide +kernel
theorem dX11_settle_109 : decode cX11_settle 109 = .ok (.getfield 30, 3) := by decide +kernel
theorem dX11_settle_112 : decode cX11_settle 112 = .ok (.iload_n 1, 1) := by decide +kernel
theorem dX11_settle_113 : decode cX11_settle 113 = .ok (.iaload, 1) := by decide +kernel
theorem dX11_settle_114 : decode cX11_settle 114 = .ok (.aaload, 1) := by decide +kernel
theorem dX11_settle_115 : decode cX11_settle 115 = .ok (.iconst 1, 1) := by decide +kernel
theorem dX11_settle_116 : decode cX11_settle 116 = .ok (.aload_n 2, 1) := by decide +kernel
theorem dX11_settle_117 : decode cX11_settle 117 = .ok (.getfield 76, 3) := by decide +kernel
theorem dX11_settle_120 : decode cX11_settle 120 = .ok (.invokevirtual 141, 3) := by decide +kernel
theorem dX11_settle_123 : decode cX11_settle 123 = .ok (.ifCond .eq 7, 3) := by decide +kernel
theorem dX11_settle_126 : decode cX11_settle 126 = .ok (.iconst 1, 1) := by decide +kernel
theorem dX11_settle_127 : decode cX11_settle 127 = .ok (.goto 4, 3) := by decide +kernel
theorem dX11_settle_130 : decode cX11_settle 130 = .ok (.iconst 0, 1) := by decide +kernel
theorem dX11_settle_131 : decode cX11_settle 131 = .ok (.istore_n 3, 1) := by decide +kernel
theorem dX11_settle_132 : decode cX11_settle 132 = .ok (.aload_n 0, 1) := by decide +kernel
theorem dX11_settle_133 : decode cX11_settle 133 = .ok (.getfield 33, 3) := by decide +kernel
theorem dX11_settle_136 : decode cX11_settle 136 = .ok (.iload_n 1, 1) := by decide +kernel
theorem dX11_settle_137 : decode cX11_settle 137 = .ok (.iload_n 3, 1) := by decide +kernel
theorem dX11_settle_138 : decode cX11_settle 138 = .ok (.ifCond .eq 12, 3) := by decide +kernel
theorem dX11_settle_141 : decode cX11_settle 141 = .ok (.aload_n 0, 1) := by decide +kernel
theorem dX11_settle_142 : decode cX11_settle 142 = .ok (.getfield 30, 3) := by decide +kernel
theorem dX11_settle_145 : decode cX11_settle 145 = .ok (.iload_n 1, 1) := by decide +kernel
theorem dX11_settle_146 : decode cX11_settle 146 = .ok (.iaload, 1) := by decide +kernel
theorem dX11_settle_147 : decode cX11_settle 147 = .ok (.goto 4, 3) := by decide +kernel
theorem dX11_settle_150 : decode cX11_settle 150 = .ok (.iload_n 1, 1) := by decide +kernel
theorem dX11_settle_151 : decode cX11_settle 151 = .ok (.iastore, 1) := by decide +kernel
theorem dX11_settle_152 : decode cX11_settle 152 = .ok (.aload_n 0, 1) := by decide +kernel
theorem dX11_settle_153 : decode cX11_settle 153 = .ok (.getfield 27, 3) := by decide +kernel
theorem dX11_settle_156 : decode cX11_settle 156 = .ok (.iload_n 1, 1) := by decide +kernel
theorem dX11_settle_157 : decode cX11_settle 157 = .ok (.iconst 5, 1) := by decide +kernel
theorem dX11_settle_158 : decode cX11_settle 158 = .ok (.imul, 1) := by decide +kernel
theorem dX11_settle_159 : decode cX11_settle 159 = .ok (.aload_n 2, 1) := by decide +kernel
theorem dX11_settle_160 : decode cX11_settle 160 = .ok (.getfield 132, 3) := by decide +kernel
theorem dX11_settle_163 : decode cX11_settle 163 = .ok (.ifCond .eq 7, 3) := by decide +kernel
theorem dX11_settle_166 : decode cX11_settle 166 = .ok (.iconst 0, 1) := by decide +kernel
theorem dX11_settle_167 : decode cX11_settle 167 = .ok (.goto 15, 3) := by decide +kernel
theorem dX11_settle_170 : decode cX11_settle 170 = .ok (.aload_n 0, 1) := by decide +kernel
theorem dX11_settle_171 : decode cX11_settle 171 = .ok (.aload_n 2, 1) := by decide +kernel
theorem dX11_settle_172 : decode cX11_settle 172 = .ok (.aload_n 0, 1) := by decide +kernel
theorem dX11_settle_173 : decode cX11_settle 173 = .ok (.getfield 17, 3) := by decide +kernel
theorem dX11_settle_176 : decode cX11_settle 176 = .ok (.iload_n 1, 1) := by decide +kernel
theorem dX11_settle_177 : decode cX11_settle 177 = .ok (.iaload, 1) := by decide +kernel
theorem dX11_settle_178 : decode cX11_settle 178 = .ok (.iconst 1, 1) := by decide +kernel
theorem dX11_settle_179 : decode cX11_settle 179 = .ok (.invokevirtual 145, 3) := by decide +kernel
theorem dX11_settle_182 : decode cX11_settle 182 = .ok (.iastore, 1) := by decide +kernel
theorem dX11_settle_183 : decode cX11_settle 183 = .ok (.iconst 0, 1) := by decide +kernel
theorem dX11_settle_184 : decode cX11_settle 184 = .ok (.istore 4, 2) := by decide +kernel
theorem dX11_settle_186 : decode cX11_settle 186 = .ok (.iload 4, 2) := by decide +kernel
theorem dX11_settle_188 : decode cX11_settle 188 = .ok (.iconst 4, 1) := by decide +kernel
theorem dX11_settle_189 : decode cX11_settle 189 = .ok (.if_icmp .ge 92, 3) := by decide +kernel
theorem dX11_settle_192 : decode cX11_settle 192 = .ok (.aload_n 0, 1) := by decide +kernel
theorem dX11_settle_193 : decode cX11_settle 193 = .ok (.getfield 24, 3) := by decide +kernel
theorem dX11_settle_196 : decode cX11_settle 196 = .ok (.iload_n 1, 1) := by decide +kernel
theorem dX11_settle_197 : decode cX11_settle 197 = .ok (.iconst 4, 1) := by decide +kernel
theorem dX11_settle_198 : decode cX11_settle 198 = .ok (.imul, 1) := by decide +kernel
theorem dX11_settle_199 : decode cX11_settle 199 = .ok (.iload 4, 2) := by decide +kernel
theorem dX11_settle_201 : decode cX11_settle 201 = .ok (.iadd, 1) := by decide +kernel
theorem dX11_settle_202 : decode cX11_settle 202 = .ok (.iload 4, 2) := by decide +kernel
theorem dX11_settle_204 : decode cX11_settle 204 = .ok (.aload_n 2, 1) := by decide +kernel
theorem dX11_settle_205 : decode cX11_settle 205 = .ok (.getfield 149, 3) := by decide +kernel
theorem dX11_settle_208 : decode cX11_settle 208 = .ok (.iconst 0, 1) := by decide +kernel
theorem dX11_settle_209 : decode cX11_settle 209 = .ok (.iaload, 1) := by decide +kernel
theorem dX11_settle_210 : decode cX11_settle 210 = .ok (.if_icmp .ge 17, 3) := by decide +kernel
theorem dX11_settle_213 : decode cX11_settle 213 = .ok (.aload_n 0, 1) := by decide +kernel
theorem dX11_settle_214 : decode cX11_settle 214 = .ok (.aload_n 2, 1) := by decide +kernel
theorem dX11_settle_215 : decode cX11_settle 215 = .ok (.iconst 0, 1) := by decide +kernel
theorem dX11_settle_216 : decode cX11_settle 216 = .ok (.iload 4, 2) := by decide +kernel
theorem dX11_settle_218 : decode cX11_settle 218 = .ok (.invokevirtual 152, 3) := by decide +kernel
theorem dX11_settle_221 : decode cX11_settle 221 = .ok (.invokevirtual 134, 3) := by decide +kernel
theorem dX11_settle_224 : decode cX11_settle 224 = .ok (.goto 5, 3) := by decide +kernel
theorem dX11_settle_227 : decode cX11_settle 227 = .ok (.bipush (-2), 2) := by decide +kernel
theorem dX11_settle_229 : decode cX11_settle 229 = .ok (.iastore, 1) := by decide +kernel
theorem dX11_settle_230 : decode cX11_settle 230 = .ok (.aload_n 0, 1) := by decide +kernel
theorem dX11_settle_231 : decode cX11_settle 231 = .ok (.getfield 27, 3) := by decide +kernel
theorem dX11_settle_234 : decode cX11_settle 234 = .ok (.iload_n 1, 1) := by decide +kernel
theorem dX11_settle_235 : decode cX11_settle 235 = .ok (.iconst 5, 1) := by decide +kernel
theorem dX11_settle_236 : decode cX11_settle 236 = .ok (.imul, 1) := by decide +kernel
theorem dX11_settle_237 : decode cX11_settle 237 = .ok (.iconst 1, 1) := by decide +kernel
theorem dX11_settle_238 : decode cX11_settle 238 = .ok (.iadd, 1) := by decide +kernel
theorem dX11_settle_239 : decode cX11_settle 239 = .ok (.iload 4, 2) := by decide +kernel
theorem dX11_settle_241 : decode cX11_settle 241 = .ok (.iadd, 1) := by decide +kernel
theorem dX11_settle_242 : decode cX11_settle 242 = .ok (.iload 4, 2) := by decide +kernel
theorem dX11_settle_244 : decode cX11_settle 244 = .ok (.aload_n 2, 1) := by decide +kernel
theorem dX11_settle_245 : decode cX11_settle 245 = .ok (.getfield 149, 3) := by decide +kernel
theorem dX11_settle_248 : decode cX11_settle 248 = .ok (.iconst 0, 1) := by decide +kernel
theorem dX11_settle_249 : decode cX11_settle 249 = .ok (.iaload, 1) := by decide +kernel
theorem dX11_settle_250 : decode cX11_settle 250 = .ok (.if_icmp .ge 23, 3) := by decide +kernel
theorem dX11_settle_253 : decode cX11_settle 253 = .ok (.aload_n 0, 1) := by decide +kernel
theorem dX11_settle_254 : decode cX11_settle 254 = .ok (.aload_n 2, 1) := by decide +kernel
theorem dX11_settle_255 : decode cX11_settle 255 = .ok (.aload_n 0, 1) := by decide +kernel
theorem dX11_settle_256 : decode cX11_settle 256 = .ok (.getfield 24, 3) := by decide +kernel
theorem dX11_settle_259 : decode cX11_settle 259 = .ok (.iload_n 1, 1) := by decide +kernel
theorem dX11_settle_260 : decode cX11_settle 260 = .ok (.iconst 4, 1) := by decide +kernel
theorem dX11_settle_261 : decode cX11_settle 261 = .ok (.imul, 1) := by decide +kernel
theorem dX11_settle_262 : decode cX11_settle 262 = .ok (.iload 4, 2) := by decide +kernel
theorem dX11_settle_264 : decode cX11_settle 264 = .ok (.iadd, 1) := by decide +kernel
theorem dX11_settle_265 : decode cX11_settle 265 = .ok (.iaload, 1) := by decide +kernel
theorem dX11_settle_266 : decode cX11_settle 266 = .ok (.iconst 0, 1) := by decide +kernel
theorem dX11_settle_267 : decode cX11_settle 267 = .ok (.invokevirtual 145, 3) := by decide +kernel
theorem dX11_settle_270 : decode cX11_settle 270 = .ok (.goto 4, 3) := by decide +kernel
theorem dX11_settle_273 : decode cX11_settle 273 = .ok (.iconst 0, 1) := by decide +kernel
theorem dX11_settle_274 : decode cX11_settle 274 = .ok (.iastore, 1) := by decide +kernel
theorem dX11_settle_275 : decode cX11_settle 275 = .ok (.iinc 4 1, 3) := by decide +kernel
theorem dX11_settle_278 : decode cX11_settle 278 = .ok (.goto (-92), 3) := by decide +kernel
theorem dX11_settle_281 : decode cX11_settle 281 = .ok (.aload_n 0, 1) := by decide +kernel
theorem dX11_settle_282 : decode cX11_settle 282 = .ok (.getfield 36, 3) := by decide +kernel
theorem dX11_settle_285 : decode cX11_settle 285 = .ok (.iload_n 1, 1) := by decide +kernel
theorem dX11_settle_286 : decode cX11_settle 286 = .ok (.lconst 0, 1) := by decide +kernel
theorem dX11_settle_287 : decode cX11_settle 287 = .ok (.lastore, 1) := by decide +kernel
theorem dX11_settle_288 : decode cX11_settle 288 = .ok (.aload_n 0, 1) := by decide +kernel
theorem dX11_settle_289 : decode cX11_settle 289 = .ok (.getfield 43, 3) := by decide +kernel
theorem dX11_settle_292 : decode cX11_settle 292 = .ok (.iload_n 1, 1) := by decide +kernel
theorem dX11_settle_293 : decode cX11_settle 293 = .ok (.bipush (-2), 2) := by decide +kernel
theorem dX11_settle_295 : decode cX11_settle 295 = .ok (.iastore, 1) := by decide +kernel
theorem dX11_settle_296 : decode cX11_settle 296 = .ok (.iinc 1 1, 3) := by decide +kernel
theorem dX11_settle_299 : decode cX11_settle 299 = .ok (.goto (-297), 3) := by decide +kernel
theorem dX11_settle_302 : decode cX11_settle 302 = .ok (.aload_n 0, 1) := by decide +kernel
theorem dX11_settle_303 : decode cX11_settle 303 = .ok (.invokevirtual 156, 3) := by decide +kernel
theorem dX11_settle_306 : decode cX11_settle 306 = .ok (.return_, 1) := by decide +kernel
theorem dX11_bars_0 : decode cX11_bars 0 = .ok (.iload_n 2, 1) := by decide +kernel
theorem dX11_bars_1 : decode cX11_bars 1 = .ok (.ifCond .ge 5, 3) := by decide +kernel
theorem dX11_bars_4 : decode cX11_bars 4 = .ok (.iconst 1, 1) := by decide +kernel
theorem dX11_bars_5 : decode cX11_bars 5 = .ok (.ireturn, 1) := by decide +kernel
theorem dX11_bars_6 : decode cX11_bars 6 = .ok (.aload_n 0, 1) := by decide +kernel
theorem dX11_bars_7 : decode cX11_bars 7 = .ok (.getfield 11, 3) := by decide +kernel
theorem dX11_bars_10 : decode cX11_bars 10 = .ok (.iload_n 2, 1) := by decide +kernel
theorem dX11_bars_11 : decode cX11_bars 11 = .ok (.aaload, 1) := by decide +kernel
theorem dX11_bars_12 : decode cX11_bars 12 = .ok (.astore 4, 2) := by decide +kernel
theorem dX11_bars_14 : decode cX11_bars 14 = .ok (.aload 4, 2) := by decide +kernel
theorem dX11_bars_16 : decode cX11_bars 16 = .ok (.getfield 132, 3) := by decide +kernel
theorem dX11_bars_19 : decode cX11_bars 19 = .ok (.iload_n 3, 1) := by decide +kernel
theorem dX11_bars_20 : decode cX11_bars 20 = .ok (.if_icmp .ne 5, 3) := by decide +kernel
theorem dX11_bars_23 : decode cX11_bars 23 = .ok (.iconst 3, 1) := by decide +kernel
theorem dX11_bars_24 : decode cX11_bars 24 = .ok (.ireturn, 1) := by decide +kernel
theorem dX11_bars_25 : decode cX11_bars 25 = .ok (.aload 4, 2) := by decide +kernel
theorem dX11_bars_27 : decode cX11_bars 27 = .ok (.getfield 80, 3) := by decide +kernel
theorem dX11_bars_30 : decode cX11_bars 30 = .ok (.ifCond .ne 24, 3) := by decide +kernel
theorem dX11_bars_33 : decode cX11_bars 33 = .ok (.aload 4, 2) := by decide +kernel
theorem dX11_bars_35 : decode cX11_bars 35 = .ok (.getfield 76, 3) := by decide +kernel
theorem dX11_bars_38 : decode cX11_bars 38 = .ok (.bipush 59, 2) := by decide +kernel
theorem dX11_bars_40 : decode cX11_bars 40 = .ok (.lushr, 1) := by decide +kernel
theorem dX11_bars_41 : decode cX11_bars 41 = .ok (.aload_n 1, 1) := by decide +kernel
theorem dX11_bars_42 : decode cX11_bars 42 = .ok (.getfield 76, 3) := by decide +kernel
theorem dX11_bars_45 : decode cX11_bars 45 = .ok (.bipush 59, 2) := by decide +kernel
theorem dX11_bars_47 : decode cX11_bars 47 = .ok (.lushr, 1) := by decide +kernel
theorem dX11_bars_48 : decode cX11_bars 48 = .ok (.lcmp, 1) := by decide +kernel
theorem dX11_bars_49 : decode cX11_bars 49 = .ok (.ifCond .eq 5, 3) := by decide +kernel
theorem dX11_bars_52 : decode cX11_bars 52 = .ok (.iconst 2, 1) := by decide +kernel
theorem dX11_bars_53 : decode cX11_bars 53 = .ok (.ireturn, 1) := by decide +kernel
theorem dX11_bars_54 : decode cX11_bars 54 = .ok (.iload_n 3, 1) := by decide +kernel
theorem dX11_bars_55 : decode cX11_bars 55 = .ok (.ifCond .eq 11, 3) := by decide +kernel
theorem dX11_bars_58 : decode cX11_bars 58 = .ok (.aload 4, 2) := by decide +kernel
theorem dX11_bars_60 : decode cX11_bars 60 = .ok (.getfield 159, 3) := by decide +kernel
theorem dX11_bars_63 : decode cX11_bars 63 = .ok (.ifCond .ne 26, 3) := by decide +kernel
theorem dX11_bars_66 : decode cX11_bars 66 = .ok (.aload 4, 2) := by decide +kernel
theorem dX11_bars_68 : decode cX11_bars 68 = .ok (.getfield 149, 3) := by decide +kernel
theorem dX11_bars_71 : decode cX11_bars 71 = .ok (.iconst 2, 1) := by decide +kernel
theorem dX11_bars_72 : decode cX11_bars 72 = .ok (.iaload, 1) := by decide +kernel
theorem dX11_bars_73 : decode cX11_bars 73 = .ok (.ifCond .le 20, 3) := by decide +kernel
theorem dX11_bars_76 : decode cX11_bars 76 = .ok (.aload 4, 2) := by decide +kernel
theorem dX11_bars_78 : decode cX11_bars 78 = .ok (.iconst 2, 1) := by decide +kernel
theorem dX11_bars_79 : decode cX11_bars 79 = .ok (.aload_n 1, 1) := by decide +kernel
theorem dX11_bars_80 : decode cX11_bars 80 = .ok (.getfield 76, 3) := by decide +kernel
theorem dX11_bars_83 : decode cX11_bars 83 = .ok (.invokevirtual 141, 3) := by decide +kernel
theorem dX11_bars_86 : decode cX11_bars 86 = .ok (.ifCond .ne 7, 3) := by decide +kernel
theorem dX11_bars_89 : decode cX11_bars 89 = .ok (.iconst 3, 1) := by decide +kernel
theorem dX11_bars_90 : decode cX11_bars 90 = .ok (.goto 4, 3) := by decide +kernel
theorem dX11_bars_93 : decode cX11_bars 93 = .ok (.iconst 0, 1) := by decide +kernel
theorem dX11_bars_94 : decode cX11_bars 94 = .ok (.ireturn, 1) := by decide +kernel
theorem dX11_close_0 : decode cX11_close 0 = .ok (.iconst 1, 1) := by decide +kernel
theorem dX11_close_1 : decode cX11_close 1 = .ok (.istore_n 1, 1) := by decide +kernel
theorem dX11_close_2 : decode cX11_close 2 = .ok (.iconst 0, 1) := by decide +kernel
theorem dX11_close_3 : decode cX11_close 3 = .ok (.istore_n 2, 1) := by decide +kernel
theorem dX11_close_4 : decode cX11_close 4 = .ok (.iload_n 2, 1) := by decide +kernel
theorem dX11_close_5 : decode cX11_close 5 = .ok (.bipush 64, 2) := by decide +kernel
theorem dX11_close_7 : decode cX11_close 7 = .ok (.if_icmp .gt 167, 3) := by decide +kernel
theorem dX11_close_10 : decode cX11_close 10 = .ok (.iload_n 1, 1) := by decide +kernel
theorem dX11_close_11 : decode cX11_close 11 = .ok (.ifCond .eq 163, 3) := by decide +kernel
theorem dX11_close_14 : decode cX11_close 14 = .ok (.iconst 0, 1) := by decide +kernel
theorem dX11_close_15 : decode cX11_close 15 = .ok (.istore_n 1, 1) := by decide +kernel
theorem dX11_close_16 : decode cX11_close 16 = .ok (.iconst 0, 1) := by decide +kernel
theorem dX11_close_17 : decode cX11_close 17 = .ok (.istore_n 3, 1) := by decide +kernel
theorem dX11_close_18 : decode cX11_close 18 = .ok (.iload_n 3, 1) := by decide +kernel
theorem dX11_close_19 : decode cX11_close 19 = .ok (.aload_n 0, 1) := by decide +kernel
theorem dX11_close_20 : decode cX11_close 20 = .ok (.getfield 123, 3) := by decide +kernel
theorem dX11_close_23 : decode cX11_close 23 = .ok (.if_icmp .ge 145, 3) := by decide +kernel
theorem dX11_close_26 : decode cX11_close 26 = .ok (.aload_n 0, 1) := by decide +kernel
theorem dX11_close_27 : decode cX11_close 27 = .ok (.getfield 36, 3) := by decide +kernel
theorem dX11_close_30 : decode cX11_close 30 = .ok (.iload_n 3, 1) := by decide +kernel
theorem dX11_close_31 : decode cX11_close 31 = .ok (.laload, 1) := by decide +kernel
theorem dX11_close_32 : decode cX11_close 32 = .ok (.lstore 4, 2) := by decide +kernel
theorem dX11_close_34 : decode cX11_close 34 = .ok (.aload_n 0, 1) := by decide +kernel
theorem dX11_close_35 : decode cX11_close 35 = .ok (.getfield 36, 3) := by decide +kernel
theorem dX11_close_38 : decode cX11_close 38 = .ok (.iload_n 3, 1) := by decide +kernel
theorem dX11_close_39 : decode cX11_close 39 = .ok (.dup2, 1) := by decide +kernel
theorem dX11_close_40 : decode cX11_close 40 = .ok (.laload, 1) := by decide +kernel
theorem dX11_close_41 : decode cX11_close 41 = .ok (.aload_n 0, 1) := by decide +kernel
theorem dX11_close_42 : decode cX11_close 42 = .ok (.getfield 17, 3) := by decide +kernel
theorem dX11_close_45 : decode cX11_close 45 = .ok (.iload_n 3, 1) := by decide +kernel
theorem dX11_close_46 : decode cX11_close 46 = .ok (.iaload, 1) := by decide +kernel
theorem dX11_close_47 : decode cX11_close 47 = .ok (.ifCond .ge 7, 3) := by decide +kernel
theorem dX11_close_50 : decode cX11_close 50 = .ok (.lconst 0, 1) := by decide +kernel
theorem dX11_close_51 : decode cX11_close 51 = .ok (.goto 23, 3) := by decide +kernel
theorem dX11_close_54 : decode cX11_close 54 = .ok (.lconst 1, 1) := by decide +kernel
theorem dX11_close_55 : decode cX11_close 55 = .ok (.aload_n 0, 1) := by decide +kernel
theorem dX11_close_56 : decode cX11_close 56 = .ok (.getfield 17, 3) := by decide +kernel
theorem dX11_close_59 : decode cX11_close 59 = .ok (.iload_n 3, 1) := by decide +kernel
theorem dX11_close_60 : decode cX11_close 60 = .ok (.iaload, 1) := by decide +kernel
theorem dX11_close_61 : decode cX11_close 61 = .ok (.lshl, 1) := by decide +kernel
theorem dX11_close_62 : decode cX11_close 62 = .ok (.aload_n 0, 1) := by decide +kernel
theorem dX11_close_63 : decode cX11_close 63 = .ok (.getfield 36, 3) := by decide +kernel
theorem dX11_close_66 : decode cX11_close 66 = .ok (.aload_n 0, 1) := by decide +kernel
theorem dX11_close_67 : decode cX11_close 67 = .ok (.getfield 17, 3) := by decide +kernel
theorem dX11_close_70 : decode cX11_close 70 = .ok (.iload_n 3, 1) := by decide +kernel
theorem dX11_close_71 : decode cX11_close 71 = .ok (.iaload, 1) := by decide +kernel
theorem dX11_close_72 : decode cX11_close 72 = .ok (.laload, 1) := by decide +kernel
theorem dX11_close_73 : decode cX11_close 73 = .ok (.lor, 1) := by decide +kernel
theorem dX11_close_74 : decode cX11_close 74 = .ok (.lor, 1) := by decide +kernel
theorem dX11_close_75 : decode cX11_close 75 = .ok (.lastore, 1) := by decide +kernel
theorem dX11_close_76 : decode cX11_close 76 = .ok (.iload_n 3, 1) := by decide +kernel
theorem dX11_close_77 : decode cX11_close 77 = .ok (.iconst 4, 1) := by decide +kernel
theorem dX11_close_78 : decode cX11_close 78 = .ok (.imul, 1) := by decide +kernel
theorem dX11_close_79 : decode cX11_close 79 = .ok (.istore 6, 2) := by decide +kernel
theorem dX11_close_81 : decode cX11_close 81 = .ok (.iload 6, 2) := by decide +kernel
theorem dX11_close_83 : decode cX11_close 83 = .ok (.iload_n 3, 1) := by decide +kernel
theorem dX11_close_84 : decode cX11_close 84 = .ok (.iconst 4, 1) := by decide +kernel
theorem dX11_close_85 : decode cX11_close 85 = .ok (.imul, 1) := by decide +kernel
theorem dX11_close_86 : decode cX11_close 86 = .ok (.iconst 4, 1) := by decide +kernel
theorem dX11_close_87 : decode cX11_close 87 = .ok (.iadd, 1) := by decide +kernel
theorem dX11_close_88 : decode cX11_close 88 = .ok (.if_icmp .ge 54, 3) := by decide +kernel
theorem dX11_close_91 : decode cX11_close 91 = .ok (.aload_n 0, 1) := by decide +kernel
theorem dX11_close_92 : decode cX11_close 92 = .ok (.getfield 36, 3) := by decide +kernel
theorem dX11_close_95 : decode cX11_close 95 = .ok (.iload_n 3, 1) := by decide +kernel
theorem dX11_close_96 : decode cX11_close 96 = .ok (.dup2, 1) := by decide +kernel
theorem dX11_close_97 : decode cX11_close 97 = .ok (.laload, 1) := by decide +kernel
theorem dX11_close_98 : decode cX11_close 98 = .ok (.aload_n 0, 1) := by decide +kernel
theorem dX11_close_99 : decode cX11_close 99 = .ok (.getfield 24, 3) := by decide +kernel
theorem dX11_close_102 : decode cX11_close 102 = .ok (.iload 6, 2) := by decide +kernel
theorem dX11_close_104 : decode cX11_close 104 = .ok (.iaload, 1) := by decide +kernel
theorem dX11_close_105 : decode cX11_close 105 = .ok (.ifCond .ge 7, 3) := by decide +kernel
theorem dX11_close_108 : decode cX11_close 108 = .ok (.lconst 0, 1) := by decide +kernel
theorem dX11_close_109 : decode cX11_close 109 = .ok (.goto 25, 3) := by decide +kernel
theorem dX11_close_112 : decode cX11_close 112 = .ok (.lconst 1, 1) := by decide +kernel
theorem dX11_close_113 : decode cX11_close 113 = .ok (.aload_n 0, 1) := by decide +kernel
theorem dX11_close_114 : decode cX11_close 114 = .ok (.getfield 24, 3) := by decide +kernel
theorem dX11_close_117 : decode cX11_close 117 = .ok (.iload 6, 2) := by decide +kernel
theorem dX11_close_119 : decode cX11_close 119 = .ok (.iaload, 1) := by decide +kernel
theorem dX11_close_120 : decode cX11_close 120 = .ok (.lshl, 1) := by decide +kernel
theorem dX11_close_121 : decode cX11_close 121 = .ok (.aload_n 0, 1) := by decide +kernel
theorem dX11_close_122 : decode cX11_close 122 = .ok (.getfield 36, 3) := by decide +kernel
theorem dX11_close_125 : decode cX11_close 125 = .ok (.aload_n 0, 1) := by decide +kernel
theorem dX11_close_126 : decode cX11_close 126 = .ok (.getfield 24, 3) := by decide +kernel
theorem dX11_close_129 : decode cX11_close 129 = .ok (.iload 6, 2) := by decide +kernel
theorem dX11_close_131 : decode cX11_close 131 = .ok (.iaload, 1) := by decide +kernel
theorem dX11_close_132 : decode cX11_close 132 = .ok (.laload, 1) := by decide +kernel
theorem dX11_close_133 : decode cX11_close 133 = .ok (.lor, 1) := by decide +kernel
theorem dX11_close_134 : decode cX11_close 134 = .ok (.lor, 1) := by decide +kernel
theorem dX11_close_135 : decode cX11_close 135 = .ok (.lastore, 1) := by decide +kernel
theorem dX11_close_136 : decode cX11_close 136 = .ok (.iinc 6 1, 3) := by decide +kernel
theorem dX11_close_139 : decode cX11_close 139 = .ok (.goto (-58), 3) := by decide +kernel
theorem dX11_close_142 : decode cX11_close 142 = .ok (.iload_n 1, 1) := by decide +kernel
theorem dX11_close_143 : decode cX11_close 143 = .ok (.aload_n 0, 1) := by decide +kernel
theorem dX11_close_144 : decode cX11_close 144 = .ok (.getfield 36, 3) := by decide +kernel
theorem dX11_close_147 : decode cX11_close 147 = .ok (.iload_n 3, 1) := by decide +kernel
theorem dX11_close_148 : decode cX11_close 148 = .ok (.laload, 1) := by decide +kernel
theorem dX11_close_149 : decode cX11_close 149 = .ok (.lload 4, 2) := by decide +kernel
theorem dX11_close_151 : decode cX11_close 151 = .ok (.lcmp, 1) := by decide +kernel
theorem dX11_close_152 : decode cX11_close 152 = .ok (.ifCond .eq 7, 3) := by decide +kernel
theorem dX11_close_155 : decode cX11_close 155 = .ok (.iconst 1, 1) := by decide +kernel
theorem dX11_close_156 : decode cX11_close 156 = .ok (.goto 4, 3) := by decide +kernel
theorem dX11_close_159 : decode cX11_close 159 = .ok (.iconst 0, 1) := by decide +kernel
theorem dX11_close_160 : decode cX11_close 160 = .ok (.ior, 1) := by decide +kernel
theorem dX11_close_161 : decode cX11_close 161 = .ok (.istore_n 1, 1) := by decide +kernel
theorem dX11_close_162 : decode cX11_close 162 = .ok (.iinc 3 1, 3) := by decide +kernel
theorem dX11_close_165 : decode cX11_close 165 = .ok (.goto (-147), 3) := by decide +kernel
theorem dX11_close_168 : decode cX11_close 168 = .ok (.iinc 2 1, 3) := by decide +kernel
theorem dX11_close_171 : decode cX11_close 171 = .ok (.goto (-167), 3) := by decide +kernel
theorem dX11_close_174 : decode cX11_close 174 = .ok (.iconst 0, 1) := by decide +kernel
theorem dX11_close_175 : decode cX11_close 175 = .ok (.istore_n 2, 1) := by decide +kernel
theorem dX11_close_176 : decode cX11_close 176 = .ok (.iload_n 2, 1) := by decide +kernel
theorem dX11_close_177 : decode cX11_close 177 = .ok (.aload_n 0, 1) := by decide +kernel
theorem dX11_close_178 : decode cX11_close 178 = .ok (.getfield 123, 3) := by decide +kernel
theorem dX11_close_181 : decode cX11_close 181 = .ok (.if_icmp .ge 86, 3) := by decide +kernel
theorem dX11_close_184 : decode cX11_close 184 = .ok (.aload_n 0, 1) := by decide +kernel
theorem dX11_close_185 : decode cX11_close 185 = .ok (.getfield 21, 3) := by decide +kernel
theorem dX11_close_188 : decode cX11_close 188 = .ok (.iload_n 2, 1) := by decide +kernel
theorem dX11_close_189 : decode cX11_close 189 = .ok (.iconst 0, 1) := by decide +kernel
theorem dX11_close_190 : decode cX11_close 190 = .ok (.iastore, 1) := by decide +kernel
theorem dX11_close_191 : decode cX11_close 191 = .ok (.lconst 0, 1) := by decide +kernel
theorem dX11_close_192 : decode cX11_close 192 = .ok (.lstore_n 3, 1) := by decide +kernel
theorem dX11_close_193 : decode cX11_close 193 = .ok (.aload_n 0, 1) := by decide +kernel
theorem dX11_close_194 : decode cX11_close 194 = .ok (.getfield 17, 3) := by decide +kernel
theorem dX11_close_197 : decode cX11_close 197 = .ok (.iload_n 2, 1) := by decide +kernel
theorem dX11_close_198 : decode cX11_close 198 = .ok (.iaload, 1) := by decide +kernel
theorem dX11_close_199 : decode cX11_close 199 = .ok (.istore 5, 2) := by decide +kernel
theorem dX11_close_201 : decode cX11_close 201 = .ok (.iconst 0, 1) := by decide +kernel
theorem dX11_close_202 : decode cX11_close 202 = .ok (.istore 6, 2) := by decide +kernel
theorem dX11_close_204 : decode cX11_close 204 = .ok (.iload 6, 2) := by decide +kernel
theorem dX11_close_206 : decode cX11_close 206 = .ok (.aload_n 0, 1) := by decide +kernel
theorem dX11_close_207 : decode cX11_close 207 = .ok (.getfield 123, 3) := by decide +kernel
theorem dX11_close_210 : decode cX11_close 210 = .ok (.if_icmp .ge 51, 3) := by decide +kernel
theorem dX11_close_213 : decode cX11_close 213 = .ok (.iload 5, 2) := by decide +kernel
theorem dX11_close_215 : decode cX11_close 215 = .ok (.ifCond .lt 46, 3) := by decide +kernel
theorem dX11_close_218 : decode cX11_close 218 = .ok (.lload_n 3, 1) := by decide +kernel
theorem dX11_close_219 : decode cX11_close 219 = .ok (.iload 5, 2) := by decide +kernel
theorem dX11_close_221 : decode cX11_close 221 = .ok (.lushr, 1) := by decide +kernel
theorem dX11_close_222 : decode cX11_close 222 = .ok (.lconst 1, 1) := by decide +kernel
theorem dX11_close_223 : decode cX11_close 223 = .ok (.land, 1) := by decide +kernel
theorem dX11_close_224 : decode cX11_close 224 = .ok (.lconst 0, 1) := by decide +kernel
theorem dX11_close_225 : decode cX11_close 225 = .ok (.lcmp, 1) := by decide +kernel
theorem dX11_close_226 : decode cX11_close 226 = .ok (.ifCond .ne 35, 3) := by decide +kernel
theorem dX11_close_229 : decode cX11_close 229 = .ok (.lload_n 3, 1) := by decide +kernel
theorem dX11_close_230 : decode cX11_close 230 = .ok (.lconst 1, 1) := by decide +kernel
theorem dX11_close_231 : decode cX11_close 231 = .ok (.iload 5, 2) := by decide +kernel
theorem dX11_close_233 : decode cX11_close 233 = .ok (.lshl, 1) := by decide +kernel
theorem dX11_close_234 : decode cX11_close 234 = .ok (.lor, 1) := by decide +kernel
theorem dX11_close_235 : decode cX11_close 235 = .ok (.lstore_n 3, 1) := by decide +kernel
theorem dX11_close_236 : decode cX11_close 236 = .ok (.aload_n 0, 1) := by decide +kernel
theorem dX11_close_237 : decode cX11_close 237 = .ok (.getfield 21, 3) := by decide +kernel
theorem dX11_close_240 : decode cX11_close 240 = .ok (.iload_n 2, 1) := by decide +kernel
theorem dX11_close_241 : decode cX11_close 241 = .ok (.dup2, 1) := by decide +kernel
theorem dX11_close_242 : decode cX11_close 242 = .ok (.iaload, 1) := by decide +kernel
theorem dX11_close_243 : decode cX11_close 243 = .ok (.iconst 1, 1) := by decide +kernel
theorem dX11_close_244 : decode cX11_close 244 = .ok (.iadd, 1) := by decide +kernel
theorem dX11_close_245 : decode cX11_close 245 = .ok (.iastore, 1) := by decide +kernel
theorem dX11_close_246 : decode cX11_close 246 = .ok (.aload_n 0, 1) := by decide +kernel
theorem dX11_close_247 : decode cX11_close 247 = .ok (.getfield 17, 3) := by decide +kernel
theorem dX11_close_250 : decode cX11_close 250 = .ok (.iload 5, 2) := by decide +kernel
theorem dX11_close_252 : decode cX11_close 252 = .ok (.iaload, 1) := by decide +kernel
theorem dX11_close_253 : decode cX11_close 253 = .ok (.istore 5, 2) := by decide +kernel
theorem dX11_close_255 : decode cX11_close 255 = .ok (.iinc 6 1, 3) := by decide +kernel
theorem dX11_close_258 : decode cX11_close 258 = .ok (.goto (-54), 3) := by decide +kernel
theorem dX11_close_261 : decode cX11_close 261 = .ok (.iinc 2 1, 3) := by decide +kernel
theorem dX11_close_264 : decode cX11_close 264 = .ok (.goto (-88), 3) := by decide +kernel
theorem dX11_close_267 : decode cX11_close 267 = .ok (.return_, 1) := by decide +kernel
theorem dX11_heir_0 : decode cX11_heir 0 = .ok (.aload_n 0, 1) := by decide +kernel
theorem dX11_heir_1 : decode cX11_heir 1 = .ok (.getfield 36, 3) := by decide +kernel
theorem dX11_heir_4 : decode cX11_heir 4 = .ok (.iload_n 1, 1) := by decide +kernel
theorem dX11_heir_5 : decode cX11_heir 5 = .ok (.laload, 1) := by decide +kernel
theorem dX11_heir_6 : decode cX11_heir 6 = .ok (.iload_n 2, 1) := by decide +kernel
theorem dX11_heir_7 : decode cX11_heir 7 = .ok (.lushr, 1) := by decide +kernel
theorem dX11_heir_8 : decode cX11_heir 8 = .ok (.lconst 1, 1) := by decide +kernel
theorem dX11_heir_9 : decode cX11_heir 9 = .ok (.land, 1) := by decide +kernel
theorem dX11_heir_10 : decode cX11_heir 10 = .ok (.lconst 0, 1) := by decide +kernel
theorem dX11_heir_11 : decode cX11_heir 11 = .ok (.lcmp, 1) := by decide +kernel
theorem dX11_heir_12 : decode cX11_heir 12 = .ok (.ifCond .eq 7, 3) := by decide +kernel
theorem dX11_heir_15 : decode cX11_heir 15 = .ok (.iconst 1, 1) := by decide +kernel
theorem dX11_heir_16 : decode cX11_heir 16 = .ok (.goto 4, 3) := by decide +kernel
theorem dX11_heir_19 : decode cX11_heir 19 = .ok (.iconst 0, 1) := by decide +kernel
theorem dX11_heir_20 : decode cX11_heir 20 = .ok (.ireturn, 1) := by decide +kernel
theorem dX11_samePackage_0 : decode cX11_samePackage 0 = .ok (.aload_n 0, 1) := by decide +kernel
theorem dX11_samePackage_1 : decode cX11_samePackage 1 = .ok (.getfield 11, 3) := by decide +kernel
theorem dX11_samePackage_4 : decode cX11_samePackage 4 = .ok (.iload_n 1, 1) := by decide +kernel
theorem dX11_samePackage_5 : decode cX11_samePackage 5 = .ok (.aaload, 1) := by decide +kernel
theorem dX11_samePackage_6 : decode cX11_samePackage 6 = .ok (.getfield 76, 3) := by decide +kernel
theorem dX11_samePackage_9 : decode cX11_samePackage 9 = .ok (.bipush 59, 2) := by decide +kernel
theorem dX11_samePackage_11 : decode cX11_samePackage 11 = .ok (.lushr, 1) := by decide +kernel
theorem dX11_samePackage_12 : decode cX11_samePackage 12 = .ok (.aload_n 0, 1) := by decide +kernel
theorem dX11_samePackage_13 : decode cX11_samePackage 13 = .ok (.getfield 11, 3) := by decide +kernel
theorem dX11_samePackage_16 : decode cX11_samePackage 16 = .ok (.iload_n 2, 1) := by decide +kernel
theorem dX11_samePackage_17 : decode cX11_samePackage 17 = .ok (.aaload, 1) := by decide +kernel
theorem dX11_samePackage_18 : decode cX11_samePackage 18 = .ok (.getfield 76, 3) := by decide +kernel
theorem dX11_samePackage_21 : decode cX11_samePackage 21 = .ok (.bipush 59, 2) := by decide +kernel
theorem dX11_samePackage_23 : decode cX11_samePackage 23 = .ok (.lushr, 1) := by decide +kernel
theorem dX11_samePackage_24 : decode cX11_samePackage 24 = .ok (.lcmp, 1) := by decide +kernel
theorem dX11_samePackage_25 : decode cX11_samePackage 25 = .ok (.ifCond .ne 7, 3) := by decide +kernel
theorem dX11_samePackage_28 : decode cX11_samePackage 28 = .ok (.iconst 1, 1) := by decide +kernel
theorem dX11_samePackage_29 : decode cX11_samePackage 29 = .ok (.goto 4, 3) := by decide +kernel
theorem dX11_samePackage_32 : decode cX11_samePackage 32 = .ok (.iconst 0, 1) := by decide +kernel
theorem dX11_samePackage_33 : decode cX11_samePackage 33 = .ok (.ireturn, 1) := by decide +kernel
theorem dX11_isLet_0 : decode cX11_isLet 0 = .ok (.aload_n 0, 1) := by decide +kernel
theorem dX11_isLet_1 : decode cX11_isLet 1 = .ok (.getfield 11, 3) := by decide +kernel
theorem dX11_isLet_4 : decode cX11_isLet 4 = .ok (.iload_n 1, 1) := by decide +kernel
theorem dX11_isLet_5 : decode cX11_isLet 5 = .ok (.aaload, 1) := by decide +kernel
theorem dX11_isLet_6 : decode cX11_isLet 6 = .ok (.getfield 80, 3) := by decide +kernel
theorem dX11_isLet_9 : decode cX11_isLet 9 = .ok (.ifCond .ne 31, 3) := by decide +kernel
theorem dX11_isLet_12 : decode cX11_isLet 12 = .ok (.aload_n 0, 1) := by decide +kernel
theorem dX11_isLet_13 : decode cX11_isLet 13 = .ok (.getfield 11, 3) := by decide +kernel
theorem dX11_isLet_16 : decode cX11_isLet 16 = .ok (.iload_n 1, 1) := by decide +kernel
theorem dX11_isLet_17 : decode cX11_isLet 17 = .ok (.aaload, 1) := by decide +kernel
theorem dX11_isLet_18 : decode cX11_isLet 18 = .ok (.getfield 76, 3) := by decide +kernel
theorem dX11_isLet_21 : decode cX11_isLet 21 = .ok (.bipush 59, 2) := by decide +kernel
theorem dX11_isLet_23 : decode cX11_isLet 23 = .ok (.lushr, 1) := by decide +kernel
theorem dX11_isLet_24 : decode cX11_isLet 24 = .ok (.aload_n 0, 1) := by decide +kernel
theorem dX11_isLet_25 : decode cX11_isLet 25 = .ok (.getfield 11, 3) := by decide +kernel
theorem dX11_isLet_28 : decode cX11_isLet 28 = .ok (.iload_n 2, 1) := by decide +kernel
theorem dX11_isLet_29 : decode cX11_isLet 29 = .ok (.aaload, 1) := by decide +kernel
theorem dX11_isLet_30 : decode cX11_isLet 30 = .ok (.getfield 76, 3) := by decide +kernel
theorem dX11_isLet_33 : decode cX11_isLet 33 = .ok (.bipush 59, 2) := by decide +kernel
theorem dX11_isLet_35 : decode cX11_isLet 35 = .ok (.lushr, 1) := by decide +kernel
theorem dX11_isLet_36 : decode cX11_isLet 36 = .ok (.lcmp, 1) := by decide +kernel
theorem dX11_isLet_37 : decode cX11_isLet 37 = .ok (.ifCond .ne 7, 3) := by decide +kernel
theorem dX11_isLet_40 : decode cX11_isLet 40 = .ok (.iconst 1, 1) := by decide +kernel
theorem dX11_isLet_41 : decode cX11_isLet 41 = .ok (.goto 4, 3) := by decide +kernel
theorem dX11_isLet_44 : decode cX11_isLet 44 = .ok (.iconst 0, 1) := by decide +kernel

theorem dX0_init_0 : decode cX0_init 0 = .ok (.aload_n 0, 1) := by decide +kernel
theorem dX0_init_1 : decode cX0_init 1 = .ok (.invokespecial 3, 3) := by decide +kernel
theorem dX0_init_4 : decode cX0_init 4 = .ok (.aload_n 0, 1) := by decide +kernel
theorem dX0_init_5 : decode cX0_init 5 = .ok (.sipush 700, 3) := by decide +kernel
theorem dX0_init_8 : decode cX0_init 8 = .ok (.newarray .long, 2) := by decide +kernel
theorem dX0_init_10 : decode cX0_init 10 = .ok (.putfield 9, 3) := by decide +kernel
theorem dX0_init_13 : decode cX0_init 13 = .ok (.aload_n 0, 1) := by decide +kernel
theorem dX0_init_14 : decode cX0_init 14 = .ok (.sipush 700, 3) := by decide +kernel
theorem dX0_init_17 : decode cX0_init 17 = .ok (.newarray .long, 2) := by decide +kernel
theorem dX0_init_19 : decode cX0_init 19 = .ok (.putfield 15, 3) := by decide +kernel
theorem dX0_init_22 : decode cX0_init 22 = .ok (.aload_n 0, 1) := by decide +kernel
theorem dX0_init_23 : decode cX0_init 23 = .ok (.sipush 1280, 3) := by decide +kernel
theorem dX0_init_26 : decode cX0_init 26 = .ok (.anewarray 18, 3) := by decide +kernel
theorem dX0_init_29 : decode cX0_init 29 = .ok (.putfield 20, 3) := by decide +kernel
theorem dX0_init_32 : decode cX0_init 32 = .ok (.aload_n 0, 1) := by decide +kernel
theorem dX0_init_33 : decode cX0_init 33 = .ok (.sipush 130, 3) := by decide +kernel
theorem dX0_init_36 : decode cX0_init 36 = .ok (.newarray .int, 2) := by decide +kernel
theorem dX0_init_38 : decode cX0_init 38 = .ok (.putfield 24, 3) := by decide +kernel
theorem dX0_init_41 : decode cX0_init 41 = .ok (.return_, 1) := by decide +kernel
theorem dX0_judge_0 : decode cX0_judge 0 = .ok (.aload_n 0, 1) := by decide +kernel
theorem dX0_judge_1 : decode cX0_judge 1 = .ok (.aload_n 1, 1) := by decide +kernel
theorem dX0_judge_2 : decode cX0_judge 2 = .ok (.putfield 35, 3) := by decide +kernel
theorem dX0_judge_5 : decode cX0_judge 5 = .ok (.aload_n 0, 1) := by decide +kernel
theorem dX0_judge_6 : decode cX0_judge 6 = .ok (.aload_n 2, 1) := by decide +kernel
theorem dX0_judge_7 : decode cX0_judge 7 = .ok (.putfield 39, 3) := by decide +kernel
theorem dX0_judge_10 : decode cX0_judge 10 = .ok (.aload_n 0, 1) := by decide +kernel
theorem dX0_judge_11 : decode cX0_judge 11 = .ok (.aload_n 3, 1) := by decide +kernel
theorem dX0_judge_12 : decode cX0_judge 12 = .ok (.putfield 43, 3) := by decide +kernel
theorem dX0_judge_15 : decode cX0_judge 15 = .ok (.aload_n 0, 1) := by decide +kernel
theorem dX0_judge_16 : decode cX0_judge 16 = .ok (.iconst 0, 1) := by decide +kernel
theorem dX0_judge_17 : decode cX0_judge 17 = .ok (.putfield 28, 3) := by decide +kernel
theorem dX0_judge_20 : decode cX0_judge 20 = .ok (.iconst 0, 1) := by decide +kernel
theorem dX0_judge_21 : decode cX0_judge 21 = .ok (.istore 4, 2) := by decide +kernel
theorem dX0_judge_23 : decode cX0_judge 23 = .ok (.iload 4, 2) := by decide +kernel
theorem dX0_judge_25 : decode cX0_judge 25 = .ok (.aload_n 0, 1) := by decide +kernel
theorem dX0_judge_26 : decode cX0_judge 26 = .ok (.getfield 39, 3) := by decide +kernel
theorem dX0_judge_29 : decode cX0_judge 29 = .ok (.getfield 47, 3) := by decide +kernel
theorem dX0_judge_32 : decode cX0_judge 32 = .ok (.if_icmp .ge 45, 3) := by decide +kernel
theorem dX0_judge_77 : decode cX0_judge 77 = .ok (.iconst 0, 1) := by decide +kernel
theorem dX0_judge_78 : decode cX0_judge 78 = .ok (.istore 4, 2) := by decide +kernel
theorem dX0_judge_80 : decode cX0_judge 80 = .ok (.iload 4, 2) := by decide +kernel
theorem dX0_judge_82 : decode cX0_judge 82 = .ok (.aload_n 0, 1) := by decide +kernel
theorem dX0_judge_83 : decode cX0_judge 83 = .ok (.getfield 39, 3) := by decide +kernel
theorem dX0_judge_86 : decode cX0_judge 86 = .ok (.getfield 47, 3) := by decide +kernel
theorem dX0_judge_89 : decode cX0_judge 89 = .ok (.if_icmp .ge 185, 3) := by decide +kernel
theorem dX0_judge_274 : decode cX0_judge 274 = .ok (.aload_n 0, 1) := by decide +kernel
theorem dX0_judge_275 : decode cX0_judge 275 = .ok (.getfield 28, 3) := by decide +kernel
theorem dX0_judge_278 : decode cX0_judge 278 = .ok (.ifCond .ne 7, 3) := by decide +kernel
theorem dX0_judge_281 : decode cX0_judge 281 = .ok (.iconst 1, 1) := by decide +kernel
theorem dX0_judge_282 : decode cX0_judge 282 = .ok (.goto 4, 3) := by decide +kernel
theorem dX0_judge_286 : decode cX0_judge 286 = .ok (.ireturn, 1) := by decide +kernel
theorem dX1_init_0 : decode cX1_init 0 = .ok (.aload_n 0, 1) := by decide +kernel
theorem dX1_init_1 : decode cX1_init 1 = .ok (.invokespecial 3, 3) := by decide +kernel
theorem dX1_init_4 : decode cX1_init 4 = .ok (.aload_n 0, 1) := by decide +kernel
theorem dX1_init_5 : decode cX1_init 5 = .ok (.iload_n 1, 1) := by decide +kernel
theorem dX1_init_6 : decode cX1_init 6 = .ok (.anewarray 9, 3) := by decide +kernel
theorem dX1_init_9 : decode cX1_init 9 = .ok (.putfield 11, 3) := by decide +kernel
theorem dX1_init_12 : decode cX1_init 12 = .ok (.iconst 0, 1) := by decide +kernel
theorem dX1_init_13 : decode cX1_init 13 = .ok (.istore 7, 2) := by decide +kernel
theorem dX1_init_15 : decode cX1_init 15 = .ok (.iload 7, 2) := by decide +kernel
theorem dX1_init_17 : decode cX1_init 17 = .ok (.iload_n 1, 1) := by decide +kernel
theorem dX1_init_18 : decode cX1_init 18 = .ok (.if_icmp .ge 23, 3) := by decide +kernel
theorem dX1_init_21 : decode cX1_init 21 = .ok (.aload_n 0, 1) := by decide +kernel
theorem dX1_init_22 : decode cX1_init 22 = .ok (.getfield 11, 3) := by decide +kernel
theorem dX1_init_25 : decode cX1_init 25 = .ok (.iload 7, 2) := by decide +kernel
theorem dX1_init_27 : decode cX1_init 27 = .ok (.new 9, 3) := by decide +kernel
theorem dX1_init_30 : decode cX1_init 30 = .ok (.dup, 1) := by decide +kernel
theorem dX1_init_31 : decode cX1_init 31 = .ok (.invokespecial 17, 3) := by decide +kernel
theorem dX1_init_34 : decode cX1_init 34 = .ok (.aastore, 1) := by decide +kernel
theorem dX1_init_35 : decode cX1_init 35 = .ok (.iinc 7 1, 3) := by decide +kernel
theorem dX1_init_38 : decode cX1_init 38 = .ok (.goto (-23), 3) := by decide +kernel
theorem dX1_init_41 : decode cX1_init 41 = .ok (.aload_n 0, 1) := by decide +kernel
theorem dX1_init_42 : decode cX1_init 42 = .ok (.iload_n 2, 1) := by decide +kernel
theorem dX1_init_43 : decode cX1_init 43 = .ok (.anewarray 18, 3) := by decide +kernel
theorem dX1_init_46 : decode cX1_init 46 = .ok (.putfield 20, 3) := by decide +kernel
theorem dX1_init_49 : decode cX1_init 49 = .ok (.iconst 0, 1) := by decide +kernel
theorem dX1_init_50 : decode cX1_init 50 = .ok (.istore 7, 2) := by decide +kernel
theorem dX1_init_52 : decode cX1_init 52 = .ok (.iload 7, 2) := by decide +kernel
theorem dX1_init_54 : decode cX1_init 54 = .ok (.iload_n 2, 1) := by decide +kernel
theorem dX1_init_55 : decode cX1_init 55 = .ok (.if_icmp .ge 23, 3) := by decide +kernel
theorem dX1_init_58 : decode cX1_init 58 = .ok (.aload_n 0, 1) := by decide +kernel
theorem dX1_init_59 : decode cX1_init 59 = .ok (.getfield 20, 3) := by decide +kernel
theorem dX1_init_62 : decode cX1_init 62 = .ok (.iload 7, 2) := by decide +kernel
theorem dX1_init_64 : decode cX1_init 64 = .ok (.new 18, 3) := by decide +kernel
theorem dX1_init_67 : decode cX1_init 67 = .ok (.dup, 1) := by decide +kernel
theorem dX1_init_68 : decode cX1_init 68 = .ok (.invokespecial 24, 3) := by decide +kernel
theorem dX1_init_71 : decode cX1_init 71 = .ok (.aastore, 1) := by decide +kernel
theorem dX1_init_72 : decode cX1_init 72 = .ok (.iinc 7 1, 3) := by decide +kernel
theorem dX1_init_75 : decode cX1_init 75 = .ok (.goto (-23), 3) := by decide +kernel
theorem dX1_init_78 : decode cX1_init 78 = .ok (.aload_n 0, 1) := by decide +kernel
theorem dX1_init_79 : decode cX1_init 79 = .ok (.iload_n 3, 1) := by decide +kernel
theorem dX1_init_80 : decode cX1_init 80 = .ok (.newarray .byte, 2) := by decide +kernel
theorem dX1_init_82 : decode cX1_init 82 = .ok (.putfield 25, 3) := by decide +kernel
theorem dX1_init_85 : decode cX1_init 85 = .ok (.aload_n 0, 1) := by decide +kernel
theorem dX1_init_86 : decode cX1_init 86 = .ok (.iload 4, 2) := by decide +kernel
theorem dX1_init_88 : decode cX1_init 88 = .ok (.newarray .int, 2) := by decide +kernel
theorem dX1_init_90 : decode cX1_init 90 = .ok (.putfield 29, 3) := by decide +kernel
theorem dX1_init_93 : decode cX1_init 93 = .ok (.aload_n 0, 1) := by decide +kernel
theorem dX1_init_94 : decode cX1_init 94 = .ok (.iload 4, 2) := by decide +kernel
theorem dX1_init_96 : decode cX1_init 96 = .ok (.newarray .int, 2) := by decide +kernel
theorem dX1_init_98 : decode cX1_init 98 = .ok (.putfield 33, 3) := by decide +kernel
theorem dX1_init_101 : decode cX1_init 101 = .ok (.aload_n 0, 1) := by decide +kernel
theorem dX1_init_102 : decode cX1_init 102 = .ok (.iload 5, 2) := by decide +kernel
theorem dX1_init_104 : decode cX1_init 104 = .ok (.newarray .int, 2) := by decide +kernel
theorem dX1_init_106 : decode cX1_init 106 = .ok (.putfield 36, 3) := by decide +kernel
theorem dX1_init_109 : decode cX1_init 109 = .ok (.aload_n 0, 1) := by decide +kernel
theorem dX1_init_110 : decode cX1_init 110 = .ok (.iload 5, 2) := by decide +kernel
theorem dX1_init_112 : decode cX1_init 112 = .ok (.newarray .int, 2) := by decide +kernel
theorem dX1_init_114 : decode cX1_init 114 = .ok (.putfield 39, 3) := by decide +kernel
theorem dX1_init_117 : decode cX1_init 117 = .ok (.aload_n 0, 1) := by decide +kernel
theorem dX1_init_118 : decode cX1_init 118 = .ok (.iload 5, 2) := by decide +kernel
theorem dX1_init_120 : decode cX1_init 120 = .ok (.newarray .long, 2) := by decide +kernel
theorem dX1_init_122 : decode cX1_init 122 = .ok (.putfield 42, 3) := by decide +kernel
theorem dX1_init_125 : decode cX1_init 125 = .ok (.aload_n 0, 1) := by decide +kernel
theorem dX1_init_126 : decode cX1_init 126 = .ok (.iload 5, 2) := by decide +kernel
theorem dX1_init_128 : decode cX1_init 128 = .ok (.anewarray 18, 3) := by decide +kernel
theorem dX1_init_131 : decode cX1_init 131 = .ok (.putfield 46, 3) := by decide +kernel
theorem dX1_init_134 : decode cX1_init 134 = .ok (.aload_n 0, 1) := by decide +kernel
theorem dX1_init_135 : decode cX1_init 135 = .ok (.iload 5, 2) := by decide +kernel
theorem dX1_init_137 : decode cX1_init 137 = .ok (.newarray .long, 2) := by decide +kernel
theorem dX1_init_139 : decode cX1_init 139 = .ok (.putfield 49, 3) := by decide +kernel
theorem dX1_init_142 : decode cX1_init 142 = .ok (.aload_n 0, 1) := by decide +kernel
theorem dX1_init_143 : decode cX1_init 143 = .ok (.iload 6, 2) := by decide +kernel
theorem dX1_init_145 : decode cX1_init 145 = .ok (.newarray .int, 2) := by decide +kernel
theorem dX1_init_147 : decode cX1_init 147 = .ok (.putfield 52, 3) := by decide +kernel
theorem dX1_init_150 : decode cX1_init 150 = .ok (.return_, 1) := by decide +kernel
theorem dX1_clear_0 : decode cX1_clear 0 = .ok (.aload_n 0, 1) := by decide +kernel
theorem dX1_clear_1 : decode cX1_clear 1 = .ok (.iconst 0, 1) := by decide +kernel
theorem dX1_clear_2 : decode cX1_clear 2 = .ok (.putfield 55, 3) := by decide +kernel
theorem dX1_clear_5 : decode cX1_clear 5 = .ok (.aload_n 0, 1) := by decide +kernel
theorem dX1_clear_6 : decode cX1_clear 6 = .ok (.iconst 0, 1) := by decide +kernel
theorem dX1_clear_7 : decode cX1_clear 7 = .ok (.putfield 59, 3) := by decide +kernel
theorem dX1_clear_10 : decode cX1_clear 10 = .ok (.aload_n 0, 1) := by decide +kernel
theorem dX1_clear_11 : decode cX1_clear 11 = .ok (.iconst 0, 1) := by decide +kernel
theorem dX1_clear_12 : decode cX1_clear 12 = .ok (.putfield 62, 3) := by decide +kernel
theorem dX1_clear_15 : decode cX1_clear 15 = .ok (.aload_n 0, 1) := by decide +kernel
theorem dX1_clear_16 : decode cX1_clear 16 = .ok (.iconst 0, 1) := by decide +kernel
theorem dX1_clear_17 : decode cX1_clear 17 = .ok (.putfield 65, 3) := by decide +kernel
theorem dX1_clear_20 : decode cX1_clear 20 = .ok (.aload_n 0, 1) := by decide +kernel
theorem dX1_clear_21 : decode cX1_clear 21 = .ok (.iconst 0, 1) := by decide +kernel
theorem dX1_clear_22 : decode cX1_clear 22 = .ok (.putfield 68, 3) := by decide +kernel
theorem dX1_clear_25 : decode cX1_clear 25 = .ok (.return_, 1) := by decide +kernel
theorem dX1_newRow_0 : decode cX1_newRow 0 = .ok (.aload_n 0, 1) := by decide +kernel
theorem dX1_newRow_1 : decode cX1_newRow 1 = .ok (.getfield 55, 3) := by decide +kernel
theorem dX1_newRow_4 : decode cX1_newRow 4 = .ok (.aload_n 0, 1) := by decide +kernel
theorem dX1_newRow_5 : decode cX1_newRow 5 = .ok (.getfield 11, 3) := by decide +kernel
theorem dX1_newRow_8 : decode cX1_newRow 8 = .ok (.arraylength, 1) := by decide +kernel
theorem dX1_newRow_9 : decode cX1_newRow 9 = .ok (.if_icmp .lt 5, 3) := by decide +kernel
theorem dX1_newRow_14 : decode cX1_newRow 14 = .ok (.aload_n 0, 1) := by decide +kernel
theorem dX1_newRow_15 : decode cX1_newRow 15 = .ok (.getfield 11, 3) := by decide +kernel
theorem dX1_newRow_18 : decode cX1_newRow 18 = .ok (.aload_n 0, 1) := by decide +kernel
theorem dX1_newRow_19 : decode cX1_newRow 19 = .ok (.getfield 55, 3) := by decide +kernel
theorem dX1_newRow_22 : decode cX1_newRow 22 = .ok (.aaload, 1) := by decide +kernel
theorem dX1_newRow_23 : decode cX1_newRow 23 = .ok (.astore_n 1, 1) := by decide +kernel
theorem dX1_newRow_24 : decode cX1_newRow 24 = .ok (.aload_n 0, 1) := by decide +kernel
theorem dX1_newRow_25 : decode cX1_newRow 25 = .ok (.dup, 1) := by decide +kernel
theorem dX1_newRow_26 : decode cX1_newRow 26 = .ok (.getfield 55, 3) := by decide +kernel
theorem dX1_newRow_29 : decode cX1_newRow 29 = .ok (.iconst 1, 1) := by decide +kernel
theorem dX1_newRow_30 : decode cX1_newRow 30 = .ok (.iadd, 1) := by decide +kernel
theorem dX1_newRow_31 : decode cX1_newRow 31 = .ok (.putfield 55, 3) := by decide +kernel
theorem dX1_newRow_34 : decode cX1_newRow 34 = .ok (.aload_n 1, 1) := by decide +kernel
theorem dX1_newRow_35 : decode cX1_newRow 35 = .ok (.aload_n 0, 1) := by decide +kernel
theorem dX1_newRow_36 : decode cX1_newRow 36 = .ok (.invokevirtual 71, 3) := by decide +kernel
theorem dX1_newRow_39 : decode cX1_newRow 39 = .ok (.aload_n 1, 1) := by decide +kernel
theorem dX1_newRow_40 : decode cX1_newRow 40 = .ok (.areturn, 1) := by decide +kernel
theorem dX1_newMember_0 : decode cX1_newMember 0 = .ok (.aload_n 0, 1) := by decide +kernel
theorem dX1_newMember_1 : decode cX1_newMember 1 = .ok (.getfield 59, 3) := by decide +kernel
theorem dX1_newMember_4 : decode cX1_newMember 4 = .ok (.aload_n 0, 1) := by decide +kernel
theorem dX1_newMember_5 : decode cX1_newMember 5 = .ok (.getfield 20, 3) := by decide +kernel
theorem dX1_newMember_8 : decode cX1_newMember 8 = .ok (.arraylength, 1) := by decide +kernel
theorem dX1_newMember_9 : decode cX1_newMember 9 = .ok (.if_icmp .lt 14, 3) := by decide +kernel
theorem dX1_newMember_23 : decode cX1_newMember 23 = .ok (.aload_n 0, 1) := by decide +kernel
theorem dX1_newMember_24 : decode cX1_newMember 24 = .ok (.getfield 20, 3) := by decide +kernel
theorem dX1_newMember_27 : decode cX1_newMember 27 = .ok (.aload_n 0, 1) := by decide +kernel
theorem dX1_newMember_28 : decode cX1_newMember 28 = .ok (.getfield 59, 3) := by decide +kernel
theorem dX1_newMember_31 : decode cX1_newMember 31 = .ok (.aaload, 1) := by decide +kernel
theorem dX1_newMember_32 : decode cX1_newMember 32 = .ok (.astore_n 1, 1) := by decide +kernel
theorem dX1_newMember_33 : decode cX1_newMember 33 = .ok (.aload_n 0, 1) := by decide +kernel
theorem dX1_newMember_34 : decode cX1_newMember 34 = .ok (.dup, 1) := by decide +kernel
theorem dX1_newMember_35 : decode cX1_newMember 35 = .ok (.getfield 59, 3) := by decide +kernel
theorem dX1_newMember_38 : decode cX1_newMember 38 = .ok (.iconst 1, 1) := by decide +kernel
theorem dX1_newMember_39 : decode cX1_newMember 39 = .ok (.iadd, 1) := by decide +kernel
theorem dX1_newMember_40 : decode cX1_newMember 40 = .ok (.putfield 59, 3) := by decide +kernel
theorem dX1_newMember_43 : decode cX1_newMember 43 = .ok (.aload_n 1, 1) := by decide +kernel
theorem dX1_newMember_44 : decode cX1_newMember 44 = .ok (.invokevirtual 75, 3) := by decide +kernel
theorem dX1_newMember_47 : decode cX1_newMember 47 = .ok (.aload_n 1, 1) := by decide +kernel
theorem dX1_newMember_48 : decode cX1_newMember 48 = .ok (.areturn, 1) := by decide +kernel
theorem dX2_init_0 : decode cX2_init 0 = .ok (.aload_n 0, 1) := by decide +kernel
theorem dX2_init_1 : decode cX2_init 1 = .ok (.invokespecial 3, 3) := by decide +kernel
theorem dX2_init_4 : decode cX2_init 4 = .ok (.aload_n 0, 1) := by decide +kernel
theorem dX2_init_5 : decode cX2_init 5 = .ok (.sipush 8000, 3) := by decide +kernel
theorem dX2_init_8 : decode cX2_init 8 = .ok (.newarray .int, 2) := by decide +kernel
theorem dX2_init_10 : decode cX2_init 10 = .ok (.putfield 11, 3) := by decide +kernel
theorem dX2_init_13 : decode cX2_init 13 = .ok (.aload_n 0, 1) := by decide +kernel
theorem dX2_init_14 : decode cX2_init 14 = .ok (.sipush 700, 3) := by decide +kernel
theorem dX2_init_17 : decode cX2_init 17 = .ok (.newarray .int, 2) := by decide +kernel
theorem dX2_init_19 : decode cX2_init 19 = .ok (.putfield 15, 3) := by decide +kernel
theorem dX2_init_22 : decode cX2_init 22 = .ok (.aload_n 0, 1) := by decide +kernel
theorem dX2_init_23 : decode cX2_init 23 = .ok (.sipush 700, 3) := by decide +kernel
theorem dX2_init_26 : decode cX2_init 26 = .ok (.newarray .int, 2) := by decide +kernel
theorem dX2_init_28 : decode cX2_init 28 = .ok (.putfield 18, 3) := by decide +kernel
theorem dX2_init_31 : decode cX2_init 31 = .ok (.return_, 1) := by decide +kernel
theorem dX3_init_0 : decode cX3_init 0 = .ok (.aload_n 0, 1) := by decide +kernel
theorem dX3_init_1 : decode cX3_init 1 = .ok (.invokespecial 3, 3) := by decide +kernel
theorem dX3_init_4 : decode cX3_init 4 = .ok (.return_, 1) := by decide +kernel
theorem dX3_write_0 : decode cX3_write 0 = .ok (.aload_n 0, 1) := by decide +kernel
theorem dX3_write_1 : decode cX3_write 1 = .ok (.aload_n 1, 1) := by decide +kernel
theorem dX3_write_2 : decode cX3_write 2 = .ok (.putfield 9, 3) := by decide +kernel
theorem dX3_write_5 : decode cX3_write 5 = .ok (.aload_n 0, 1) := by decide +kernel
theorem dX3_write_6 : decode cX3_write 6 = .ok (.aload_n 2, 1) := by decide +kernel
theorem dX3_write_7 : decode cX3_write 7 = .ok (.putfield 15, 3) := by decide +kernel
theorem dX3_write_10 : decode cX3_write 10 = .ok (.iconst 0, 1) := by decide +kernel
theorem dX3_write_11 : decode cX3_write 11 = .ok (.istore_n 3, 1) := by decide +kernel
theorem dX3_write_12 : decode cX3_write 12 = .ok (.iload_n 3, 1) := by decide +kernel
theorem dX3_write_13 : decode cX3_write 13 = .ok (.aload_n 0, 1) := by decide +kernel
theorem dX3_write_14 : decode cX3_write 14 = .ok (.getfield 15, 3) := by decide +kernel
theorem dX3_write_17 : decode cX3_write 17 = .ok (.getfield 19, 3) := by decide +kernel
theorem dX3_write_20 : decode cX3_write 20 = .ok (.if_icmp .ge 201, 3) := by decide +kernel
theorem dX3_write_221 : decode cX3_write 221 = .ok (.return_, 1) := by decide +kernel
theorem dX4_init_0 : decode cX4_init 0 = .ok (.aload_n 0, 1) := by decide +kernel
theorem dX4_init_1 : decode cX4_init 1 = .ok (.invokespecial 3, 3) := by decide +kernel
theorem dX4_init_4 : decode cX4_init 4 = .ok (.return_, 1) := by decide +kernel
theorem dX4_judge_0 : decode cX4_judge 0 = .ok (.aload_n 0, 1) := by decide +kernel
theorem dX4_judge_1 : decode cX4_judge 1 = .ok (.aload_n 1, 1) := by decide +kernel
theorem dX4_judge_2 : decode cX4_judge 2 = .ok (.putfield 18, 3) := by decide +kernel
theorem dX4_judge_5 : decode cX4_judge 5 = .ok (.aload_n 0, 1) := by decide +kernel
theorem dX4_judge_6 : decode cX4_judge 6 = .ok (.aload_n 2, 1) := by decide +kernel
theorem dX4_judge_7 : decode cX4_judge 7 = .ok (.putfield 22, 3) := by decide +kernel
theorem dX4_judge_10 : decode cX4_judge 10 = .ok (.aload_n 0, 1) := by decide +kernel
theorem dX4_judge_11 : decode cX4_judge 11 = .ok (.iconst 0, 1) := by decide +kernel
theorem dX4_judge_12 : decode cX4_judge 12 = .ok (.putfield 9, 3) := by decide +kernel
theorem dX4_judge_15 : decode cX4_judge 15 = .ok (.iconst 0, 1) := by decide +kernel
theorem dX4_judge_16 : decode cX4_judge 16 = .ok (.istore_n 3, 1) := by decide +kernel
theorem dX4_judge_17 : decode cX4_judge 17 = .ok (.iload_n 3, 1) := by decide +kernel
theorem dX4_judge_18 : decode cX4_judge 18 = .ok (.aload_n 0, 1) := by decide +kernel
theorem dX4_judge_19 : decode cX4_judge 19 = .ok (.getfield 22, 3) := by decide +kernel
theorem dX4_judge_22 : decode cX4_judge 22 = .ok (.getfield 26, 3) := by decide +kernel
theorem dX4_judge_25 : decode cX4_judge 25 = .ok (.if_icmp .ge 31, 3) := by decide +kernel
theorem dX4_judge_56 : decode cX4_judge 56 = .ok (.iconst 0, 1) := by decide +kernel
theorem dX4_judge_57 : decode cX4_judge 57 = .ok (.istore_n 3, 1) := by decide +kernel
theorem dX4_judge_58 : decode cX4_judge 58 = .ok (.iload_n 3, 1) := by decide +kernel
theorem dX4_judge_59 : decode cX4_judge 59 = .ok (.aload_n 0, 1) := by decide +kernel
theorem dX4_judge_60 : decode cX4_judge 60 = .ok (.getfield 22, 3) := by decide +kernel
theorem dX4_judge_63 : decode cX4_judge 63 = .ok (.getfield 26, 3) := by decide +kernel
theorem dX4_judge_66 : decode cX4_judge 66 = .ok (.if_icmp .ge 74, 3) := by decide +kernel
theorem dX4_judge_140 : decode cX4_judge 140 = .ok (.iconst 0, 1) := by decide +kernel
theorem dX4_judge_141 : decode cX4_judge 141 = .ok (.istore_n 3, 1) := by decide +kernel
theorem dX4_judge_142 : decode cX4_judge 142 = .ok (.iload_n 3, 1) := by decide +kernel
theorem dX4_judge_143 : decode cX4_judge 143 = .ok (.aload_n 0, 1) := by decide +kernel
theorem dX4_judge_144 : decode cX4_judge 144 = .ok (.getfield 22, 3) := by decide +kernel
theorem dX4_judge_147 : decode cX4_judge 147 = .ok (.getfield 26, 3) := by decide +kernel
theorem dX4_judge_150 : decode cX4_judge 150 = .ok (.if_icmp .ge 48, 3) := by decide +kernel
theorem dX4_judge_198 : decode cX4_judge 198 = .ok (.iconst 0, 1) := by decide +kernel
theorem dX4_judge_199 : decode cX4_judge 199 = .ok (.istore_n 3, 1) := by decide +kernel
theorem dX4_judge_200 : decode cX4_judge 200 = .ok (.iload_n 3, 1) := by decide +kernel
theorem dX4_judge_201 : decode cX4_judge 201 = .ok (.aload_n 0, 1) := by decide +kernel
theorem dX4_judge_202 : decode cX4_judge 202 = .ok (.getfield 22, 3) := by decide +kernel
theorem dX4_judge_205 : decode cX4_judge 205 = .ok (.getfield 26, 3) := by decide +kernel
theorem dX4_judge_208 : decode cX4_judge 208 = .ok (.if_icmp .ge 48, 3) := by decide +kernel
theorem dX4_judge_256 : decode cX4_judge 256 = .ok (.iconst 0, 1) := by decide +kernel
theorem dX4_judge_257 : decode cX4_judge 257 = .ok (.istore_n 3, 1) := by decide +kernel
theorem dX4_judge_258 : decode cX4_judge 258 = .ok (.iload_n 3, 1) := by decide +kernel
theorem dX4_judge_259 : decode cX4_judge 259 = .ok (.aload_n 0, 1) := by decide +kernel
theorem dX4_judge_260 : decode cX4_judge 260 = .ok (.getfield 22, 3) := by decide +kernel
theorem dX4_judge_263 : decode cX4_judge 263 = .ok (.getfield 26, 3) := by decide +kernel
theorem dX4_judge_266 : decode cX4_judge 266 = .ok (.if_icmp .ge 61, 3) := by decide +kernel
theorem dX4_judge_327 : decode cX4_judge 327 = .ok (.iconst 0, 1) := by decide +kernel
theorem dX4_judge_328 : decode cX4_judge 328 = .ok (.istore_n 3, 1) := by decide +kernel
theorem dX4_judge_329 : decode cX4_judge 329 = .ok (.iload_n 3, 1) := by decide +kernel
theorem dX4_judge_330 : decode cX4_judge 330 = .ok (.aload_n 0, 1) := by decide +kernel
theorem dX4_judge_331 : decode cX4_judge 331 = .ok (.getfield 22, 3) := by decide +kernel
theorem dX4_judge_334 : decode cX4_judge 334 = .ok (.getfield 26, 3) := by decide +kernel
theorem dX4_judge_337 : decode cX4_judge 337 = .ok (.if_icmp .ge 48, 3) := by decide +kernel
theorem dX4_judge_385 : decode cX4_judge 385 = .ok (.aload_n 0, 1) := by decide +kernel
theorem dX4_judge_386 : decode cX4_judge 386 = .ok (.getfield 9, 3) := by decide +kernel
theorem dX4_judge_389 : decode cX4_judge 389 = .ok (.ifCond .ne 7, 3) := by decide +kernel
theorem dX4_judge_392 : decode cX4_judge 392 = .ok (.iconst 1, 1) := by decide +kernel
theorem dX4_judge_393 : decode cX4_judge 393 = .ok (.goto 4, 3) := by decide +kernel
theorem dX4_judge_397 : decode cX4_judge 397 = .ok (.ireturn, 1) := by decide +kernel
theorem dX5_init_0 : decode cX5_init 0 = .ok (.aload_n 0, 1) := by decide +kernel
theorem dX5_init_1 : decode cX5_init 1 = .ok (.invokespecial 3, 3) := by decide +kernel
theorem dX5_init_4 : decode cX5_init 4 = .ok (.aload_n 0, 1) := by decide +kernel
theorem dX5_init_5 : decode cX5_init 5 = .ok (.bipush 64, 2) := by decide +kernel
theorem dX5_init_7 : decode cX5_init 7 = .ok (.newarray .int, 2) := by decide +kernel
theorem dX5_init_9 : decode cX5_init 9 = .ok (.putfield 9, 3) := by decide +kernel
theorem dX5_init_12 : decode cX5_init 12 = .ok (.aload_n 0, 1) := by decide +kernel
theorem dX5_init_13 : decode cX5_init 13 = .ok (.bipush 64, 2) := by decide +kernel
theorem dX5_init_15 : decode cX5_init 15 = .ok (.newarray .int, 2) := by decide +kernel
theorem dX5_init_17 : decode cX5_init 17 = .ok (.putfield 15, 3) := by decide +kernel
theorem dX5_init_20 : decode cX5_init 20 = .ok (.aload_n 0, 1) := by decide +kernel
theorem dX5_init_21 : decode cX5_init 21 = .ok (.sipush 320, 3) := by decide +kernel
theorem dX5_init_24 : decode cX5_init 24 = .ok (.newarray .int, 2) := by decide +kernel
theorem dX5_init_26 : decode cX5_init 26 = .ok (.putfield 18, 3) := by decide +kernel
theorem dX5_init_29 : decode cX5_init 29 = .ok (.aload_n 0, 1) := by decide +kernel
theorem dX5_init_30 : decode cX5_init 30 = .ok (.bipush 64, 2) := by decide +kernel
theorem dX5_init_32 : decode cX5_init 32 = .ok (.newarray .int, 2) := by decide +kernel
theorem dX5_init_34 : decode cX5_init 34 = .ok (.putfield 21, 3) := by decide +kernel
theorem dX5_init_37 : decode cX5_init 37 = .ok (.aload_n 0, 1) := by decide +kernel
theorem dX5_init_38 : decode cX5_init 38 = .ok (.bipush 66, 2) := by decide +kernel
theorem dX5_init_40 : decode cX5_init 40 = .ok (.newarray .int, 2) := by decide +kernel
theorem dX5_init_42 : decode cX5_init 42 = .ok (.putfield 24, 3) := by decide +kernel
theorem dX5_init_45 : decode cX5_init 45 = .ok (.aload_n 0, 1) := by decide +kernel
theorem dX5_init_46 : decode cX5_init 46 = .ok (.bipush 66, 2) := by decide +kernel
theorem dX5_init_48 : decode cX5_init 48 = .ok (.newarray .int, 2) := by decide +kernel
theorem dX5_init_50 : decode cX5_init 50 = .ok (.putfield 27, 3) := by decide +kernel
theorem dX5_init_53 : decode cX5_init 53 = .ok (.aload_n 0, 1) := by decide +kernel
theorem dX5_init_54 : decode cX5_init 54 = .ok (.bipush 66, 2) := by decide +kernel
theorem dX5_init_56 : decode cX5_init 56 = .ok (.newarray .int, 2) := by decide +kernel
theorem dX5_init_58 : decode cX5_init 58 = .ok (.putfield 30, 3) := by decide +kernel
theorem dX5_init_61 : decode cX5_init 61 = .ok (.aload_n 0, 1) := by decide +kernel
theorem dX5_init_62 : decode cX5_init 62 = .ok (.bipush 66, 2) := by decide +kernel
theorem dX5_init_64 : decode cX5_init 64 = .ok (.newarray .int, 2) := by decide +kernel
theorem dX5_init_66 : decode cX5_init 66 = .ok (.putfield 33, 3) := by decide +kernel
theorem dX5_init_69 : decode cX5_init 69 = .ok (.aload_n 0, 1) := by decide +kernel
theorem dX5_init_70 : decode cX5_init 70 = .ok (.sipush 130, 3) := by decide +kernel
theorem dX5_init_73 : decode cX5_init 73 = .ok (.newarray .int, 2) := by decide +kernel
theorem dX5_init_75 : decode cX5_init 75 = .ok (.putfield 36, 3) := by decide +kernel
theorem dX5_init_78 : decode cX5_init 78 = .ok (.aload_n 0, 1) := by decide +kernel
theorem dX5_init_79 : decode cX5_init 79 = .ok (.bipush 65, 2) := by decide +kernel
theorem dX5_init_81 : decode cX5_init 81 = .ok (.newarray .int, 2) := by decide +kernel
theorem dX5_init_83 : decode cX5_init 83 = .ok (.putfield 39, 3) := by decide +kernel
theorem dX5_init_86 : decode cX5_init 86 = .ok (.aload_n 0, 1) := by decide +kernel
theorem dX5_init_87 : decode cX5_init 87 = .ok (.iload_n 1, 1) := by decide +kernel
theorem dX5_init_88 : decode cX5_init 88 = .ok (.newarray .int, 2) := by decide +kernel
theorem dX5_init_90 : decode cX5_init 90 = .ok (.putfield 42, 3) := by decide +kernel
theorem dX5_init_93 : decode cX5_init 93 = .ok (.aload_n 0, 1) := by decide +kernel
theorem dX5_init_94 : decode cX5_init 94 = .ok (.iload_n 1, 1) := by decide +kernel
theorem dX5_init_95 : decode cX5_init 95 = .ok (.anewarray 45, 3) := by decide +kernel
theorem dX5_init_98 : decode cX5_init 98 = .ok (.putfield 47, 3) := by decide +kernel
theorem dX5_init_101 : decode cX5_init 101 = .ok (.return_, 1) := by decide +kernel
theorem dX5_clear_0 : decode cX5_clear 0 = .ok (.aload_n 0, 1) := by decide +kernel
theorem dX5_clear_1 : decode cX5_clear 1 = .ok (.aload_n 1, 1) := by decide +kernel
theorem dX5_clear_2 : decode cX5_clear 2 = .ok (.putfield 51, 3) := by decide +kernel
theorem dX5_clear_5 : decode cX5_clear 5 = .ok (.aload_n 0, 1) := by decide +kernel
theorem dX5_clear_6 : decode cX5_clear 6 = .ok (.getfield 9, 3) := by decide +kernel
theorem dX5_clear_9 : decode cX5_clear 9 = .ok (.iconst 0, 1) := by decide +kernel
theorem dX5_clear_10 : decode cX5_clear 10 = .ok (.invokestatic 55, 3) := by decide +kernel
theorem dX5_clear_13 : decode cX5_clear 13 = .ok (.aload_n 0, 1) := by decide +kernel
theorem dX5_clear_14 : decode cX5_clear 14 = .ok (.getfield 9, 3) := by decide +kernel
theorem dX5_clear_17 : decode cX5_clear 17 = .ok (.iconst 0, 1) := by decide +kernel
theorem dX5_clear_18 : decode cX5_clear 18 = .ok (.iconst 4, 1) := by decide +kernel
theorem dX5_clear_19 : decode cX5_clear 19 = .ok (.iastore, 1) := by decide +kernel
theorem dX5_clear_20 : decode cX5_clear 20 = .ok (.aload_n 0, 1) := by decide +kernel
theorem dX5_clear_21 : decode cX5_clear 21 = .ok (.getfield 9, 3) := by decide +kernel
theorem dX5_clear_24 : decode cX5_clear 24 = .ok (.iconst 1, 1) := by decide +kernel
theorem dX5_clear_25 : decode cX5_clear 25 = .ok (.iconst 4, 1) := by decide +kernel
theorem dX5_clear_26 : decode cX5_clear 26 = .ok (.iastore, 1) := by decide +kernel
theorem dX5_clear_27 : decode cX5_clear 27 = .ok (.aload_n 0, 1) := by decide +kernel
theorem dX5_clear_28 : decode cX5_clear 28 = .ok (.iconst 0, 1) := by decide +kernel
theorem dX5_clear_29 : decode cX5_clear 29 = .ok (.putfield 61, 3) := by decide +kernel
theorem dX5_clear_32 : decode cX5_clear 32 = .ok (.aload_n 0, 1) := by decide +kernel
theorem dX5_clear_33 : decode cX5_clear 33 = .ok (.iconst 0, 1) := by decide +kernel
theorem dX5_clear_34 : decode cX5_clear 34 = .ok (.putfield 65, 3) := by decide +kernel
theorem dX5_clear_37 : decode cX5_clear 37 = .ok (.iconst 0, 1) := by decide +kernel
theorem dX5_clear_38 : decode cX5_clear 38 = .ok (.istore_n 2, 1) := by decide +kernel
theorem dX5_clear_39 : decode cX5_clear 39 = .ok (.iconst 0, 1) := by decide +kernel
theorem dX5_clear_40 : decode cX5_clear 40 = .ok (.istore_n 3, 1) := by decide +kernel
theorem dX5_clear_41 : decode cX5_clear 41 = .ok (.iload_n 3, 1) := by decide +kernel
theorem dX5_clear_42 : decode cX5_clear 42 = .ok (.aload_n 0, 1) := by decide +kernel
theorem dX5_clear_43 : decode cX5_clear 43 = .ok (.getfield 51, 3) := by decide +kernel
theorem dX5_clear_46 : decode cX5_clear 46 = .ok (.getfield 68, 3) := by decide +kernel
theorem dX5_clear_49 : decode cX5_clear 49 = .ok (.if_icmp .ge 39, 3) := by decide +kernel
theorem dX5_clear_52 : decode cX5_clear 52 = .ok (.aload_n 0, 1) := by decide +kernel
theorem dX5_clear_53 : decode cX5_clear 53 = .ok (.getfield 42, 3) := by decide +kernel
theorem dX5_clear_56 : decode cX5_clear 56 = .ok (.arraylength, 1) := by decide +kernel
theorem dX5_clear_57 : decode cX5_clear 57 = .ok (.ifCond .le 31, 3) := by decide +kernel
theorem dX5_clear_60 : decode cX5_clear 60 = .ok (.aload_n 0, 1) := by decide +kernel
theorem dX5_clear_61 : decode cX5_clear 61 = .ok (.getfield 39, 3) := by decide +kernel
theorem dX5_clear_64 : decode cX5_clear 64 = .ok (.iload_n 3, 1) := by decide +kernel
theorem dX5_clear_65 : decode cX5_clear 65 = .ok (.iload_n 2, 1) := by decide +kernel
theorem dX5_clear_66 : decode cX5_clear 66 = .ok (.iastore, 1) := by decide +kernel
theorem dX5_clear_67 : decode cX5_clear 67 = .ok (.iload_n 2, 1) := by decide +kernel
theorem dX5_clear_68 : decode cX5_clear 68 = .ok (.aload_n 0, 1) := by decide +kernel
theorem dX5_clear_69 : decode cX5_clear 69 = .ok (.getfield 51, 3) := by decide +kernel
theorem dX5_clear_72 : decode cX5_clear 72 = .ok (.getfield 73, 3) := by decide +kernel
theorem dX5_clear_75 : decode cX5_clear 75 = .ok (.iload_n 3, 1) := by decide +kernel
theorem dX5_clear_76 : decode cX5_clear 76 = .ok (.aaload, 1) := by decide +kernel
theorem dX5_clear_77 : decode cX5_clear 77 = .ok (.getfield 77, 3) := by decide +kernel
theorem dX5_clear_80 : decode cX5_clear 80 = .ok (.iadd, 1) := by decide +kernel
theorem dX5_clear_81 : decode cX5_clear 81 = .ok (.istore_n 2, 1) := by decide +kernel
theorem dX5_clear_82 : decode cX5_clear 82 = .ok (.iinc 3 1, 3) := by decide +kernel
theorem dX5_clear_85 : decode cX5_clear 85 = .ok (.goto (-44), 3) := by decide +kernel
theorem dX5_clear_88 : decode cX5_clear 88 = .ok (.iconst 0, 1) := by decide +kernel
theorem dX5_clear_89 : decode cX5_clear 89 = .ok (.istore_n 3, 1) := by decide +kernel
theorem dX5_clear_90 : decode cX5_clear 90 = .ok (.iload_n 3, 1) := by decide +kernel
theorem dX5_clear_91 : decode cX5_clear 91 = .ok (.iload_n 2, 1) := by decide +kernel
theorem dX5_clear_92 : decode cX5_clear 92 = .ok (.if_icmp .ge 25, 3) := by decide +kernel
theorem dX5_clear_117 : decode cX5_clear 117 = .ok (.return_, 1) := by decide +kernel
theorem dX6_init_0 : decode cX6_init 0 = .ok (.aload_n 0, 1) := by decide +kernel
theorem dX6_init_1 : decode cX6_init 1 = .ok (.invokespecial 3, 3) := by decide +kernel
theorem dX6_init_4 : decode cX6_init 4 = .ok (.aload_n 0, 1) := by decide +kernel
theorem dX6_init_5 : decode cX6_init 5 = .ok (.new 9, 3) := by decide +kernel
theorem dX6_init_8 : decode cX6_init 8 = .ok (.dup, 1) := by decide +kernel
theorem dX6_init_9 : decode cX6_init 9 = .ok (.sipush 4940, 3) := by decide +kernel
theorem dX6_init_12 : decode cX6_init 12 = .ok (.invokespecial 11, 3) := by decide +kernel
theorem dX6_init_15 : decode cX6_init 15 = .ok (.putfield 14, 3) := by decide +kernel
theorem dX6_init_18 : decode cX6_init 18 = .ok (.aload_n 0, 1) := by decide +kernel
theorem dX6_init_19 : decode cX6_init 19 = .ok (.sipush 24000, 3) := by decide +kernel
theorem dX6_init_22 : decode cX6_init 22 = .ok (.newarray .int, 2) := by decide +kernel
theorem dX6_init_24 : decode cX6_init 24 = .ok (.putfield 20, 3) := by decide +kernel
theorem dX6_init_27 : decode cX6_init 27 = .ok (.aload_n 0, 1) := by decide +kernel
theorem dX6_init_28 : decode cX6_init 28 = .ok (.bipush 25, 2) := by decide +kernel
theorem dX6_init_30 : decode cX6_init 30 = .ok (.bipush 7, 2) := by decide +kernel
theorem dX6_init_32 : decode cX6_init 32 = .ok (.multianewarray 24 2, 4) := by decide +kernel
theorem dX6_init_36 : decode cX6_init 36 = .ok (.putfield 26, 3) := by decide +kernel
theorem dX6_init_39 : decode cX6_init 39 = .ok (.aload_n 0, 1) := by decide +kernel
theorem dX6_init_40 : decode cX6_init 40 = .ok (.sipush 1152, 3) := by decide +kernel
theorem dX6_init_43 : decode cX6_init 43 = .ok (.newarray .int, 2) := by decide +kernel
theorem dX6_init_45 : decode cX6_init 45 = .ok (.putfield 29, 3) := by decide +kernel
theorem dX6_init_48 : decode cX6_init 48 = .ok (.aload_n 0, 1) := by decide +kernel
theorem dX6_init_49 : decode cX6_init 49 = .ok (.sipush 202, 3) := by decide +kernel
theorem dX6_init_52 : decode cX6_init 52 = .ok (.newarray .int, 2) := by decide +kernel
theorem dX6_init_54 : decode cX6_init 54 = .ok (.putfield 32, 3) := by decide +kernel
theorem dX6_init_57 : decode cX6_init 57 = .ok (.aload_n 0, 1) := by decide +kernel
theorem dX6_init_58 : decode cX6_init 58 = .ok (.sipush 202, 3) := by decide +kernel
theorem dX6_init_61 : decode cX6_init 61 = .ok (.newarray .int, 2) := by decide +kernel
theorem dX6_init_63 : decode cX6_init 63 = .ok (.putfield 35, 3) := by decide +kernel
theorem dX6_init_66 : decode cX6_init 66 = .ok (.aload_n 0, 1) := by decide +kernel
theorem dX6_init_67 : decode cX6_init 67 = .ok (.sipush 2000, 3) := by decide +kernel
theorem dX6_init_70 : decode cX6_init 70 = .ok (.newarray .int, 2) := by decide +kernel
theorem dX6_init_72 : decode cX6_init 72 = .ok (.putfield 38, 3) := by decide +kernel
theorem dX6_init_75 : decode cX6_init 75 = .ok (.aload_n 0, 1) := by decide +kernel
theorem dX6_init_76 : decode cX6_init 76 = .ok (.sipush 1280, 3) := by decide +kernel
theorem dX6_init_79 : decode cX6_init 79 = .ok (.newarray .int, 2) := by decide +kernel
theorem dX6_init_81 : decode cX6_init 81 = .ok (.putfield 41, 3) := by decide +kernel
theorem dX6_init_84 : decode cX6_init 84 = .ok (.aload_n 0, 1) := by decide +kernel
theorem dX6_init_85 : decode cX6_init 85 = .ok (.bipush 100, 2) := by decide +kernel
theorem dX6_init_87 : decode cX6_init 87 = .ok (.newarray .int, 2) := by decide +kernel
theorem dX6_init_89 : decode cX6_init 89 = .ok (.putfield 44, 3) := by decide +kernel
theorem dX6_init_92 : decode cX6_init 92 = .ok (.return_, 1) := by decide +kernel
theorem dX6_clear_0 : decode cX6_clear 0 = .ok (.aload_n 0, 1) := by decide +kernel
theorem dX6_clear_1 : decode cX6_clear 1 = .ok (.aload_n 1, 1) := by decide +kernel
theorem dX6_clear_2 : decode cX6_clear 2 = .ok (.putfield 47, 3) := by decide +kernel
theorem dX6_clear_5 : decode cX6_clear 5 = .ok (.aload_n 0, 1) := by decide +kernel
theorem dX6_clear_6 : decode cX6_clear 6 = .ok (.getfield 14, 3) := by decide +kernel
theorem dX6_clear_9 : decode cX6_clear 9 = .ok (.aload_n 1, 1) := by decide +kernel
theorem dX6_clear_10 : decode cX6_clear 10 = .ok (.invokevirtual 51, 3) := by decide +kernel
theorem dX6_clear_13 : decode cX6_clear 13 = .ok (.aload_n 0, 1) := by decide +kernel
theorem dX6_clear_14 : decode cX6_clear 14 = .ok (.iconst 0, 1) := by decide +kernel
theorem dX6_clear_15 : decode cX6_clear 15 = .ok (.putfield 55, 3) := by decide +kernel
theorem dX6_clear_18 : decode cX6_clear 18 = .ok (.aload_n 0, 1) := by decide +kernel
theorem dX6_clear_19 : decode cX6_clear 19 = .ok (.iconst 0, 1) := by decide +kernel
theorem dX6_clear_20 : decode cX6_clear 20 = .ok (.putfield 59, 3) := by decide +kernel
theorem dX6_clear_23 : decode cX6_clear 23 = .ok (.aload_n 0, 1) := by decide +kernel
theorem dX6_clear_24 : decode cX6_clear 24 = .ok (.getfield 41, 3) := by decide +kernel
theorem dX6_clear_27 : decode cX6_clear 27 = .ok (.iconst 0, 1) := by decide +kernel
theorem dX6_clear_28 : decode cX6_clear 28 = .ok (.invokestatic 62, 3) := by decide +kernel
theorem dX6_clear_31 : decode cX6_clear 31 = .ok (.return_, 1) := by decide +kernel
theorem dX7_init_0 : decode cX7_init 0 = .ok (.aload_n 0, 1) := by decide +kernel
theorem dX7_init_1 : decode cX7_init 1 = .ok (.invokespecial 3, 3) := by decide +kernel
theorem dX7_init_4 : decode cX7_init 4 = .ok (.aload_n 0, 1) := by decide +kernel
theorem dX7_init_5 : decode cX7_init 5 = .ok (.iconst 4, 1) := by decide +kernel
theorem dX7_init_6 : decode cX7_init 6 = .ok (.newarray .long, 2) := by decide +kernel
theorem dX7_init_8 : decode cX7_init 8 = .ok (.putfield 9, 3) := by decide +kernel
theorem dX7_init_11 : decode cX7_init 11 = .ok (.return_, 1) := by decide +kernel
theorem dX7_clear_0 : decode cX7_clear 0 = .ok (.aload_n 0, 1) := by decide +kernel
theorem dX7_clear_1 : decode cX7_clear 1 = .ok (.iconst 0, 1) := by decide +kernel
theorem dX7_clear_2 : decode cX7_clear 2 = .ok (.putfield 15, 3) := by decide +kernel
theorem dX7_clear_5 : decode cX7_clear 5 = .ok (.aload_n 0, 1) := by decide +kernel
theorem dX7_clear_6 : decode cX7_clear 6 = .ok (.iconst 1, 1) := by decide +kernel
theorem dX7_clear_7 : decode cX7_clear 7 = .ok (.putfield 19, 3) := by decide +kernel
theorem dX7_clear_10 : decode cX7_clear 10 = .ok (.aload_n 0, 1) := by decide +kernel
theorem dX7_clear_11 : decode cX7_clear 11 = .ok (.iconst 0, 1) := by decide +kernel
theorem dX7_clear_12 : decode cX7_clear 12 = .ok (.putfield 22, 3) := by decide +kernel
theorem dX7_clear_15 : decode cX7_clear 15 = .ok (.aload_n 0, 1) := by decide +kernel
theorem dX7_clear_16 : decode cX7_clear 16 = .ok (.iconst 0, 1) := by decide +kernel
theorem dX7_clear_17 : decode cX7_clear 17 = .ok (.putfield 26, 3) := by decide +kernel
theorem dX7_clear_20 : decode cX7_clear 20 = .ok (.aload_n 0, 1) := by decide +kernel
theorem dX7_clear_21 : decode cX7_clear 21 = .ok (.iconst 0, 1) := by decide +kernel
theorem dX7_clear_22 : decode cX7_clear 22 = .ok (.putfield 29, 3) := by decide +kernel
theorem dX7_clear_25 : decode cX7_clear 25 = .ok (.aload_n 0, 1) := by decide +kernel
theorem dX7_clear_26 : decode cX7_clear 26 = .ok (.iconst 0, 1) := by decide +kernel
theorem dX7_clear_27 : decode cX7_clear 27 = .ok (.putfield 32, 3) := by decide +kernel
theorem dX7_clear_30 : decode cX7_clear 30 = .ok (.aload_n 0, 1) := by decide +kernel
theorem dX7_clear_31 : decode cX7_clear 31 = .ok (.iconst 0, 1) := by decide +kernel
theorem dX7_clear_32 : decode cX7_clear 32 = .ok (.putfield 35, 3) := by decide +kernel
theorem dX7_clear_35 : decode cX7_clear 35 = .ok (.aload_n 0, 1) := by decide +kernel
theorem dX7_clear_36 : decode cX7_clear 36 = .ok (.ldc2_w 38, 3) := by decide +kernel
theorem dX7_clear_39 : decode cX7_clear 39 = .ok (.putfield 40, 3) := by decide +kernel
theorem dX7_clear_42 : decode cX7_clear 42 = .ok (.aload_n 0, 1) := by decide +kernel
theorem dX7_clear_43 : decode cX7_clear 43 = .ok (.ldc2_w 44, 3) := by decide +kernel
theorem dX7_clear_46 : decode cX7_clear 46 = .ok (.putfield 46, 3) := by decide +kernel
theorem dX7_clear_49 : decode cX7_clear 49 = .ok (.aload_n 0, 1) := by decide +kernel
theorem dX7_clear_50 : decode cX7_clear 50 = .ok (.iconst 0, 1) := by decide +kernel
theorem dX7_clear_51 : decode cX7_clear 51 = .ok (.putfield 49, 3) := by decide +kernel
theorem dX7_clear_54 : decode cX7_clear 54 = .ok (.aload_n 0, 1) := by decide +kernel
theorem dX7_clear_55 : decode cX7_clear 55 = .ok (.getfield 9, 3) := by decide +kernel
theorem dX7_clear_58 : decode cX7_clear 58 = .ok (.ldc2_w 38, 3) := by decide +kernel
theorem dX7_clear_61 : decode cX7_clear 61 = .ok (.invokestatic 52, 3) := by decide +kernel
theorem dX7_clear_64 : decode cX7_clear 64 = .ok (.aload_n 0, 1) := by decide +kernel
theorem dX7_clear_65 : decode cX7_clear 65 = .ok (.iconst 0, 1) := by decide +kernel
theorem dX7_clear_66 : decode cX7_clear 66 = .ok (.putfield 58, 3) := by decide +kernel
theorem dX7_clear_69 : decode cX7_clear 69 = .ok (.aload_n 0, 1) := by decide +kernel
theorem dX7_clear_70 : decode cX7_clear 70 = .ok (.iconst 0, 1) := by decide +kernel
theorem dX7_clear_71 : decode cX7_clear 71 = .ok (.putfield 61, 3) := by decide +kernel
theorem dX7_clear_74 : decode cX7_clear 74 = .ok (.aload_n 0, 1) := by decide +kernel
theorem dX7_clear_75 : decode cX7_clear 75 = .ok (.iconst 0, 1) := by decide +kernel
theorem dX7_clear_76 : decode cX7_clear 76 = .ok (.putfield 64, 3) := by decide +kernel
theorem dX7_clear_79 : decode cX7_clear 79 = .ok (.aload_n 0, 1) := by decide +kernel
theorem dX7_clear_80 : decode cX7_clear 80 = .ok (.aconst_null, 1) := by decide +kernel
theorem dX7_clear_81 : decode cX7_clear 81 = .ok (.putfield 67, 3) := by decide +kernel
theorem dX7_clear_84 : decode cX7_clear 84 = .ok (.aload_n 0, 1) := by decide +kernel
theorem dX7_clear_85 : decode cX7_clear 85 = .ok (.iconst 0, 1) := by decide +kernel
theorem dX7_clear_86 : decode cX7_clear 86 = .ok (.putfield 71, 3) := by decide +kernel
theorem dX7_clear_89 : decode cX7_clear 89 = .ok (.aload_n 0, 1) := by decide +kernel
theorem dX7_clear_90 : decode cX7_clear 90 = .ok (.iconst 0, 1) := by decide +kernel
theorem dX7_clear_91 : decode cX7_clear 91 = .ok (.putfield 74, 3) := by decide +kernel
theorem dX7_clear_94 : decode cX7_clear 94 = .ok (.aload_n 0, 1) := by decide +kernel
theorem dX7_clear_95 : decode cX7_clear 95 = .ok (.iconst 0, 1) := by decide +kernel
theorem dX7_clear_96 : decode cX7_clear 96 = .ok (.putfield 77, 3) := by decide +kernel
theorem dX7_clear_99 : decode cX7_clear 99 = .ok (.aload_n 0, 1) := by decide +kernel
theorem dX7_clear_100 : decode cX7_clear 100 = .ok (.iconst 0, 1) := by decide +kernel
theorem dX7_clear_101 : decode cX7_clear 101 = .ok (.putfield 80, 3) := by decide +kernel
theorem dX7_clear_104 : decode cX7_clear 104 = .ok (.return_, 1) := by decide +kernel
theorem dX8_init_0 : decode cX8_init 0 = .ok (.aload_n 0, 1) := by decide +kernel
theorem dX8_init_1 : decode cX8_init 1 = .ok (.invokespecial 3, 3) := by decide +kernel
theorem dX8_init_4 : decode cX8_init 4 = .ok (.return_, 1) := by decide +kernel
theorem dX9_init_0 : decode cX9_init 0 = .ok (.aload_n 0, 1) := by decide +kernel
theorem dX9_init_1 : decode cX9_init 1 = .ok (.invokespecial 3, 3) := by decide +kernel
theorem dX9_init_4 : decode cX9_init 4 = .ok (.aload_n 0, 1) := by decide +kernel
theorem dX9_init_5 : decode cX9_init 5 = .ok (.bipush 30, 2) := by decide +kernel
theorem dX9_init_7 : decode cX9_init 7 = .ok (.newarray .long, 2) := by decide +kernel
theorem dX9_init_9 : decode cX9_init 9 = .ok (.putfield 9, 3) := by decide +kernel
theorem dX9_init_12 : decode cX9_init 12 = .ok (.aload_n 0, 1) := by decide +kernel
theorem dX9_init_13 : decode cX9_init 13 = .ok (.sipush 704, 3) := by decide +kernel
theorem dX9_init_16 : decode cX9_init 16 = .ok (.newarray .int, 2) := by decide +kernel
theorem dX9_init_18 : decode cX9_init 18 = .ok (.putfield 15, 3) := by decide +kernel
theorem dX9_init_21 : decode cX9_init 21 = .ok (.aload_n 0, 1) := by decide +kernel
theorem dX9_init_22 : decode cX9_init 22 = .ok (.sipush 704, 3) := by decide +kernel
theorem dX9_init_25 : decode cX9_init 25 = .ok (.newarray .int, 2) := by decide +kernel
theorem dX9_init_27 : decode cX9_init 27 = .ok (.putfield 19, 3) := by decide +kernel
theorem dX9_init_30 : decode cX9_init 30 = .ok (.aload_n 0, 1) := by decide +kernel
theorem dX9_init_31 : decode cX9_init 31 = .ok (.sipush 704, 3) := by decide +kernel
theorem dX9_init_34 : decode cX9_init 34 = .ok (.newarray .int, 2) := by decide +kernel
theorem dX9_init_36 : decode cX9_init 36 = .ok (.putfield 22, 3) := by decide +kernel
theorem dX9_init_39 : decode cX9_init 39 = .ok (.aload_n 0, 1) := by decide +kernel
theorem dX9_init_40 : decode cX9_init 40 = .ok (.sipush 704, 3) := by decide +kernel
theorem dX9_init_43 : decode cX9_init 43 = .ok (.newarray .long, 2) := by decide +kernel
theorem dX9_init_45 : decode cX9_init 45 = .ok (.putfield 25, 3) := by decide +kernel
theorem dX9_init_48 : decode cX9_init 48 = .ok (.aload_n 0, 1) := by decide +kernel
theorem dX9_init_49 : decode cX9_init 49 = .ok (.sipush 800, 3) := by decide +kernel
theorem dX9_init_52 : decode cX9_init 52 = .ok (.anewarray 28, 3) := by decide +kernel
theorem dX9_init_55 : decode cX9_init 55 = .ok (.putfield 30, 3) := by decide +kernel
theorem dX9_init_58 : decode cX9_init 58 = .ok (.iconst 0, 1) := by decide +kernel
theorem dX9_init_59 : decode cX9_init 59 = .ok (.istore_n 1, 1) := by decide +kernel
theorem dX9_init_60 : decode cX9_init 60 = .ok (.iload_n 1, 1) := by decide +kernel
theorem dX9_init_61 : decode cX9_init 61 = .ok (.sipush 800, 3) := by decide +kernel
theorem dX9_init_64 : decode cX9_init 64 = .ok (.if_icmp .ge 22, 3) := by decide +kernel
theorem dX9_init_67 : decode cX9_init 67 = .ok (.aload_n 0, 1) := by decide +kernel
theorem dX9_init_68 : decode cX9_init 68 = .ok (.getfield 30, 3) := by decide +kernel
theorem dX9_init_71 : decode cX9_init 71 = .ok (.iload_n 1, 1) := by decide +kernel
theorem dX9_init_72 : decode cX9_init 72 = .ok (.new 28, 3) := by decide +kernel
theorem dX9_init_75 : decode cX9_init 75 = .ok (.dup, 1) := by decide +kernel
theorem dX9_init_76 : decode cX9_init 76 = .ok (.invokespecial 34, 3) := by decide +kernel
theorem dX9_init_79 : decode cX9_init 79 = .ok (.aastore, 1) := by decide +kernel
theorem dX9_init_80 : decode cX9_init 80 = .ok (.iinc 1 1, 3) := by decide +kernel
theorem dX9_init_83 : decode cX9_init 83 = .ok (.goto (-23), 3) := by decide +kernel
theorem dX9_init_86 : decode cX9_init 86 = .ok (.iconst 0, 1) := by decide +kernel
theorem dX9_init_87 : decode cX9_init 87 = .ok (.istore_n 1, 1) := by decide +kernel
theorem dX9_init_88 : decode cX9_init 88 = .ok (.iconst 0, 1) := by decide +kernel
theorem dX9_init_89 : decode cX9_init 89 = .ok (.istore_n 2, 1) := by decide +kernel
theorem dX9_init_90 : decode cX9_init 90 = .ok (.iconst 0, 1) := by decide +kernel
theorem dX9_init_91 : decode cX9_init 91 = .ok (.istore_n 3, 1) := by decide +kernel
theorem dX9_init_92 : decode cX9_init 92 = .ok (.iload_n 3, 1) := by decide +kernel
theorem dX9_init_93 : decode cX9_init 93 = .ok (.ldc 35, 2) := by decide +kernel
theorem dX9_init_95 : decode cX9_init 95 = .ok (.invokevirtual 37, 3) := by decide +kernel
theorem dX9_init_98 : decode cX9_init 98 = .ok (.if_icmp .ge 82, 3) := by decide +kernel
theorem dX9_init_101 : decode cX9_init 101 = .ok (.iload_n 1, 1) := by decide +kernel
theorem dX9_init_102 : decode cX9_init 102 = .ok (.bipush 30, 2) := by decide +kernel
theorem dX9_init_104 : decode cX9_init 104 = .ok (.if_icmp .ge 76, 3) := by decide +kernel
theorem dX9_init_107 : decode cX9_init 107 = .ok (.ldc 35, 2) := by decide +kernel
theorem dX9_init_109 : decode cX9_init 109 = .ok (.iload_n 3, 1) := by decide +kernel
theorem dX9_init_110 : decode cX9_init 110 = .ok (.invokevirtual 43, 3) := by decide +kernel
theorem dX9_init_113 : decode cX9_init 113 = .ok (.istore 4, 2) := by decide +kernel
theorem dX9_init_115 : decode cX9_init 115 = .ok (.iload 4, 2) := by decide +kernel
theorem dX9_init_117 : decode cX9_init 117 = .ok (.bipush 32, 2) := by decide +kernel
theorem dX9_init_119 : decode cX9_init 119 = .ok (.if_icmp .ne 11, 3) := by decide +kernel
theorem dX9_init_122 : decode cX9_init 122 = .ok (.iinc 1 1, 3) := by decide +kernel
theorem dX9_init_125 : decode cX9_init 125 = .ok (.iconst 0, 1) := by decide +kernel
theorem dX9_init_126 : decode cX9_init 126 = .ok (.istore_n 2, 1) := by decide +kernel
theorem dX9_init_127 : decode cX9_init 127 = .ok (.goto 47, 3) := by decide +kernel
theorem dX9_init_130 : decode cX9_init 130 = .ok (.iload_n 2, 1) := by decide +kernel
theorem dX9_init_131 : decode cX9_init 131 = .ok (.ifCond .ne 24, 3) := by decide +kernel
theorem dX9_init_134 : decode cX9_init 134 = .ok (.aload_n 0, 1) := by decide +kernel
theorem dX9_init_135 : decode cX9_init 135 = .ok (.getfield 9, 3) := by decide +kernel
theorem dX9_init_138 : decode cX9_init 138 = .ok (.iload_n 1, 1) := by decide +kernel
theorem dX9_init_139 : decode cX9_init 139 = .ok (.iload 4, 2) := by decide +kernel
theorem dX9_init_141 : decode cX9_init 141 = .ok (.bipush 97, 2) := by decide +kernel
theorem dX9_init_143 : decode cX9_init 143 = .ok (.isub, 1) := by decide +kernel
theorem dX9_init_144 : decode cX9_init 144 = .ok (.i2l, 1) := by decide +kernel
theorem dX9_init_145 : decode cX9_init 145 = .ok (.bipush 54, 2) := by decide +kernel
theorem dX9_init_147 : decode cX9_init 147 = .ok (.lshl, 1) := by decide +kernel
theorem dX9_init_148 : decode cX9_init 148 = .ok (.lastore, 1) := by decide +kernel
theorem dX9_init_149 : decode cX9_init 149 = .ok (.bipush 48, 2) := by decide +kernel
theorem dX9_init_151 : decode cX9_init 151 = .ok (.istore_n 2, 1) := by decide +kernel
theorem dX9_init_152 : decode cX9_init 152 = .ok (.goto 22, 3) := by decide +kernel
theorem dX9_init_155 : decode cX9_init 155 = .ok (.aload_n 0, 1) := by decide +kernel
theorem dX9_init_156 : decode cX9_init 156 = .ok (.getfield 9, 3) := by decide +kernel
theorem dX9_init_159 : decode cX9_init 159 = .ok (.iload_n 1, 1) := by decide +kernel
theorem dX9_init_160 : decode cX9_init 160 = .ok (.dup2, 1) := by decide +kernel
theorem dX9_init_161 : decode cX9_init 161 = .ok (.laload, 1) := by decide +kernel
theorem dX9_init_162 : decode cX9_init 162 = .ok (.iload 4, 2) := by decide +kernel
theorem dX9_init_164 : decode cX9_init 164 = .ok (.invokestatic 47, 3) := by decide +kernel
theorem dX9_init_167 : decode cX9_init 167 = .ok (.iload_n 2, 1) := by decide +kernel
theorem dX9_init_168 : decode cX9_init 168 = .ok (.lshl, 1) := by decide +kernel
theorem dX9_init_169 : decode cX9_init 169 = .ok (.lor, 1) := by decide +kernel
theorem dX9_init_170 : decode cX9_init 170 = .ok (.lastore, 1) := by decide +kernel
theorem dX9_init_171 : decode cX9_init 171 = .ok (.iinc 2 (-6), 3) := by decide +kernel
theorem dX9_init_174 : decode cX9_init 174 = .ok (.iinc 3 1, 3) := by decide +kernel
theorem dX9_init_177 : decode cX9_init 177 = .ok (.goto (-85), 3) := by decide +kernel
theorem dX9_init_180 : decode cX9_init 180 = .ok (.return_, 1) := by decide +kernel
theorem dX9_read_0 : decode cX9_read 0 = .ok (.aload_n 0, 1) := by decide +kernel
theorem dX9_read_1 : decode cX9_read 1 = .ok (.aload_n 1, 1) := by decide +kernel
theorem dX9_read_2 : decode cX9_read 2 = .ok (.putfield 51, 3) := by decide +kernel
theorem dX9_read_5 : decode cX9_read 5 = .ok (.aload_n 0, 1) := by decide +kernel
theorem dX9_read_6 : decode cX9_read 6 = .ok (.getfield 51, 3) := by decide +kernel
theorem dX9_read_9 : decode cX9_read 9 = .ok (.invokevirtual 55, 3) := by decide +kernel
theorem dX9_read_12 : decode cX9_read 12 = .ok (.aload_n 0, 1) := by decide +kernel
theorem dX9_read_13 : decode cX9_read 13 = .ok (.iconst 0, 1) := by decide +kernel
theorem dX9_read_14 : decode cX9_read 14 = .ok (.putfield 60, 3) := by decide +kernel
theorem dX9_read_17 : decode cX9_read 17 = .ok (.aload_n 0, 1) := by decide +kernel
theorem dX9_read_18 : decode cX9_read 18 = .ok (.iconst 0, 1) := by decide +kernel
theorem dX9_read_19 : decode cX9_read 19 = .ok (.putfield 64, 3) := by decide +kernel
theorem dX9_read_22 : decode cX9_read 22 = .ok (.aload_n 0, 1) := by decide +kernel
theorem dX9_read_23 : decode cX9_read 23 = .ok (.iconst 0, 1) := by decide +kernel
theorem dX9_read_24 : decode cX9_read 24 = .ok (.putfield 67, 3) := by decide +kernel
theorem dX9_read_27 : decode cX9_read 27 = .ok (.aload_n 0, 1) := by decide +kernel
theorem dX9_read_28 : decode cX9_read 28 = .ok (.aload_n 2, 1) := by decide +kernel
theorem dX9_read_29 : decode cX9_read 29 = .ok (.iload_n 3, 1) := by decide +kernel
theorem dX9_read_30 : decode cX9_read 30 = .ok (.invokevirtual 70, 3) := by decide +kernel
theorem dX9_read_33 : decode cX9_read 33 = .ok (.iconst 0, 1) := by decide +kernel
theorem dX9_read_34 : decode cX9_read 34 = .ok (.istore 4, 2) := by decide +kernel
theorem dX9_read_36 : decode cX9_read 36 = .ok (.iload 4, 2) := by decide +kernel
theorem dX9_read_38 : decode cX9_read 38 = .ok (.sipush 700, 3) := by decide +kernel
theorem dX9_read_41 : decode cX9_read 41 = .ok (.if_icmp .gt 129, 3) := by decide +kernel
theorem dX9_read_44 : decode cX9_read 44 = .ok (.aload_n 0, 1) := by decide +kernel
theorem dX9_read_45 : decode cX9_read 45 = .ok (.getfield 60, 3) := by decide +kernel
theorem dX9_read_48 : decode cX9_read 48 = .ok (.ifCond .ne 122, 3) := by decide +kernel
theorem dX9_read_51 : decode cX9_read 51 = .ok (.aload_n 0, 1) := by decide +kernel
theorem dX9_read_52 : decode cX9_read 52 = .ok (.invokevirtual 74, 3) := by decide +kernel
theorem dX9_read_55 : decode cX9_read 55 = .ok (.ifCond .eq 115, 3) := by decide +kernel
theorem dX9_read_170 : decode cX9_read 170 = .ok (.aload_n 0, 1) := by decide +kernel
theorem dX9_read_171 : decode cX9_read 171 = .ok (.getfield 60, 3) := by decide +kernel
theorem dX9_read_174 : decode cX9_read 174 = .ok (.ifCond .ne 7, 3) := by decide +kernel
theorem dX9_read_177 : decode cX9_read 177 = .ok (.iconst 1, 1) := by decide +kernel
theorem dX9_read_178 : decode cX9_read 178 = .ok (.goto 4, 3) := by decide +kernel
theorem dX9_read_182 : decode cX9_read 182 = .ok (.ireturn, 1) := by decide +kernel
theorem dX9_scanAll_0 : decode cX9_scanAll 0 = .ok (.aload_n 0, 1) := by decide +kernel
theorem dX9_scanAll_1 : decode cX9_scanAll 1 = .ok (.aload_n 1, 1) := by decide +kernel
theorem dX9_scanAll_2 : decode cX9_scanAll 2 = .ok (.putfield 105, 3) := by decide +kernel
theorem dX9_scanAll_5 : decode cX9_scanAll 5 = .ok (.aload_n 0, 1) := by decide +kernel
theorem dX9_scanAll_6 : decode cX9_scanAll 6 = .ok (.iload_n 2, 1) := by decide +kernel
theorem dX9_scanAll_7 : decode cX9_scanAll 7 = .ok (.putfield 109, 3) := by decide +kernel
theorem dX9_scanAll_10 : decode cX9_scanAll 10 = .ok (.aload_n 0, 1) := by decide +kernel
theorem dX9_scanAll_11 : decode cX9_scanAll 11 = .ok (.iconst 0, 1) := by decide +kernel
theorem dX9_scanAll_12 : decode cX9_scanAll 12 = .ok (.putfield 111, 3) := by decide +kernel
theorem dX9_scanAll_15 : decode cX9_scanAll 15 = .ok (.aload_n 0, 1) := by decide +kernel
theorem dX9_scanAll_16 : decode cX9_scanAll 16 = .ok (.iconst 0, 1) := by decide +kernel
theorem dX9_scanAll_17 : decode cX9_scanAll 17 = .ok (.putfield 114, 3) := by decide +kernel
theorem dX9_scanAll_20 : decode cX9_scanAll 20 = .ok (.iconst 0, 1) := by decide +kernel
theorem dX9_scanAll_21 : decode cX9_scanAll 21 = .ok (.istore_n 3, 1) := by decide +kernel
theorem dX9_scanAll_22 : decode cX9_scanAll 22 = .ok (.iconst 0, 1) := by decide +kernel
theorem dX9_scanAll_23 : decode cX9_scanAll 23 = .ok (.istore 4, 2) := by decide +kernel
theorem dX9_scanAll_25 : decode cX9_scanAll 25 = .ok (.iload 4, 2) := by decide +kernel
theorem dX9_scanAll_27 : decode cX9_scanAll 27 = .ok (.sipush 702, 3) := by decide +kernel
theorem dX9_scanAll_30 : decode cX9_scanAll 30 = .ok (.if_icmp .ge 19, 3) := by decide +kernel
theorem dX9_scanAll_33 : decode cX9_scanAll 33 = .ok (.iload_n 3, 1) := by decide +kernel
theorem dX9_scanAll_34 : decode cX9_scanAll 34 = .ok (.ifCond .lt 15, 3) := by decide +kernel
theorem dX9_scanAll_37 : decode cX9_scanAll 37 = .ok (.aload_n 0, 1) := by decide +kernel
theorem dX9_scanAll_38 : decode cX9_scanAll 38 = .ok (.iload_n 3, 1) := by decide +kernel
theorem dX9_scanAll_39 : decode cX9_scanAll 39 = .ok (.invokevirtual 117, 3) := by decide +kernel
theorem dX9_scanAll_42 : decode cX9_scanAll 42 = .ok (.istore_n 3, 1) := by decide +kernel
theorem dX9_scanAll_43 : decode cX9_scanAll 43 = .ok (.iinc 4 1, 3) := by decide +kernel
theorem dX9_scanAll_46 : decode cX9_scanAll 46 = .ok (.goto (-21), 3) := by decide +kernel
theorem dX9_scanAll_49 : decode cX9_scanAll 49 = .ok (.aload_n 0, 1) := by decide +kernel
theorem dX9_scanAll_50 : decode cX9_scanAll 50 = .ok (.getfield 15, 3) := by decide +kernel
theorem dX9_scanAll_53 : decode cX9_scanAll 53 = .ok (.aload_n 0, 1) := by decide +kernel
theorem dX9_scanAll_54 : decode cX9_scanAll 54 = .ok (.getfield 111, 3) := by decide +kernel
theorem dX9_scanAll_57 : decode cX9_scanAll 57 = .ok (.iconst 0, 1) := by decide +kernel
theorem dX9_scanAll_58 : decode cX9_scanAll 58 = .ok (.iastore, 1) := by decide +kernel
theorem dX9_scanAll_59 : decode cX9_scanAll 59 = .ok (.aload_n 0, 1) := by decide +kernel
theorem dX9_scanAll_60 : decode cX9_scanAll 60 = .ok (.getfield 19, 3) := by decide +kernel
theorem dX9_scanAll_63 : decode cX9_scanAll 63 = .ok (.aload_n 0, 1) := by decide +kernel
theorem dX9_scanAll_64 : decode cX9_scanAll 64 = .ok (.getfield 111, 3) := by decide +kernel
theorem dX9_scanAll_67 : decode cX9_scanAll 67 = .ok (.aload_n 0, 1) := by decide +kernel
theorem dX9_scanAll_68 : decode cX9_scanAll 68 = .ok (.getfield 109, 3) := by decide +kernel
theorem dX9_scanAll_71 : decode cX9_scanAll 71 = .ok (.iastore, 1) := by decide +kernel
theorem dX9_scanAll_72 : decode cX9_scanAll 72 = .ok (.aload_n 0, 1) := by decide +kernel
theorem dX9_scanAll_73 : decode cX9_scanAll 73 = .ok (.getfield 22, 3) := by decide +kernel
theorem dX9_scanAll_76 : decode cX9_scanAll 76 = .ok (.aload_n 0, 1) := by decide +kernel
theorem dX9_scanAll_77 : decode cX9_scanAll 77 = .ok (.getfield 111, 3) := by decide +kernel
theorem dX9_scanAll_80 : decode cX9_scanAll 80 = .ok (.aload_n 0, 1) := by decide +kernel
theorem dX9_scanAll_81 : decode cX9_scanAll 81 = .ok (.getfield 109, 3) := by decide +kernel
theorem dX9_scanAll_84 : decode cX9_scanAll 84 = .ok (.iastore, 1) := by decide +kernel
theorem dX9_scanAll_85 : decode cX9_scanAll 85 = .ok (.return_, 1) := by decide +kernel
theorem dX9_isCall_0 : decode cX9_isCall 0 = .ok (.aload_n 0, 1) := by decide +kernel
theorem dX9_isCall_1 : decode cX9_isCall 1 = .ok (.aload_n 1, 1) := by decide +kernel
theorem dX9_isCall_2 : decode cX9_isCall 2 = .ok (.iload_n 2, 1) := by decide +kernel
theorem dX9_isCall_3 : decode cX9_isCall 3 = .ok (.invokevirtual 70, 3) := by decide +kernel
theorem dX9_isCall_6 : decode cX9_isCall 6 = .ok (.aload_n 0, 1) := by decide +kernel

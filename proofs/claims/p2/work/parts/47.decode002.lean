theorem dX0_whereLooked_108 : decode cX0_whereLooked 108 = .ok (.aload_n 0, 1) := by decide +kernel
theorem dX0_whereLooked_109 : decode cX0_whereLooked 109 = .ok (.getfield 35, 3) := by decide +kernel
theorem dX0_whereLooked_112 : decode cX0_whereLooked 112 = .ok (.getfield 366, 3) := by decide +kernel
theorem dX0_whereLooked_115 : decode cX0_whereLooked 115 = .ok (.iload_n 1, 1) := by decide +kernel
theorem dX0_whereLooked_116 : decode cX0_whereLooked 116 = .ok (.bipush 64, 2) := by decide +kernel
theorem dX0_whereLooked_118 : decode cX0_whereLooked 118 = .ok (.imul, 1) := by decide +kernel
theorem dX0_whereLooked_119 : decode cX0_whereLooked 119 = .ok (.iload 6, 2) := by decide +kernel
theorem dX0_whereLooked_121 : decode cX0_whereLooked 121 = .ok (.iadd, 1) := by decide +kernel
theorem dX0_whereLooked_122 : decode cX0_whereLooked 122 = .ok (.iaload, 1) := by decide +kernel
theorem dX0_whereLooked_123 : decode cX0_whereLooked 123 = .ok (.iastore, 1) := by decide +kernel
theorem dX0_whereLooked_124 : decode cX0_whereLooked 124 = .ok (.iinc 3 1, 3) := by decide +kernel
theorem dX0_whereLooked_127 : decode cX0_whereLooked 127 = .ok (.iinc 6 1, 3) := by decide +kernel
theorem dX0_whereLooked_130 : decode cX0_whereLooked 130 = .ok (.goto (-34), 3) := by decide +kernel
theorem dX0_whereLooked_133 : decode cX0_whereLooked 133 = .ok (.iload_n 3, 1) := by decide +kernel
theorem dX0_whereLooked_134 : decode cX0_whereLooked 134 = .ok (.ireturn, 1) := by decide +kernel
theorem dX0_consider_0 : decode cX0_consider 0 = .ok (.iconst 0, 1) := by decide +kernel
theorem dX0_consider_1 : decode cX0_consider 1 = .ok (.istore_n 3, 1) := by decide +kernel
theorem dX0_consider_2 : decode cX0_consider 2 = .ok (.aload_n 2, 1) := by decide +kernel
theorem dX0_consider_3 : decode cX0_consider 3 = .ok (.astore 4, 2) := by decide +kernel
theorem dX0_consider_5 : decode cX0_consider 5 = .ok (.aload 4, 2) := by decide +kernel
theorem dX0_consider_7 : decode cX0_consider 7 = .ok (.ifnull 43, 3) := by decide +kernel
theorem dX0_consider_10 : decode cX0_consider 10 = .ok (.iload_n 3, 1) := by decide +kernel
theorem dX0_consider_11 : decode cX0_consider 11 = .ok (.iconst 4, 1) := by decide +kernel
theorem dX0_consider_12 : decode cX0_consider 12 = .ok (.if_icmp .ge 38, 3) := by decide +kernel
theorem dX0_consider_15 : decode cX0_consider 15 = .ok (.aload_n 0, 1) := by decide +kernel
theorem dX0_consider_16 : decode cX0_consider 16 = .ok (.getfield 35, 3) := by decide +kernel
theorem dX0_consider_19 : decode cX0_consider 19 = .ok (.aload 4, 2) := by decide +kernel
theorem dX0_consider_21 : decode cX0_consider 21 = .ok (.getfield 245, 3) := by decide +kernel
theorem dX0_consider_24 : decode cX0_consider 24 = .ok (.aload_n 1, 1) := by decide +kernel
theorem dX0_consider_25 : decode cX0_consider 25 = .ok (.getfield 216, 3) := by decide +kernel
theorem dX0_consider_28 : decode cX0_consider 28 = .ok (.iload_n 3, 1) := by decide +kernel
theorem dX0_consider_29 : decode cX0_consider 29 = .ok (.laload, 1) := by decide +kernel
theorem dX0_consider_30 : decode cX0_consider 30 = .ok (.invokevirtual 246, 3) := by decide +kernel
theorem dX0_consider_33 : decode cX0_consider 33 = .ok (.ifCond .ne 4, 3) := by decide +kernel
theorem dX0_consider_36 : decode cX0_consider 36 = .ok (.return_, 1) := by decide +kernel
theorem dX0_consider_37 : decode cX0_consider 37 = .ok (.iinc 3 1, 3) := by decide +kernel
theorem dX0_consider_40 : decode cX0_consider 40 = .ok (.aload 4, 2) := by decide +kernel
theorem dX0_consider_42 : decode cX0_consider 42 = .ok (.getfield 191, 3) := by decide +kernel
theorem dX0_consider_45 : decode cX0_consider 45 = .ok (.astore 4, 2) := by decide +kernel
theorem dX0_consider_47 : decode cX0_consider 47 = .ok (.goto (-42), 3) := by decide +kernel
theorem dX0_consider_50 : decode cX0_consider 50 = .ok (.iconst 0, 1) := by decide +kernel
theorem dX0_consider_51 : decode cX0_consider 51 = .ok (.istore 4, 2) := by decide +kernel
theorem dX0_consider_53 : decode cX0_consider 53 = .ok (.iload 4, 2) := by decide +kernel
theorem dX0_consider_55 : decode cX0_consider 55 = .ok (.aload_n 0, 1) := by decide +kernel
theorem dX0_consider_56 : decode cX0_consider 56 = .ok (.getfield 350, 3) := by decide +kernel
theorem dX0_consider_59 : decode cX0_consider 59 = .ok (.if_icmp .ge 24, 3) := by decide +kernel
theorem dX0_consider_62 : decode cX0_consider 62 = .ok (.aload_n 0, 1) := by decide +kernel
theorem dX0_consider_63 : decode cX0_consider 63 = .ok (.getfield 20, 3) := by decide +kernel
theorem dX0_consider_66 : decode cX0_consider 66 = .ok (.iload 4, 2) := by decide +kernel
theorem dX0_consider_68 : decode cX0_consider 68 = .ok (.aaload, 1) := by decide +kernel
theorem dX0_consider_69 : decode cX0_consider 69 = .ok (.aload_n 1, 1) := by decide +kernel
theorem dX0_consider_70 : decode cX0_consider 70 = .ok (.invokevirtual 369, 3) := by decide +kernel
theorem dX0_consider_73 : decode cX0_consider 73 = .ok (.ifCond .eq 4, 3) := by decide +kernel
theorem dX0_consider_76 : decode cX0_consider 76 = .ok (.return_, 1) := by decide +kernel
theorem dX0_consider_77 : decode cX0_consider 77 = .ok (.iinc 4 1, 3) := by decide +kernel
theorem dX0_consider_80 : decode cX0_consider 80 = .ok (.goto (-27), 3) := by decide +kernel
theorem dX0_consider_83 : decode cX0_consider 83 = .ok (.aload_n 0, 1) := by decide +kernel
theorem dX0_consider_84 : decode cX0_consider 84 = .ok (.getfield 350, 3) := by decide +kernel
theorem dX0_consider_87 : decode cX0_consider 87 = .ok (.aload_n 0, 1) := by decide +kernel
theorem dX0_consider_88 : decode cX0_consider 88 = .ok (.getfield 20, 3) := by decide +kernel
theorem dX0_consider_91 : decode cX0_consider 91 = .ok (.arraylength, 1) := by decide +kernel
theorem dX0_consider_92 : decode cX0_consider 92 = .ok (.if_icmp .ge 23, 3) := by decide +kernel
theorem dX0_consider_95 : decode cX0_consider 95 = .ok (.aload_n 0, 1) := by decide +kernel
theorem dX0_consider_96 : decode cX0_consider 96 = .ok (.getfield 20, 3) := by decide +kernel
theorem dX0_consider_99 : decode cX0_consider 99 = .ok (.aload_n 0, 1) := by decide +kernel
theorem dX0_consider_100 : decode cX0_consider 100 = .ok (.getfield 350, 3) := by decide +kernel
theorem dX0_consider_103 : decode cX0_consider 103 = .ok (.aload_n 1, 1) := by decide +kernel
theorem dX0_consider_104 : decode cX0_consider 104 = .ok (.aastore, 1) := by decide +kernel
theorem dX0_consider_105 : decode cX0_consider 105 = .ok (.aload_n 0, 1) := by decide +kernel
theorem dX0_consider_106 : decode cX0_consider 106 = .ok (.dup, 1) := by decide +kernel
theorem dX0_consider_107 : decode cX0_consider 107 = .ok (.getfield 350, 3) := by decide +kernel
theorem dX0_consider_110 : decode cX0_consider 110 = .ok (.iconst 1, 1) := by decide +kernel
theorem dX0_consider_111 : decode cX0_consider 111 = .ok (.iadd, 1) := by decide +kernel
theorem dX0_consider_112 : decode cX0_consider 112 = .ok (.putfield 350, 3) := by decide +kernel
theorem dX0_consider_115 : decode cX0_consider 115 = .ok (.return_, 1) := by decide +kernel
theorem dX1_init_0 : decode cX1_init 0 = .ok (.aload_n 0, 1) := by decide +kernel
theorem dX1_init_1 : decode cX1_init 1 = .ok (.invokespecial 3, 3) := by decide +kernel
theorem dX1_init_4 : decode cX1_init 4 = .ok (.aload_n 0, 1) := by decide +kernel
theorem dX1_init_5 : decode cX1_init 5 = .ok (.iload_n 1, 1) := by decide +kernel
theorem dX1_init_6 : decode cX1_init 6 = .ok (.anewarray 9, 3) := by decide +kernel
theorem dX1_init_9 : decode cX1_init 9 = .ok (.putfield 11, 3) := by decide +kernel
theorem dX1_init_12 : decode cX1_init 12 = .ok (.iconst 0, 1) := by decide +kernel
theorem dX1_init_13 : decode cX1_init 13 = .ok (.istore 7, 2) := by decide +kernel
theorem dX1_init_15 : decode cX1_init 15 = .ok (.iload 7, 2) := by decide +kernel
theorem dX1_init_17 : decode cX1_init 17 = .ok (.iload_n 1, 1) := by decide +kernel
theorem dX1_init_18 : decode cX1_init 18 = .ok (.if_icmp .ge 23, 3) := by decide +kernel
theorem dX1_init_21 : decode cX1_init 21 = .ok (.aload_n 0, 1) := by decide +kernel
theorem dX1_init_22 : decode cX1_init 22 = .ok (.getfield 11, 3) := by decide +kernel
theorem dX1_init_25 : decode cX1_init 25 = .ok (.iload 7, 2) := by decide +kernel
theorem dX1_init_27 : decode cX1_init 27 = .ok (.new 9, 3) := by decide +kernel
theorem dX1_init_30 : decode cX1_init 30 = .ok (.dup, 1) := by decide +kernel
theorem dX1_init_31 : decode cX1_init 31 = .ok (.invokespecial 17, 3) := by decide +kernel
theorem dX1_init_34 : decode cX1_init 34 = .ok (.aastore, 1) := by decide +kernel
theorem dX1_init_35 : decode cX1_init 35 = .ok (.iinc 7 1, 3) := by decide +kernel
theorem dX1_init_38 : decode cX1_init 38 = .ok (.goto (-23), 3) := by decide +kernel
theorem dX1_init_41 : decode cX1_init 41 = .ok (.aload_n 0, 1) := by decide +kernel
theorem dX1_init_42 : decode cX1_init 42 = .ok (.iload_n 2, 1) := by decide +kernel
theorem dX1_init_43 : decode cX1_init 43 = .ok (.anewarray 18, 3) := by decide +kernel
theorem dX1_init_46 : decode cX1_init 46 = .ok (.putfield 20, 3) := by decide +kernel
theorem dX1_init_49 : decode cX1_init 49 = .ok (.iconst 0, 1) := by decide +kernel
theorem dX1_init_50 : decode cX1_init 50 = .ok (.istore 7, 2) := by decide +kernel
theorem dX1_init_52 : decode cX1_init 52 = .ok (.iload 7, 2) := by decide +kernel
theorem dX1_init_54 : decode cX1_init 54 = .ok (.iload_n 2, 1) := by decide +kernel
theorem dX1_init_55 : decode cX1_init 55 = .ok (.if_icmp .ge 23, 3) := by decide +kernel
theorem dX1_init_58 : decode cX1_init 58 = .ok (.aload_n 0, 1) := by decide +kernel
theorem dX1_init_59 : decode cX1_init 59 = .ok (.getfield 20, 3) := by decide +kernel
theorem dX1_init_62 : decode cX1_init 62 = .ok (.iload 7, 2) := by decide +kernel
theorem dX1_init_64 : decode cX1_init 64 = .ok (.new 18, 3) := by decide +kernel
theorem dX1_init_67 : decode cX1_init 67 = .ok (.dup, 1) := by decide +kernel
theorem dX1_init_68 : decode cX1_init 68 = .ok (.invokespecial 24, 3) := by decide +kernel
theorem dX1_init_71 : decode cX1_init 71 = .ok (.aastore, 1) := by decide +kernel
theorem dX1_init_72 : decode cX1_init 72 = .ok (.iinc 7 1, 3) := by decide +kernel
theorem dX1_init_75 : decode cX1_init 75 = .ok (.goto (-23), 3) := by decide +kernel
theorem dX1_init_78 : decode cX1_init 78 = .ok (.aload_n 0, 1) := by decide +kernel
theorem dX1_init_79 : decode cX1_init 79 = .ok (.iload_n 3, 1) := by decide +kernel
theorem dX1_init_80 : decode cX1_init 80 = .ok (.newarray .byte, 2) := by decide +kernel
theorem dX1_init_82 : decode cX1_init 82 = .ok (.putfield 25, 3) := by decide +kernel
theorem dX1_init_85 : decode cX1_init 85 = .ok (.aload_n 0, 1) := by decide +kernel
theorem dX1_init_86 : decode cX1_init 86 = .ok (.iload 4, 2) := by decide +kernel
theorem dX1_init_88 : decode cX1_init 88 = .ok (.newarray .int, 2) := by decide +kernel
theorem dX1_init_90 : decode cX1_init 90 = .ok (.putfield 29, 3) := by decide +kernel
theorem dX1_init_93 : decode cX1_init 93 = .ok (.aload_n 0, 1) := by decide +kernel
theorem dX1_init_94 : decode cX1_init 94 = .ok (.iload 4, 2) := by decide +kernel
theorem dX1_init_96 : decode cX1_init 96 = .ok (.newarray .int, 2) := by decide +kernel
theorem dX1_init_98 : decode cX1_init 98 = .ok (.putfield 33, 3) := by decide +kernel
theorem dX1_init_101 : decode cX1_init 101 = .ok (.aload_n 0, 1) := by decide +kernel
theorem dX1_init_102 : decode cX1_init 102 = .ok (.iload 5, 2) := by decide +kernel
theorem dX1_init_104 : decode cX1_init 104 = .ok (.newarray .int, 2) := by decide +kernel
theorem dX1_init_106 : decode cX1_init 106 = .ok (.putfield 36, 3) := by decide +kernel
theorem dX1_init_109 : decode cX1_init 109 = .ok (.aload_n 0, 1) := by decide +kernel
theorem dX1_init_110 : decode cX1_init 110 = .ok (.iload 5, 2) := by decide +kernel
theorem dX1_init_112 : decode cX1_init 112 = .ok (.newarray .int, 2) := by decide +kernel
theorem dX1_init_114 : decode cX1_init 114 = .ok (.putfield 39, 3) := by decide +kernel
theorem dX1_init_117 : decode cX1_init 117 = .ok (.aload_n 0, 1) := by decide +kernel
theorem dX1_init_118 : decode cX1_init 118 = .ok (.iload 5, 2) := by decide +kernel
theorem dX1_init_120 : decode cX1_init 120 = .ok (.newarray .long, 2) := by decide +kernel
theorem dX1_init_122 : decode cX1_init 122 = .ok (.putfield 42, 3) := by decide +kernel
theorem dX1_init_125 : decode cX1_init 125 = .ok (.aload_n 0, 1) := by decide +kernel
theorem dX1_init_126 : decode cX1_init 126 = .ok (.iload 5, 2) := by decide +kernel
theorem dX1_init_128 : decode cX1_init 128 = .ok (.anewarray 18, 3) := by decide +kernel
theorem dX1_init_131 : decode cX1_init 131 = .ok (.putfield 46, 3) := by decide +kernel
theorem dX1_init_134 : decode cX1_init 134 = .ok (.aload_n 0, 1) := by decide +kernel
theorem dX1_init_135 : decode cX1_init 135 = .ok (.iload 5, 2) := by decide +kernel
theorem dX1_init_137 : decode cX1_init 137 = .ok (.newarray .long, 2) := by decide +kernel
theorem dX1_init_139 : decode cX1_init 139 = .ok (.putfield 49, 3) := by decide +kernel
theorem dX1_init_142 : decode cX1_init 142 = .ok (.aload_n 0, 1) := by decide +kernel
theorem dX1_init_143 : decode cX1_init 143 = .ok (.iload 6, 2) := by decide +kernel
theorem dX1_init_145 : decode cX1_init 145 = .ok (.newarray .int, 2) := by decide +kernel
theorem dX1_init_147 : decode cX1_init 147 = .ok (.putfield 52, 3) := by decide +kernel
theorem dX1_init_150 : decode cX1_init 150 = .ok (.return_, 1) := by decide +kernel
theorem dX1_clear_0 : decode cX1_clear 0 = .ok (.aload_n 0, 1) := by decide +kernel
theorem dX1_clear_1 : decode cX1_clear 1 = .ok (.iconst 0, 1) := by decide +kernel
theorem dX1_clear_2 : decode cX1_clear 2 = .ok (.putfield 55, 3) := by decide +kernel
theorem dX1_clear_5 : decode cX1_clear 5 = .ok (.aload_n 0, 1) := by decide +kernel
theorem dX1_clear_6 : decode cX1_clear 6 = .ok (.iconst 0, 1) := by decide +kernel
theorem dX1_clear_7 : decode cX1_clear 7 = .ok (.putfield 59, 3) := by decide +kernel
theorem dX1_clear_10 : decode cX1_clear 10 = .ok (.aload_n 0, 1) := by decide +kernel
theorem dX1_clear_11 : decode cX1_clear 11 = .ok (.iconst 0, 1) := by decide +kernel
theorem dX1_clear_12 : decode cX1_clear 12 = .ok (.putfield 62, 3) := by decide +kernel
theorem dX1_clear_15 : decode cX1_clear 15 = .ok (.aload_n 0, 1) := by decide +kernel
theorem dX1_clear_16 : decode cX1_clear 16 = .ok (.iconst 0, 1) := by decide +kernel
theorem dX1_clear_17 : decode cX1_clear 17 = .ok (.putfield 65, 3) := by decide +kernel
theorem dX1_clear_20 : decode cX1_clear 20 = .ok (.aload_n 0, 1) := by decide +kernel
theorem dX1_clear_21 : decode cX1_clear 21 = .ok (.iconst 0, 1) := by decide +kernel
theorem dX1_clear_22 : decode cX1_clear 22 = .ok (.putfield 68, 3) := by decide +kernel
theorem dX1_clear_25 : decode cX1_clear 25 = .ok (.return_, 1) := by decide +kernel
theorem dX1_newRow_0 : decode cX1_newRow 0 = .ok (.aload_n 0, 1) := by decide +kernel
theorem dX1_newRow_1 : decode cX1_newRow 1 = .ok (.getfield 55, 3) := by decide +kernel
theorem dX1_newRow_4 : decode cX1_newRow 4 = .ok (.aload_n 0, 1) := by decide +kernel
theorem dX1_newRow_5 : decode cX1_newRow 5 = .ok (.getfield 11, 3) := by decide +kernel
theorem dX1_newRow_8 : decode cX1_newRow 8 = .ok (.arraylength, 1) := by decide +kernel
theorem dX1_newRow_9 : decode cX1_newRow 9 = .ok (.if_icmp .lt 5, 3) := by decide +kernel
theorem dX1_newRow_12 : decode cX1_newRow 12 = .ok (.aconst_null, 1) := by decide +kernel
theorem dX1_newRow_13 : decode cX1_newRow 13 = .ok (.areturn, 1) := by decide +kernel
theorem dX1_newRow_14 : decode cX1_newRow 14 = .ok (.aload_n 0, 1) := by decide +kernel
theorem dX1_newRow_15 : decode cX1_newRow 15 = .ok (.getfield 11, 3) := by decide +kernel
theorem dX1_newRow_18 : decode cX1_newRow 18 = .ok (.aload_n 0, 1) := by decide +kernel
theorem dX1_newRow_19 : decode cX1_newRow 19 = .ok (.getfield 55, 3) := by decide +kernel
theorem dX1_newRow_22 : decode cX1_newRow 22 = .ok (.aaload, 1) := by decide +kernel
theorem dX1_newRow_23 : decode cX1_newRow 23 = .ok (.astore_n 1, 1) := by decide +kernel
theorem dX1_newRow_24 : decode cX1_newRow 24 = .ok (.aload_n 0, 1) := by decide +kernel
theorem dX1_newRow_25 : decode cX1_newRow 25 = .ok (.dup, 1) := by decide +kernel
theorem dX1_newRow_26 : decode cX1_newRow 26 = .ok (.getfield 55, 3) := by decide +kernel
theorem dX1_newRow_29 : decode cX1_newRow 29 = .ok (.iconst 1, 1) := by decide +kernel
theorem dX1_newRow_30 : decode cX1_newRow 30 = .ok (.iadd, 1) := by decide +kernel
theorem dX1_newRow_31 : decode cX1_newRow 31 = .ok (.putfield 55, 3) := by decide +kernel
theorem dX1_newRow_34 : decode cX1_newRow 34 = .ok (.aload_n 1, 1) := by decide +kernel
theorem dX1_newRow_35 : decode cX1_newRow 35 = .ok (.aload_n 0, 1) := by decide +kernel
theorem dX1_newRow_36 : decode cX1_newRow 36 = .ok (.invokevirtual 71, 3) := by decide +kernel
theorem dX1_newRow_39 : decode cX1_newRow 39 = .ok (.aload_n 1, 1) := by decide +kernel
theorem dX1_newRow_40 : decode cX1_newRow 40 = .ok (.areturn, 1) := by decide +kernel
theorem dX1_newMember_0 : decode cX1_newMember 0 = .ok (.aload_n 0, 1) := by decide +kernel
theorem dX1_newMember_1 : decode cX1_newMember 1 = .ok (.getfield 59, 3) := by decide +kernel
theorem dX1_newMember_4 : decode cX1_newMember 4 = .ok (.aload_n 0, 1) := by decide +kernel
theorem dX1_newMember_5 : decode cX1_newMember 5 = .ok (.getfield 20, 3) := by decide +kernel
theorem dX1_newMember_8 : decode cX1_newMember 8 = .ok (.arraylength, 1) := by decide +kernel
theorem dX1_newMember_9 : decode cX1_newMember 9 = .ok (.if_icmp .lt 14, 3) := by decide +kernel
theorem dX1_newMember_12 : decode cX1_newMember 12 = .ok (.aload_n 0, 1) := by decide +kernel
theorem dX1_newMember_13 : decode cX1_newMember 13 = .ok (.aload_n 0, 1) := by decide +kernel
theorem dX1_newMember_14 : decode cX1_newMember 14 = .ok (.getfield 20, 3) := by decide +kernel
theorem dX1_newMember_17 : decode cX1_newMember 17 = .ok (.arraylength, 1) := by decide +kernel
theorem dX1_newMember_18 : decode cX1_newMember 18 = .ok (.iconst 1, 1) := by decide +kernel
theorem dX1_newMember_19 : decode cX1_newMember 19 = .ok (.isub, 1) := by decide +kernel
theorem dX1_newMember_20 : decode cX1_newMember 20 = .ok (.putfield 59, 3) := by decide +kernel
theorem dX1_newMember_23 : decode cX1_newMember 23 = .ok (.aload_n 0, 1) := by decide +kernel
theorem dX1_newMember_24 : decode cX1_newMember 24 = .ok (.getfield 20, 3) := by decide +kernel
theorem dX1_newMember_27 : decode cX1_newMember 27 = .ok (.aload_n 0, 1) := by decide +kernel
theorem dX1_newMember_28 : decode cX1_newMember 28 = .ok (.getfield 59, 3) := by decide +kernel
theorem dX1_newMember_31 : decode cX1_newMember 31 = .ok (.aaload, 1) := by decide +kernel
theorem dX1_newMember_32 : decode cX1_newMember 32 = .ok (.astore_n 1, 1) := by decide +kernel
theorem dX1_newMember_33 : decode cX1_newMember 33 = .ok (.aload_n 0, 1) := by decide +kernel
theorem dX1_newMember_34 : decode cX1_newMember 34 = .ok (.dup, 1) := by decide +kernel
theorem dX1_newMember_35 : decode cX1_newMember 35 = .ok (.getfield 59, 3) := by decide +kernel
theorem dX1_newMember_38 : decode cX1_newMember 38 = .ok (.iconst 1, 1) := by decide +kernel
theorem dX1_newMember_39 : decode cX1_newMember 39 = .ok (.iadd, 1) := by decide +kernel
theorem dX1_newMember_40 : decode cX1_newMember 40 = .ok (.putfield 59, 3) := by decide +kernel
theorem dX1_newMember_43 : decode cX1_newMember 43 = .ok (.aload_n 1, 1) := by decide +kernel
theorem dX1_newMember_44 : decode cX1_newMember 44 = .ok (.invokevirtual 75, 3) := by decide +kernel
theorem dX1_newMember_47 : decode cX1_newMember 47 = .ok (.aload_n 1, 1) := by decide +kernel
theorem dX1_newMember_48 : decode cX1_newMember 48 = .ok (.areturn, 1) := by decide +kernel
theorem dX1_indexOf_0 : decode cX1_indexOf 0 = .ok (.iconst 0, 1) := by decide +kernel
theorem dX1_indexOf_1 : decode cX1_indexOf 1 = .ok (.istore_n 2, 1) := by decide +kernel
theorem dX1_indexOf_2 : decode cX1_indexOf 2 = .ok (.iload_n 2, 1) := by decide +kernel
theorem dX1_indexOf_3 : decode cX1_indexOf 3 = .ok (.aload_n 0, 1) := by decide +kernel
theorem dX1_indexOf_4 : decode cX1_indexOf 4 = .ok (.getfield 55, 3) := by decide +kernel
theorem dX1_indexOf_7 : decode cX1_indexOf 7 = .ok (.if_icmp .ge 21, 3) := by decide +kernel
theorem dX1_indexOf_10 : decode cX1_indexOf 10 = .ok (.aload_n 0, 1) := by decide +kernel
theorem dX1_indexOf_11 : decode cX1_indexOf 11 = .ok (.getfield 11, 3) := by decide +kernel
theorem dX1_indexOf_14 : decode cX1_indexOf 14 = .ok (.iload_n 2, 1) := by decide +kernel
theorem dX1_indexOf_15 : decode cX1_indexOf 15 = .ok (.aaload, 1) := by decide +kernel
theorem dX1_indexOf_16 : decode cX1_indexOf 16 = .ok (.aload_n 1, 1) := by decide +kernel
theorem dX1_indexOf_17 : decode cX1_indexOf 17 = .ok (.if_acmp .ne 5, 3) := by decide +kernel
theorem dX1_indexOf_20 : decode cX1_indexOf 20 = .ok (.iload_n 2, 1) := by decide +kernel
theorem dX1_indexOf_21 : decode cX1_indexOf 21 = .ok (.ireturn, 1) := by decide +kernel
theorem dX1_indexOf_22 : decode cX1_indexOf 22 = .ok (.iinc 2 1, 3) := by decide +kernel
theorem dX1_indexOf_25 : decode cX1_indexOf 25 = .ok (.goto (-23), 3) := by decide +kernel
theorem dX1_indexOf_28 : decode cX1_indexOf 28 = .ok (.bipush (-2), 2) := by decide +kernel
theorem dX1_indexOf_30 : decode cX1_indexOf 30 = .ok (.ireturn, 1) := by decide +kernel
theorem dX1_named_0 : decode cX1_named 0 = .ok (.iconst 0, 1) := by decide +kernel
theorem dX1_named_1 : decode cX1_named 1 = .ok (.istore_n 3, 1) := by decide +kernel
theorem dX1_named_2 : decode cX1_named 2 = .ok (.iload_n 3, 1) := by decide +kernel
theorem dX1_named_3 : decode cX1_named 3 = .ok (.aload_n 0, 1) := by decide +kernel
theorem dX1_named_4 : decode cX1_named 4 = .ok (.getfield 55, 3) := by decide +kernel
theorem dX1_named_7 : decode cX1_named 7 = .ok (.if_icmp .ge 30, 3) := by decide +kernel
theorem dX1_named_10 : decode cX1_named 10 = .ok (.aload_n 0, 1) := by decide +kernel
theorem dX1_named_11 : decode cX1_named 11 = .ok (.getfield 11, 3) := by decide +kernel
theorem dX1_named_14 : decode cX1_named 14 = .ok (.iload_n 3, 1) := by decide +kernel
theorem dX1_named_15 : decode cX1_named 15 = .ok (.aaload, 1) := by decide +kernel
theorem dX1_named_16 : decode cX1_named 16 = .ok (.getfield 77, 3) := by decide +kernel
theorem dX1_named_19 : decode cX1_named 19 = .ok (.lload_n 1, 1) := by decide +kernel
theorem dX1_named_20 : decode cX1_named 20 = .ok (.lcmp, 1) := by decide +kernel
theorem dX1_named_21 : decode cX1_named 21 = .ok (.ifCond .ne 10, 3) := by decide +kernel
theorem dX1_named_24 : decode cX1_named 24 = .ok (.aload_n 0, 1) := by decide +kernel
theorem dX1_named_25 : decode cX1_named 25 = .ok (.getfield 11, 3) := by decide +kernel
theorem dX1_named_28 : decode cX1_named 28 = .ok (.iload_n 3, 1) := by decide +kernel
theorem dX1_named_29 : decode cX1_named 29 = .ok (.aaload, 1) := by decide +kernel
theorem dX1_named_30 : decode cX1_named 30 = .ok (.areturn, 1) := by decide +kernel
theorem dX1_named_31 : decode cX1_named 31 = .ok (.iinc 3 1, 3) := by decide +kernel
theorem dX1_named_34 : decode cX1_named 34 = .ok (.goto (-32), 3) := by decide +kernel
theorem dX1_named_37 : decode cX1_named 37 = .ok (.aconst_null, 1) := by decide +kernel
theorem dX1_named_38 : decode cX1_named 38 = .ok (.areturn, 1) := by decide +kernel
theorem dX1_emit_0 : decode cX1_emit 0 = .ok (.aload_n 0, 1) := by decide +kernel
theorem dX1_emit_1 : decode cX1_emit 1 = .ok (.getfield 68, 3) := by decide +kernel
theorem dX1_emit_4 : decode cX1_emit 4 = .ok (.iconst 2, 1) := by decide +kernel
theorem dX1_emit_5 : decode cX1_emit 5 = .ok (.iadd, 1) := by decide +kernel
theorem dX1_emit_6 : decode cX1_emit 6 = .ok (.aload_n 0, 1) := by decide +kernel
theorem dX1_emit_7 : decode cX1_emit 7 = .ok (.getfield 52, 3) := by decide +kernel
theorem dX1_emit_10 : decode cX1_emit 10 = .ok (.arraylength, 1) := by decide +kernel
theorem dX1_emit_11 : decode cX1_emit 11 = .ok (.if_icmp .le 6, 3) := by decide +kernel
theorem dX1_emit_14 : decode cX1_emit 14 = .ok (.bipush (-2), 2) := by decide +kernel
theorem dX1_emit_16 : decode cX1_emit 16 = .ok (.ireturn, 1) := by decide +kernel
theorem dX1_emit_17 : decode cX1_emit 17 = .ok (.aload_n 0, 1) := by decide +kernel
theorem dX1_emit_18 : decode cX1_emit 18 = .ok (.getfield 52, 3) := by decide +kernel
theorem dX1_emit_21 : decode cX1_emit 21 = .ok (.aload_n 0, 1) := by decide +kernel
theorem dX1_emit_22 : decode cX1_emit 22 = .ok (.getfield 68, 3) := by decide +kernel
theorem dX1_emit_25 : decode cX1_emit 25 = .ok (.iload_n 1, 1) := by decide +kernel
theorem dX1_emit_26 : decode cX1_emit 26 = .ok (.iastore, 1) := by decide +kernel
theorem dX1_emit_27 : decode cX1_emit 27 = .ok (.aload_n 0, 1) := by decide +kernel
theorem dX1_emit_28 : decode cX1_emit 28 = .ok (.getfield 52, 3) := by decide +kernel
theorem dX1_emit_31 : decode cX1_emit 31 = .ok (.aload_n 0, 1) := by decide +kernel
theorem dX1_emit_32 : decode cX1_emit 32 = .ok (.getfield 68, 3) := by decide +kernel
theorem dX1_emit_35 : decode cX1_emit 35 = .ok (.iconst 1, 1) := by decide +kernel
theorem dX1_emit_36 : decode cX1_emit 36 = .ok (.iadd, 1) := by decide +kernel
theorem dX1_emit_37 : decode cX1_emit 37 = .ok (.iload_n 2, 1) := by decide +kernel
theorem dX1_emit_38 : decode cX1_emit 38 = .ok (.iastore, 1) := by decide +kernel
theorem dX1_emit_39 : decode cX1_emit 39 = .ok (.aload_n 0, 1) := by decide +kernel
theorem dX1_emit_40 : decode cX1_emit 40 = .ok (.dup, 1) := by decide +kernel
theorem dX1_emit_41 : decode cX1_emit 41 = .ok (.getfield 68, 3) := by decide +kernel
theorem dX1_emit_44 : decode cX1_emit 44 = .ok (.iconst 2, 1) := by decide +kernel
theorem dX1_emit_45 : decode cX1_emit 45 = .ok (.iadd, 1) := by decide +kernel
theorem dX1_emit_46 : decode cX1_emit 46 = .ok (.putfield 68, 3) := by decide +kernel
theorem dX1_emit_49 : decode cX1_emit 49 = .ok (.aload_n 0, 1) := by decide +kernel
theorem dX1_emit_50 : decode cX1_emit 50 = .ok (.getfield 68, 3) := by decide +kernel
theorem dX1_emit_53 : decode cX1_emit 53 = .ok (.iconst 1, 1) := by decide +kernel
theorem dX1_emit_54 : decode cX1_emit 54 = .ok (.isub, 1) := by decide +kernel
theorem dX1_emit_55 : decode cX1_emit 55 = .ok (.ireturn, 1) := by decide +kernel
theorem dX1_patch_0 : decode cX1_patch 0 = .ok (.iload_n 1, 1) := by decide +kernel
theorem dX1_patch_1 : decode cX1_patch 1 = .ok (.ifCond .lt 22, 3) := by decide +kernel
theorem dX1_patch_4 : decode cX1_patch 4 = .ok (.iload_n 1, 1) := by decide +kernel
theorem dX1_patch_5 : decode cX1_patch 5 = .ok (.aload_n 0, 1) := by decide +kernel
theorem dX1_patch_6 : decode cX1_patch 6 = .ok (.getfield 52, 3) := by decide +kernel
theorem dX1_patch_9 : decode cX1_patch 9 = .ok (.arraylength, 1) := by decide +kernel
theorem dX1_patch_10 : decode cX1_patch 10 = .ok (.if_icmp .ge 13, 3) := by decide +kernel
theorem dX1_patch_13 : decode cX1_patch 13 = .ok (.aload_n 0, 1) := by decide +kernel
theorem dX1_patch_14 : decode cX1_patch 14 = .ok (.getfield 52, 3) := by decide +kernel
theorem dX1_patch_17 : decode cX1_patch 17 = .ok (.iload_n 1, 1) := by decide +kernel
theorem dX1_patch_18 : decode cX1_patch 18 = .ok (.aload_n 0, 1) := by decide +kernel
theorem dX1_patch_19 : decode cX1_patch 19 = .ok (.getfield 68, 3) := by decide +kernel
theorem dX1_patch_22 : decode cX1_patch 22 = .ok (.iastore, 1) := by decide +kernel
theorem dX1_patch_23 : decode cX1_patch 23 = .ok (.return_, 1) := by decide +kernel
theorem dX2_init_0 : decode cX2_init 0 = .ok (.aload_n 0, 1) := by decide +kernel
theorem dX2_init_1 : decode cX2_init 1 = .ok (.invokespecial 3, 3) := by decide +kernel
theorem dX2_init_4 : decode cX2_init 4 = .ok (.aload_n 0, 1) := by decide +kernel
theorem dX2_init_5 : decode cX2_init 5 = .ok (.sipush 8000, 3) := by decide +kernel
theorem dX2_init_8 : decode cX2_init 8 = .ok (.newarray .int, 2) := by decide +kernel
theorem dX2_init_10 : decode cX2_init 10 = .ok (.putfield 11, 3) := by decide +kernel
theorem dX2_init_13 : decode cX2_init 13 = .ok (.aload_n 0, 1) := by decide +kernel
theorem dX2_init_14 : decode cX2_init 14 = .ok (.sipush 700, 3) := by decide +kernel
theorem dX2_init_17 : decode cX2_init 17 = .ok (.newarray .int, 2) := by decide +kernel
theorem dX2_init_19 : decode cX2_init 19 = .ok (.putfield 15, 3) := by decide +kernel
theorem dX2_init_22 : decode cX2_init 22 = .ok (.aload_n 0, 1) := by decide +kernel
theorem dX2_init_23 : decode cX2_init 23 = .ok (.sipush 700, 3) := by decide +kernel
theorem dX2_init_26 : decode cX2_init 26 = .ok (.newarray .int, 2) := by decide +kernel
theorem dX2_init_28 : decode cX2_init 28 = .ok (.putfield 18, 3) := by decide +kernel
theorem dX2_init_31 : decode cX2_init 31 = .ok (.return_, 1) := by decide +kernel
theorem dX2_compare_0 : decode cX2_compare 0 = .ok (.aload_n 0, 1) := by decide +kernel
theorem dX2_compare_1 : decode cX2_compare 1 = .ok (.aload_n 1, 1) := by decide +kernel
theorem dX2_compare_2 : decode cX2_compare 2 = .ok (.putfield 21, 3) := by decide +kernel
theorem dX2_compare_5 : decode cX2_compare 5 = .ok (.aload_n 0, 1) := by decide +kernel
theorem dX2_compare_6 : decode cX2_compare 6 = .ok (.aload_n 2, 1) := by decide +kernel
theorem dX2_compare_7 : decode cX2_compare 7 = .ok (.putfield 25, 3) := by decide +kernel
theorem dX2_compare_10 : decode cX2_compare 10 = .ok (.aload_n 0, 1) := by decide +kernel
theorem dX2_compare_11 : decode cX2_compare 11 = .ok (.iload_n 3, 1) := by decide +kernel
theorem dX2_compare_12 : decode cX2_compare 12 = .ok (.putfield 28, 3) := by decide +kernel
theorem dX2_compare_15 : decode cX2_compare 15 = .ok (.iconst 0, 1) := by decide +kernel
theorem dX2_compare_16 : decode cX2_compare 16 = .ok (.istore 4, 2) := by decide +kernel
theorem dX2_compare_18 : decode cX2_compare 18 = .ok (.aload_n 0, 1) := by decide +kernel
theorem dX2_compare_19 : decode cX2_compare 19 = .ok (.iconst 0, 1) := by decide +kernel
theorem dX2_compare_20 : decode cX2_compare 20 = .ok (.putfield 32, 3) := by decide +kernel
theorem dX2_compare_23 : decode cX2_compare 23 = .ok (.aload_n 0, 1) := by decide +kernel
theorem dX2_compare_24 : decode cX2_compare 24 = .ok (.iload_n 3, 1) := by decide +kernel
theorem dX2_compare_25 : decode cX2_compare 25 = .ok (.ifCond .eq 7, 3) := by decide +kernel
theorem dX2_compare_28 : decode cX2_compare 28 = .ok (.iconst 0, 1) := by decide +kernel
theorem dX2_compare_29 : decode cX2_compare 29 = .ok (.goto 7, 3) := by decide +kernel
theorem dX2_compare_32 : decode cX2_compare 32 = .ok (.aload_n 0, 1) := by decide +kernel
theorem dX2_compare_33 : decode cX2_compare 33 = .ok (.getfield 36, 3) := by decide +kernel
theorem dX2_compare_36 : decode cX2_compare 36 = .ok (.putfield 36, 3) := by decide +kernel
theorem dX2_compare_39 : decode cX2_compare 39 = .ok (.aload_n 0, 1) := by decide +kernel
theorem dX2_compare_40 : decode cX2_compare 40 = .ok (.iconst 0, 1) := by decide +kernel
theorem dX2_compare_41 : decode cX2_compare 41 = .ok (.putfield 39, 3) := by decide +kernel
theorem dX2_compare_44 : decode cX2_compare 44 = .ok (.aload_n 0, 1) := by decide +kernel
theorem dX2_compare_45 : decode cX2_compare 45 = .ok (.getfield 39, 3) := by decide +kernel
theorem dX2_compare_48 : decode cX2_compare 48 = .ok (.aload_n 0, 1) := by decide +kernel
theorem dX2_compare_49 : decode cX2_compare 49 = .ok (.getfield 21, 3) := by decide +kernel
theorem dX2_compare_52 : decode cX2_compare 52 = .ok (.getfield 42, 3) := by decide +kernel
theorem dX2_compare_55 : decode cX2_compare 55 = .ok (.if_icmp .ge 207, 3) := by decide +kernel
theorem dX2_compare_58 : decode cX2_compare 58 = .ok (.aload_n 0, 1) := by decide +kernel
theorem dX2_compare_59 : decode cX2_compare 59 = .ok (.getfield 21, 3) := by decide +kernel
theorem dX2_compare_62 : decode cX2_compare 62 = .ok (.getfield 47, 3) := by decide +kernel
theorem dX2_compare_65 : decode cX2_compare 65 = .ok (.aload_n 0, 1) := by decide +kernel
theorem dX2_compare_66 : decode cX2_compare 66 = .ok (.getfield 39, 3) := by decide +kernel
theorem dX2_compare_69 : decode cX2_compare 69 = .ok (.aaload, 1) := by decide +kernel
theorem dX2_compare_70 : decode cX2_compare 70 = .ok (.astore 5, 2) := by decide +kernel
theorem dX2_compare_72 : decode cX2_compare 72 = .ok (.aload_n 0, 1) := by decide +kernel
theorem dX2_compare_73 : decode cX2_compare 73 = .ok (.getfield 25, 3) := by decide +kernel
theorem dX2_compare_76 : decode cX2_compare 76 = .ok (.aload 5, 2) := by decide +kernel
theorem dX2_compare_78 : decode cX2_compare 78 = .ok (.getfield 51, 3) := by decide +kernel
theorem dX2_compare_81 : decode cX2_compare 81 = .ok (.invokevirtual 57, 3) := by decide +kernel
theorem dX2_compare_84 : decode cX2_compare 84 = .ok (.astore 6, 2) := by decide +kernel
theorem dX2_compare_86 : decode cX2_compare 86 = .ok (.aload_n 0, 1) := by decide +kernel
theorem dX2_compare_87 : decode cX2_compare 87 = .ok (.aload 6, 2) := by decide +kernel
theorem dX2_compare_89 : decode cX2_compare 89 = .ok (.ifnonnull 8, 3) := by decide +kernel
theorem dX2_compare_92 : decode cX2_compare 92 = .ok (.bipush (-2), 2) := by decide +kernel
theorem dX2_compare_94 : decode cX2_compare 94 = .ok (.goto 12, 3) := by decide +kernel
theorem dX2_compare_97 : decode cX2_compare 97 = .ok (.aload_n 0, 1) := by decide +kernel
theorem dX2_compare_98 : decode cX2_compare 98 = .ok (.getfield 25, 3) := by decide +kernel
theorem dX2_compare_101 : decode cX2_compare 101 = .ok (.aload 6, 2) := by decide +kernel
theorem dX2_compare_103 : decode cX2_compare 103 = .ok (.invokevirtual 61, 3) := by decide +kernel
theorem dX2_compare_106 : decode cX2_compare 106 = .ok (.putfield 65, 3) := by decide +kernel
theorem dX2_compare_109 : decode cX2_compare 109 = .ok (.aload 6, 2) := by decide +kernel
theorem dX2_compare_111 : decode cX2_compare 111 = .ok (.ifnonnull 20, 3) := by decide +kernel
theorem dX2_compare_114 : decode cX2_compare 114 = .ok (.iload 4, 2) := by decide +kernel
theorem dX2_compare_116 : decode cX2_compare 116 = .ok (.aload_n 0, 1) := by decide +kernel
theorem dX2_compare_117 : decode cX2_compare 117 = .ok (.iconst 1, 1) := by decide +kernel
theorem dX2_compare_118 : decode cX2_compare 118 = .ok (.bipush (-2), 2) := by decide +kernel
theorem dX2_compare_120 : decode cX2_compare 120 = .ok (.bipush (-2), 2) := by decide +kernel
theorem dX2_compare_122 : decode cX2_compare 122 = .ok (.invokevirtual 68, 3) := by decide +kernel
theorem dX2_compare_125 : decode cX2_compare 125 = .ok (.iadd, 1) := by decide +kernel
theorem dX2_compare_126 : decode cX2_compare 126 = .ok (.istore 4, 2) := by decide +kernel
theorem dX2_compare_128 : decode cX2_compare 128 = .ok (.goto 121, 3) := by decide +kernel
theorem dX2_compare_131 : decode cX2_compare 131 = .ok (.aload 5, 2) := by decide +kernel
theorem dX2_compare_133 : decode cX2_compare 133 = .ok (.getfield 72, 3) := by decide +kernel
theorem dX2_compare_136 : decode cX2_compare 136 = .ok (.aload 6, 2) := by decide +kernel
theorem dX2_compare_138 : decode cX2_compare 138 = .ok (.getfield 72, 3) := by decide +kernel
theorem dX2_compare_141 : decode cX2_compare 141 = .ok (.if_icmp .eq 20, 3) := by decide +kernel
theorem dX2_compare_144 : decode cX2_compare 144 = .ok (.iload 4, 2) := by decide +kernel
theorem dX2_compare_146 : decode cX2_compare 146 = .ok (.aload_n 0, 1) := by decide +kernel
theorem dX2_compare_147 : decode cX2_compare 147 = .ok (.iconst 2, 1) := by decide +kernel
theorem dX2_compare_148 : decode cX2_compare 148 = .ok (.bipush (-2), 2) := by decide +kernel
theorem dX2_compare_150 : decode cX2_compare 150 = .ok (.bipush (-2), 2) := by decide +kernel
theorem dX2_compare_152 : decode cX2_compare 152 = .ok (.invokevirtual 68, 3) := by decide +kernel
theorem dX2_compare_155 : decode cX2_compare 155 = .ok (.iadd, 1) := by decide +kernel
theorem dX2_compare_156 : decode cX2_compare 156 = .ok (.istore 4, 2) := by decide +kernel
theorem dX2_compare_158 : decode cX2_compare 158 = .ok (.goto 91, 3) := by decide +kernel
theorem dX2_compare_161 : decode cX2_compare 161 = .ok (.iload 4, 2) := by decide +kernel
theorem dX2_compare_163 : decode cX2_compare 163 = .ok (.aload_n 0, 1) := by decide +kernel
theorem dX2_compare_164 : decode cX2_compare 164 = .ok (.aload 5, 2) := by decide +kernel
theorem dX2_compare_166 : decode cX2_compare 166 = .ok (.aload 6, 2) := by decide +kernel
theorem dX2_compare_168 : decode cX2_compare 168 = .ok (.invokevirtual 75, 3) := by decide +kernel
theorem dX2_compare_171 : decode cX2_compare 171 = .ok (.aload_n 0, 1) := by decide +kernel
theorem dX2_compare_172 : decode cX2_compare 172 = .ok (.aload 5, 2) := by decide +kernel
theorem dX2_compare_174 : decode cX2_compare 174 = .ok (.aload 6, 2) := by decide +kernel
theorem dX2_compare_176 : decode cX2_compare 176 = .ok (.invokevirtual 79, 3) := by decide +kernel
theorem dX2_compare_179 : decode cX2_compare 179 = .ok (.iadd, 1) := by decide +kernel
theorem dX2_compare_180 : decode cX2_compare 180 = .ok (.aload_n 0, 1) := by decide +kernel
theorem dX2_compare_181 : decode cX2_compare 181 = .ok (.aload 5, 2) := by decide +kernel
theorem dX2_compare_183 : decode cX2_compare 183 = .ok (.aload 6, 2) := by decide +kernel
theorem dX2_compare_185 : decode cX2_compare 185 = .ok (.invokevirtual 82, 3) := by decide +kernel
theorem dX2_compare_188 : decode cX2_compare 188 = .ok (.iadd, 1) := by decide +kernel
theorem dX2_compare_189 : decode cX2_compare 189 = .ok (.aload_n 0, 1) := by decide +kernel
theorem dX2_compare_190 : decode cX2_compare 190 = .ok (.aload 5, 2) := by decide +kernel
theorem dX2_compare_192 : decode cX2_compare 192 = .ok (.aload 6, 2) := by decide +kernel
theorem dX2_compare_194 : decode cX2_compare 194 = .ok (.invokevirtual 85, 3) := by decide +kernel
theorem dX2_compare_197 : decode cX2_compare 197 = .ok (.iadd, 1) := by decide +kernel
theorem dX2_compare_198 : decode cX2_compare 198 = .ok (.aload_n 0, 1) := by decide +kernel
theorem dX2_compare_199 : decode cX2_compare 199 = .ok (.aload 5, 2) := by decide +kernel
theorem dX2_compare_201 : decode cX2_compare 201 = .ok (.aload 6, 2) := by decide +kernel
theorem dX2_compare_203 : decode cX2_compare 203 = .ok (.invokevirtual 88, 3) := by decide +kernel
theorem dX2_compare_206 : decode cX2_compare 206 = .ok (.iadd, 1) := by decide +kernel
theorem dX2_compare_207 : decode cX2_compare 207 = .ok (.aload_n 0, 1) := by decide +kernel
theorem dX2_compare_208 : decode cX2_compare 208 = .ok (.aload 5, 2) := by decide +kernel
theorem dX2_compare_210 : decode cX2_compare 210 = .ok (.aload 6, 2) := by decide +kernel
theorem dX2_compare_212 : decode cX2_compare 212 = .ok (.invokevirtual 91, 3) := by decide +kernel
theorem dX2_compare_215 : decode cX2_compare 215 = .ok (.iadd, 1) := by decide +kernel
theorem dX2_compare_216 : decode cX2_compare 216 = .ok (.iadd, 1) := by decide +kernel
theorem dX2_compare_217 : decode cX2_compare 217 = .ok (.istore 4, 2) := by decide +kernel
theorem dX2_compare_219 : decode cX2_compare 219 = .ok (.iload 4, 2) := by decide +kernel
theorem dX2_compare_221 : decode cX2_compare 221 = .ok (.aload_n 0, 1) := by decide +kernel
theorem dX2_compare_222 : decode cX2_compare 222 = .ok (.aload 5, 2) := by decide +kernel
theorem dX2_compare_224 : decode cX2_compare 224 = .ok (.aload 6, 2) := by decide +kernel
theorem dX2_compare_226 : decode cX2_compare 226 = .ok (.invokevirtual 94, 3) := by decide +kernel
theorem dX2_compare_229 : decode cX2_compare 229 = .ok (.ifCond .eq 7, 3) := by decide +kernel
theorem dX2_compare_232 : decode cX2_compare 232 = .ok (.iconst 0, 1) := by decide +kernel
theorem dX2_compare_233 : decode cX2_compare 233 = .ok (.goto 13, 3) := by decide +kernel
theorem dX2_compare_236 : decode cX2_compare 236 = .ok (.aload_n 0, 1) := by decide +kernel
theorem dX2_compare_237 : decode cX2_compare 237 = .ok (.bipush 60, 2) := by decide +kernel
theorem dX2_compare_239 : decode cX2_compare 239 = .ok (.bipush (-2), 2) := by decide +kernel
theorem dX2_compare_241 : decode cX2_compare 241 = .ok (.bipush (-2), 2) := by decide +kernel
theorem dX2_compare_243 : decode cX2_compare 243 = .ok (.invokevirtual 68, 3) := by decide +kernel
theorem dX2_compare_246 : decode cX2_compare 246 = .ok (.iadd, 1) := by decide +kernel
theorem dX2_compare_247 : decode cX2_compare 247 = .ok (.istore 4, 2) := by decide +kernel
theorem dX2_compare_249 : decode cX2_compare 249 = .ok (.aload_n 0, 1) := by decide +kernel
theorem dX2_compare_250 : decode cX2_compare 250 = .ok (.dup, 1) := by decide +kernel
theorem dX2_compare_251 : decode cX2_compare 251 = .ok (.getfield 39, 3) := by decide +kernel
theorem dX2_compare_254 : decode cX2_compare 254 = .ok (.iconst 1, 1) := by decide +kernel
theorem dX2_compare_255 : decode cX2_compare 255 = .ok (.iadd, 1) := by decide +kernel
theorem dX2_compare_256 : decode cX2_compare 256 = .ok (.putfield 39, 3) := by decide +kernel
theorem dX2_compare_259 : decode cX2_compare 259 = .ok (.goto (-215), 3) := by decide +kernel
theorem dX2_compare_262 : decode cX2_compare 262 = .ok (.aload_n 0, 1) := by decide +kernel
theorem dX2_compare_263 : decode cX2_compare 263 = .ok (.bipush (-2), 2) := by decide +kernel
theorem dX2_compare_265 : decode cX2_compare 265 = .ok (.putfield 39, 3) := by decide +kernel
theorem dX2_compare_268 : decode cX2_compare 268 = .ok (.aload_n 0, 1) := by decide +kernel
theorem dX2_compare_269 : decode cX2_compare 269 = .ok (.iconst 0, 1) := by decide +kernel
theorem dX2_compare_270 : decode cX2_compare 270 = .ok (.putfield 65, 3) := by decide +kernel
theorem dX2_compare_273 : decode cX2_compare 273 = .ok (.aload_n 0, 1) := by decide +kernel
theorem dX2_compare_274 : decode cX2_compare 274 = .ok (.getfield 65, 3) := by decide +kernel
theorem dX2_compare_277 : decode cX2_compare 277 = .ok (.aload_n 0, 1) := by decide +kernel
theorem dX2_compare_278 : decode cX2_compare 278 = .ok (.getfield 25, 3) := by decide +kernel
theorem dX2_compare_281 : decode cX2_compare 281 = .ok (.getfield 42, 3) := by decide +kernel
theorem dX2_compare_284 : decode cX2_compare 284 = .ok (.if_icmp .ge 60, 3) := by decide +kernel
theorem dX2_compare_287 : decode cX2_compare 287 = .ok (.iload 4, 2) := by decide +kernel
theorem dX2_compare_289 : decode cX2_compare 289 = .ok (.aload_n 0, 1) := by decide +kernel
theorem dX2_compare_290 : decode cX2_compare 290 = .ok (.getfield 21, 3) := by decide +kernel
theorem dX2_compare_293 : decode cX2_compare 293 = .ok (.aload_n 0, 1) := by decide +kernel
theorem dX2_compare_294 : decode cX2_compare 294 = .ok (.getfield 25, 3) := by decide +kernel
theorem dX2_compare_297 : decode cX2_compare 297 = .ok (.getfield 47, 3) := by decide +kernel
theorem dX2_compare_300 : decode cX2_compare 300 = .ok (.aload_n 0, 1) := by decide +kernel
theorem dX2_compare_301 : decode cX2_compare 301 = .ok (.getfield 65, 3) := by decide +kernel
theorem dX2_compare_304 : decode cX2_compare 304 = .ok (.aaload, 1) := by decide +kernel
theorem dX2_compare_305 : decode cX2_compare 305 = .ok (.getfield 51, 3) := by decide +kernel
theorem dX2_compare_308 : decode cX2_compare 308 = .ok (.invokevirtual 57, 3) := by decide +kernel
theorem dX2_compare_311 : decode cX2_compare 311 = .ok (.ifnonnull 16, 3) := by decide +kernel
theorem dX2_compare_314 : decode cX2_compare 314 = .ok (.aload_n 0, 1) := by decide +kernel
theorem dX2_compare_315 : decode cX2_compare 315 = .ok (.bipush 70, 2) := by decide +kernel
theorem dX2_compare_317 : decode cX2_compare 317 = .ok (.bipush (-2), 2) := by decide +kernel
theorem dX2_compare_319 : decode cX2_compare 319 = .ok (.bipush (-2), 2) := by decide +kernel
theorem dX2_compare_321 : decode cX2_compare 321 = .ok (.invokevirtual 68, 3) := by decide +kernel
theorem dX2_compare_324 : decode cX2_compare 324 = .ok (.goto 4, 3) := by decide +kernel
theorem dX2_compare_327 : decode cX2_compare 327 = .ok (.iconst 0, 1) := by decide +kernel
theorem dX2_compare_328 : decode cX2_compare 328 = .ok (.iadd, 1) := by decide +kernel
theorem dX2_compare_329 : decode cX2_compare 329 = .ok (.istore 4, 2) := by decide +kernel
theorem dX2_compare_331 : decode cX2_compare 331 = .ok (.aload_n 0, 1) := by decide +kernel
theorem dX2_compare_332 : decode cX2_compare 332 = .ok (.dup, 1) := by decide +kernel
theorem dX2_compare_333 : decode cX2_compare 333 = .ok (.getfield 65, 3) := by decide +kernel
theorem dX2_compare_336 : decode cX2_compare 336 = .ok (.iconst 1, 1) := by decide +kernel
theorem dX2_compare_337 : decode cX2_compare 337 = .ok (.iadd, 1) := by decide +kernel
theorem dX2_compare_338 : decode cX2_compare 338 = .ok (.putfield 65, 3) := by decide +kernel
theorem dX2_compare_341 : decode cX2_compare 341 = .ok (.goto (-68), 3) := by decide +kernel
theorem dX2_compare_344 : decode cX2_compare 344 = .ok (.iload 4, 2) := by decide +kernel
theorem dX2_compare_346 : decode cX2_compare 346 = .ok (.ireturn, 1) := by decide +kernel
theorem dX2_note_0 : decode cX2_note 0 = .ok (.iload_n 1, 1) := by decide +kernel
theorem dX2_note_1 : decode cX2_note 1 = .ok (.bipush 39, 2) := by decide +kernel
theorem dX2_note_3 : decode cX2_note 3 = .ok (.if_icmp .eq 15, 3) := by decide +kernel
theorem dX2_note_6 : decode cX2_note 6 = .ok (.iload_n 1, 1) := by decide +kernel
theorem dX2_note_7 : decode cX2_note 7 = .ok (.bipush 53, 2) := by decide +kernel
theorem dX2_note_9 : decode cX2_note 9 = .ok (.if_icmp .eq 9, 3) := by decide +kernel
theorem dX2_note_12 : decode cX2_note 12 = .ok (.iload_n 1, 1) := by decide +kernel
theorem dX2_note_13 : decode cX2_note 13 = .ok (.bipush 60, 2) := by decide +kernel
theorem dX2_note_15 : decode cX2_note 15 = .ok (.if_icmp .ne 7, 3) := by decide +kernel
theorem dX2_note_18 : decode cX2_note 18 = .ok (.iconst 1, 1) := by decide +kernel
theorem dX2_note_19 : decode cX2_note 19 = .ok (.goto 4, 3) := by decide +kernel
theorem dX2_note_22 : decode cX2_note 22 = .ok (.iconst 0, 1) := by decide +kernel
theorem dX2_note_23 : decode cX2_note 23 = .ok (.istore 4, 2) := by decide +kernel
theorem dX2_note_25 : decode cX2_note 25 = .ok (.aload_n 0, 1) := by decide +kernel
theorem dX2_note_26 : decode cX2_note 26 = .ok (.aload_n 0, 1) := by decide +kernel
theorem dX2_note_27 : decode cX2_note 27 = .ok (.getfield 32, 3) := by decide +kernel
theorem dX2_note_30 : decode cX2_note 30 = .ok (.iload 4, 2) := by decide +kernel
theorem dX2_note_32 : decode cX2_note 32 = .ok (.ifCond .eq 7, 3) := by decide +kernel
theorem dX2_note_35 : decode cX2_note 35 = .ok (.iconst 1, 1) := by decide +kernel
theorem dX2_note_36 : decode cX2_note 36 = .ok (.goto 15, 3) := by decide +kernel
theorem dX2_note_39 : decode cX2_note 39 = .ok (.iload_n 1, 1) := by decide +kernel
theorem dX2_note_40 : decode cX2_note 40 = .ok (.invokestatic 98, 3) := by decide +kernel
theorem dX2_note_43 : decode cX2_note 43 = .ok (.ifCond .eq 7, 3) := by decide +kernel
theorem dX2_note_46 : decode cX2_note 46 = .ok (.iconst 3, 1) := by decide +kernel
theorem dX2_note_47 : decode cX2_note 47 = .ok (.goto 4, 3) := by decide +kernel
theorem dX2_note_50 : decode cX2_note 50 = .ok (.iconst 2, 1) := by decide +kernel
theorem dX2_note_51 : decode cX2_note 51 = .ok (.invokestatic 102, 3) := by decide +kernel
theorem dX2_note_54 : decode cX2_note 54 = .ok (.putfield 32, 3) := by decide +kernel
theorem dX2_note_57 : decode cX2_note 57 = .ok (.aload_n 0, 1) := by decide +kernel
theorem dX2_note_58 : decode cX2_note 58 = .ok (.getfield 28, 3) := by decide +kernel
theorem dX2_note_61 : decode cX2_note 61 = .ok (.ifCond .eq 103, 3) := by decide +kernel
theorem dX2_note_64 : decode cX2_note 64 = .ok (.iconst 5, 1) := by decide +kernel
theorem dX2_note_65 : decode cX2_note 65 = .ok (.aload_n 0, 1) := by decide +kernel
theorem dX2_note_66 : decode cX2_note 66 = .ok (.getfield 36, 3) := by decide +kernel
theorem dX2_note_69 : decode cX2_note 69 = .ok (.imul, 1) := by decide +kernel
theorem dX2_note_70 : decode cX2_note 70 = .ok (.iconst 5, 1) := by decide +kernel
theorem dX2_note_71 : decode cX2_note 71 = .ok (.iadd, 1) := by decide +kernel
theorem dX2_note_72 : decode cX2_note 72 = .ok (.aload_n 0, 1) := by decide +kernel
theorem dX2_note_73 : decode cX2_note 73 = .ok (.getfield 11, 3) := by decide +kernel
theorem dX2_note_76 : decode cX2_note 76 = .ok (.arraylength, 1) := by decide +kernel
theorem dX2_note_77 : decode cX2_note 77 = .ok (.if_icmp .gt 87, 3) := by decide +kernel
theorem dX2_note_80 : decode cX2_note 80 = .ok (.aload_n 0, 1) := by decide +kernel
theorem dX2_note_81 : decode cX2_note 81 = .ok (.getfield 11, 3) := by decide +kernel
theorem dX2_note_84 : decode cX2_note 84 = .ok (.iconst 5, 1) := by decide +kernel
theorem dX2_note_85 : decode cX2_note 85 = .ok (.aload_n 0, 1) := by decide +kernel
theorem dX2_note_86 : decode cX2_note 86 = .ok (.getfield 36, 3) := by decide +kernel
theorem dX2_note_89 : decode cX2_note 89 = .ok (.imul, 1) := by decide +kernel
theorem dX2_note_90 : decode cX2_note 90 = .ok (.iload_n 1, 1) := by decide +kernel
theorem dX2_note_91 : decode cX2_note 91 = .ok (.iastore, 1) := by decide +kernel
theorem dX2_note_92 : decode cX2_note 92 = .ok (.aload_n 0, 1) := by decide +kernel
theorem dX2_note_93 : decode cX2_note 93 = .ok (.getfield 11, 3) := by decide +kernel
theorem dX2_note_96 : decode cX2_note 96 = .ok (.iconst 5, 1) := by decide +kernel
theorem dX2_note_97 : decode cX2_note 97 = .ok (.aload_n 0, 1) := by decide +kernel
theorem dX2_note_98 : decode cX2_note 98 = .ok (.getfield 36, 3) := by decide +kernel
theorem dX2_note_101 : decode cX2_note 101 = .ok (.imul, 1) := by decide +kernel
theorem dX2_note_102 : decode cX2_note 102 = .ok (.iconst 1, 1) := by decide +kernel
theorem dX2_note_103 : decode cX2_note 103 = .ok (.iadd, 1) := by decide +kernel
theorem dX2_note_104 : decode cX2_note 104 = .ok (.aload_n 0, 1) := by decide +kernel
theorem dX2_note_105 : decode cX2_note 105 = .ok (.getfield 39, 3) := by decide +kernel
theorem dX2_note_108 : decode cX2_note 108 = .ok (.iastore, 1) := by decide +kernel
theorem dX2_note_109 : decode cX2_note 109 = .ok (.aload_n 0, 1) := by decide +kernel
theorem dX2_note_110 : decode cX2_note 110 = .ok (.getfield 11, 3) := by decide +kernel
theorem dX2_note_113 : decode cX2_note 113 = .ok (.iconst 5, 1) := by decide +kernel
theorem dX2_note_114 : decode cX2_note 114 = .ok (.aload_n 0, 1) := by decide +kernel
theorem dX2_note_115 : decode cX2_note 115 = .ok (.getfield 36, 3) := by decide +kernel
theorem dX2_note_118 : decode cX2_note 118 = .ok (.imul, 1) := by decide +kernel
theorem dX2_note_119 : decode cX2_note 119 = .ok (.iconst 2, 1) := by decide +kernel
theorem dX2_note_120 : decode cX2_note 120 = .ok (.iadd, 1) := by decide +kernel
theorem dX2_note_121 : decode cX2_note 121 = .ok (.aload_n 0, 1) := by decide +kernel
theorem dX2_note_122 : decode cX2_note 122 = .ok (.getfield 65, 3) := by decide +kernel
theorem dX2_note_125 : decode cX2_note 125 = .ok (.iastore, 1) := by decide +kernel
theorem dX2_note_126 : decode cX2_note 126 = .ok (.aload_n 0, 1) := by decide +kernel
theorem dX2_note_127 : decode cX2_note 127 = .ok (.getfield 11, 3) := by decide +kernel
theorem dX2_note_130 : decode cX2_note 130 = .ok (.iconst 5, 1) := by decide +kernel
theorem dX2_note_131 : decode cX2_note 131 = .ok (.aload_n 0, 1) := by decide +kernel
theorem dX2_note_132 : decode cX2_note 132 = .ok (.getfield 36, 3) := by decide +kernel
theorem dX2_note_135 : decode cX2_note 135 = .ok (.imul, 1) := by decide +kernel
theorem dX2_note_136 : decode cX2_note 136 = .ok (.iconst 3, 1) := by decide +kernel
theorem dX2_note_137 : decode cX2_note 137 = .ok (.iadd, 1) := by decide +kernel
theorem dX2_note_138 : decode cX2_note 138 = .ok (.iload_n 2, 1) := by decide +kernel
theorem dX2_note_139 : decode cX2_note 139 = .ok (.iastore, 1) := by decide +kernel
theorem dX2_note_140 : decode cX2_note 140 = .ok (.aload_n 0, 1) := by decide +kernel
theorem dX2_note_141 : decode cX2_note 141 = .ok (.getfield 11, 3) := by decide +kernel
theorem dX2_note_144 : decode cX2_note 144 = .ok (.iconst 5, 1) := by decide +kernel
theorem dX2_note_145 : decode cX2_note 145 = .ok (.aload_n 0, 1) := by decide +kernel
theorem dX2_note_146 : decode cX2_note 146 = .ok (.getfield 36, 3) := by decide +kernel
theorem dX2_note_149 : decode cX2_note 149 = .ok (.imul, 1) := by decide +kernel
theorem dX2_note_150 : decode cX2_note 150 = .ok (.iconst 4, 1) := by decide +kernel
theorem dX2_note_151 : decode cX2_note 151 = .ok (.iadd, 1) := by decide +kernel
theorem dX2_note_152 : decode cX2_note 152 = .ok (.iload_n 3, 1) := by decide +kernel
theorem dX2_note_153 : decode cX2_note 153 = .ok (.iastore, 1) := by decide +kernel
theorem dX2_note_154 : decode cX2_note 154 = .ok (.aload_n 0, 1) := by decide +kernel
theorem dX2_note_155 : decode cX2_note 155 = .ok (.dup, 1) := by decide +kernel
theorem dX2_note_156 : decode cX2_note 156 = .ok (.getfield 36, 3) := by decide +kernel
theorem dX2_note_159 : decode cX2_note 159 = .ok (.iconst 1, 1) := by decide +kernel
theorem dX2_note_160 : decode cX2_note 160 = .ok (.iadd, 1) := by decide +kernel
theorem dX2_note_161 : decode cX2_note 161 = .ok (.putfield 36, 3) := by decide +kernel
theorem dX2_note_164 : decode cX2_note 164 = .ok (.iconst 1, 1) := by decide +kernel
theorem dX2_note_165 : decode cX2_note 165 = .ok (.ireturn, 1) := by decide +kernel
theorem dX2_breaks_0 : decode cX2_breaks 0 = .ok (.iload_n 0, 1) := by decide +kernel
theorem dX2_breaks_1 : decode cX2_breaks 1 = .ok (.tableswitch 221 1 51 #[219, 219, 219, 221, 219, 221, 219, 221, 219, 219, 221, 221, 219, 221, 221, 221, 221, 221, 221, 219, 219, 219, 219, 221, 219, 221, 221, 221, 221, 219, 219, 219, 219, 221, 219, 221, 219, 221, 221, 221, 219, 221, 221, 221, 221, 221, 221, 221, 221, 219, 219], 219) := by decide +kernel
theorem dX2_breaks_220 : decode cX2_breaks 220 = .ok (.iconst 1, 1) := by decide +kernel
theorem dX2_breaks_221 : decode cX2_breaks 221 = .ok (.ireturn, 1) := by decide +kernel
theorem dX2_breaks_222 : decode cX2_breaks 222 = .ok (.iconst 0, 1) := by decide +kernel
theorem dX2_breaks_223 : decode cX2_breaks 223 = .ok (.ireturn, 1) := by decide +kernel
theorem dX2_turned_0 : decode cX2_turned 0 = .ok (.iload_n 1, 1) := by decide +kernel
theorem dX2_turned_1 : decode cX2_turned 1 = .ok (.iload_n 2, 1) := by decide +kernel
theorem dX2_turned_2 : decode cX2_turned 2 = .ok (.if_icmp .ne 7, 3) := by decide +kernel
theorem dX2_turned_5 : decode cX2_turned 5 = .ok (.iconst 0, 1) := by decide +kernel
theorem dX2_turned_6 : decode cX2_turned 6 = .ok (.goto 22, 3) := by decide +kernel
theorem dX2_turned_9 : decode cX2_turned 9 = .ok (.aload_n 0, 1) := by decide +kernel
theorem dX2_turned_10 : decode cX2_turned 10 = .ok (.iload_n 2, 1) := by decide +kernel
theorem dX2_turned_11 : decode cX2_turned 11 = .ok (.ifCond .eq 7, 3) := by decide +kernel
theorem dX2_turned_14 : decode cX2_turned 14 = .ok (.iload_n 3, 1) := by decide +kernel
theorem dX2_turned_15 : decode cX2_turned 15 = .ok (.goto 6, 3) := by decide +kernel
theorem dX2_turned_18 : decode cX2_turned 18 = .ok (.iload_n 3, 1) := by decide +kernel
theorem dX2_turned_19 : decode cX2_turned 19 = .ok (.iconst 1, 1) := by decide +kernel
theorem dX2_turned_20 : decode cX2_turned 20 = .ok (.iadd, 1) := by decide +kernel
theorem dX2_turned_21 : decode cX2_turned 21 = .ok (.iload 4, 2) := by decide +kernel
theorem dX2_turned_23 : decode cX2_turned 23 = .ok (.iload 5, 2) := by decide +kernel
theorem dX2_turned_25 : decode cX2_turned 25 = .ok (.invokevirtual 68, 3) := by decide +kernel
theorem dX2_turned_28 : decode cX2_turned 28 = .ok (.ireturn, 1) := by decide +kernel
theorem dX2_access_0 : decode cX2_access 0 = .ok (.iload_n 1, 1) := by decide +kernel
theorem dX2_access_1 : decode cX2_access 1 = .ok (.iload_n 2, 1) := by decide +kernel
theorem dX2_access_2 : decode cX2_access 2 = .ok (.if_icmp .ne 7, 3) := by decide +kernel
theorem dX2_access_5 : decode cX2_access 5 = .ok (.iconst 0, 1) := by decide +kernel
theorem dX2_access_6 : decode cX2_access 6 = .ok (.goto 23, 3) := by decide +kernel
theorem dX2_access_9 : decode cX2_access 9 = .ok (.aload_n 0, 1) := by decide +kernel
theorem dX2_access_10 : decode cX2_access 10 = .ok (.iload_n 2, 1) := by decide +kernel
theorem dX2_access_11 : decode cX2_access 11 = .ok (.iload_n 1, 1) := by decide +kernel
theorem dX2_access_12 : decode cX2_access 12 = .ok (.if_icmp .ge 7, 3) := by decide +kernel
theorem dX2_access_15 : decode cX2_access 15 = .ok (.iload_n 3, 1) := by decide +kernel
theorem dX2_access_16 : decode cX2_access 16 = .ok (.goto 6, 3) := by decide +kernel
theorem dX2_access_19 : decode cX2_access 19 = .ok (.iload_n 3, 1) := by decide +kernel
theorem dX2_access_20 : decode cX2_access 20 = .ok (.iconst 1, 1) := by decide +kernel
theorem dX2_access_21 : decode cX2_access 21 = .ok (.iadd, 1) := by decide +kernel
theorem dX2_access_22 : decode cX2_access 22 = .ok (.iload 4, 2) := by decide +kernel
theorem dX2_access_24 : decode cX2_access 24 = .ok (.iload 5, 2) := by decide +kernel
theorem dX2_access_26 : decode cX2_access 26 = .ok (.invokevirtual 68, 3) := by decide +kernel
theorem dX2_access_29 : decode cX2_access 29 = .ok (.ireturn, 1) := by decide +kernel
theorem dX2_heads_0 : decode cX2_heads 0 = .ok (.aload_n 0, 1) := by decide +kernel
theorem dX2_heads_1 : decode cX2_heads 1 = .ok (.aload_n 1, 1) := by decide +kernel
theorem dX2_heads_2 : decode cX2_heads 2 = .ok (.getfield 108, 3) := by decide +kernel
theorem dX2_heads_5 : decode cX2_heads 5 = .ok (.ifCond .ne 7, 3) := by decide +kernel
theorem dX2_heads_8 : decode cX2_heads 8 = .ok (.iconst 1, 1) := by decide +kernel
theorem dX2_heads_9 : decode cX2_heads 9 = .ok (.goto 4, 3) := by decide +kernel
theorem dX2_heads_12 : decode cX2_heads 12 = .ok (.iconst 0, 1) := by decide +kernel
theorem dX2_heads_13 : decode cX2_heads 13 = .ok (.aload_n 2, 1) := by decide +kernel
theorem dX2_heads_14 : decode cX2_heads 14 = .ok (.getfield 108, 3) := by decide +kernel
theorem dX2_heads_17 : decode cX2_heads 17 = .ok (.ifCond .ne 7, 3) := by decide +kernel
theorem dX2_heads_20 : decode cX2_heads 20 = .ok (.iconst 1, 1) := by decide +kernel
theorem dX2_heads_21 : decode cX2_heads 21 = .ok (.goto 4, 3) := by decide +kernel
theorem dX2_heads_24 : decode cX2_heads 24 = .ok (.iconst 0, 1) := by decide +kernel
theorem dX2_heads_25 : decode cX2_heads 25 = .ok (.iconst 3, 1) := by decide +kernel
theorem dX2_heads_26 : decode cX2_heads 26 = .ok (.bipush (-2), 2) := by decide +kernel
theorem dX2_heads_28 : decode cX2_heads 28 = .ok (.bipush (-2), 2) := by decide +kernel
theorem dX2_heads_30 : decode cX2_heads 30 = .ok (.invokevirtual 111, 3) := by decide +kernel
theorem dX2_heads_33 : decode cX2_heads 33 = .ok (.istore_n 3, 1) := by decide +kernel
theorem dX2_heads_34 : decode cX2_heads 34 = .ok (.iload_n 3, 1) := by decide +kernel
theorem dX2_heads_35 : decode cX2_heads 35 = .ok (.aload_n 0, 1) := by decide +kernel
theorem dX2_heads_36 : decode cX2_heads 36 = .ok (.aload_n 1, 1) := by decide +kernel
theorem dX2_heads_37 : decode cX2_heads 37 = .ok (.getfield 115, 3) := by decide +kernel
theorem dX2_heads_40 : decode cX2_heads 40 = .ok (.aload_n 2, 1) := by decide +kernel
theorem dX2_heads_41 : decode cX2_heads 41 = .ok (.getfield 115, 3) := by decide +kernel
theorem dX2_heads_44 : decode cX2_heads 44 = .ok (.iconst 5, 1) := by decide +kernel
theorem dX2_heads_45 : decode cX2_heads 45 = .ok (.bipush (-2), 2) := by decide +kernel
theorem dX2_heads_47 : decode cX2_heads 47 = .ok (.bipush (-2), 2) := by decide +kernel
theorem dX2_heads_49 : decode cX2_heads 49 = .ok (.invokevirtual 111, 3) := by decide +kernel
theorem dX2_heads_52 : decode cX2_heads 52 = .ok (.iadd, 1) := by decide +kernel
theorem dX2_heads_53 : decode cX2_heads 53 = .ok (.istore_n 3, 1) := by decide +kernel
theorem dX2_heads_54 : decode cX2_heads 54 = .ok (.iload_n 3, 1) := by decide +kernel
theorem dX2_heads_55 : decode cX2_heads 55 = .ok (.aload_n 0, 1) := by decide +kernel
theorem dX2_heads_56 : decode cX2_heads 56 = .ok (.aload_n 1, 1) := by decide +kernel
theorem dX2_heads_57 : decode cX2_heads 57 = .ok (.getfield 118, 3) := by decide +kernel
theorem dX2_heads_60 : decode cX2_heads 60 = .ok (.aload_n 2, 1) := by decide +kernel
theorem dX2_heads_61 : decode cX2_heads 61 = .ok (.getfield 118, 3) := by decide +kernel
theorem dX2_heads_64 : decode cX2_heads 64 = .ok (.bipush 7, 2) := by decide +kernel
theorem dX2_heads_66 : decode cX2_heads 66 = .ok (.bipush (-2), 2) := by decide +kernel
theorem dX2_heads_68 : decode cX2_heads 68 = .ok (.bipush (-2), 2) := by decide +kernel
theorem dX2_heads_70 : decode cX2_heads 70 = .ok (.invokevirtual 111, 3) := by decide +kernel
theorem dX2_heads_73 : decode cX2_heads 73 = .ok (.iadd, 1) := by decide +kernel
theorem dX2_heads_74 : decode cX2_heads 74 = .ok (.istore_n 3, 1) := by decide +kernel
theorem dX2_heads_75 : decode cX2_heads 75 = .ok (.iload_n 3, 1) := by decide +kernel
theorem dX2_heads_76 : decode cX2_heads 76 = .ok (.aload_n 1, 1) := by decide +kernel
theorem dX2_heads_77 : decode cX2_heads 77 = .ok (.getfield 121, 3) := by decide +kernel
theorem dX2_heads_80 : decode cX2_heads 80 = .ok (.aload_n 2, 1) := by decide +kernel
theorem dX2_heads_81 : decode cX2_heads 81 = .ok (.getfield 121, 3) := by decide +kernel
theorem dX2_heads_84 : decode cX2_heads 84 = .ok (.lcmp, 1) := by decide +kernel
theorem dX2_heads_85 : decode cX2_heads 85 = .ok (.ifCond .eq 16, 3) := by decide +kernel
theorem dX2_heads_88 : decode cX2_heads 88 = .ok (.aload_n 0, 1) := by decide +kernel
theorem dX2_heads_89 : decode cX2_heads 89 = .ok (.bipush 9, 2) := by decide +kernel
theorem dX2_heads_91 : decode cX2_heads 91 = .ok (.bipush (-2), 2) := by decide +kernel
theorem dX2_heads_93 : decode cX2_heads 93 = .ok (.bipush (-2), 2) := by decide +kernel
theorem dX2_heads_95 : decode cX2_heads 95 = .ok (.invokevirtual 68, 3) := by decide +kernel
theorem dX2_heads_98 : decode cX2_heads 98 = .ok (.goto 4, 3) := by decide +kernel
theorem dX2_heads_101 : decode cX2_heads 101 = .ok (.iconst 0, 1) := by decide +kernel
theorem dX2_heads_102 : decode cX2_heads 102 = .ok (.iadd, 1) := by decide +kernel
theorem dX2_heads_103 : decode cX2_heads 103 = .ok (.ireturn, 1) := by decide +kernel
theorem dX2_faces_0 : decode cX2_faces 0 = .ok (.iconst 0, 1) := by decide +kernel
theorem dX2_faces_1 : decode cX2_faces 1 = .ok (.istore_n 3, 1) := by decide +kernel
theorem dX2_faces_2 : decode cX2_faces 2 = .ok (.iconst 0, 1) := by decide +kernel
theorem dX2_faces_3 : decode cX2_faces 3 = .ok (.istore 4, 2) := by decide +kernel
theorem dX2_faces_5 : decode cX2_faces 5 = .ok (.iload 4, 2) := by decide +kernel
theorem dX2_faces_7 : decode cX2_faces 7 = .ok (.aload_n 1, 1) := by decide +kernel
theorem dX2_faces_8 : decode cX2_faces 8 = .ok (.getfield 124, 3) := by decide +kernel
theorem dX2_faces_11 : decode cX2_faces 11 = .ok (.iconst 0, 1) := by decide +kernel
theorem dX2_faces_12 : decode cX2_faces 12 = .ok (.iaload, 1) := by decide +kernel
theorem dX2_faces_13 : decode cX2_faces 13 = .ok (.if_icmp .ge 41, 3) := by decide +kernel
theorem dX2_faces_16 : decode cX2_faces 16 = .ok (.iload_n 3, 1) := by decide +kernel
theorem dX2_faces_17 : decode cX2_faces 17 = .ok (.aload_n 2, 1) := by decide +kernel
theorem dX2_faces_18 : decode cX2_faces 18 = .ok (.iconst 0, 1) := by decide +kernel
theorem dX2_faces_19 : decode cX2_faces 19 = .ok (.aload_n 1, 1) := by decide +kernel
theorem dX2_faces_20 : decode cX2_faces 20 = .ok (.iconst 0, 1) := by decide +kernel
theorem dX2_faces_21 : decode cX2_faces 21 = .ok (.iload 4, 2) := by decide +kernel
theorem dX2_faces_23 : decode cX2_faces 23 = .ok (.invokevirtual 127, 3) := by decide +kernel
theorem dX2_faces_26 : decode cX2_faces 26 = .ok (.invokevirtual 131, 3) := by decide +kernel
theorem dX2_faces_29 : decode cX2_faces 29 = .ok (.ifCond .eq 7, 3) := by decide +kernel
theorem dX2_faces_32 : decode cX2_faces 32 = .ok (.iconst 0, 1) := by decide +kernel
theorem dX2_faces_33 : decode cX2_faces 33 = .ok (.goto 13, 3) := by decide +kernel
theorem dX2_faces_36 : decode cX2_faces 36 = .ok (.aload_n 0, 1) := by decide +kernel
theorem dX2_faces_37 : decode cX2_faces 37 = .ok (.bipush 10, 2) := by decide +kernel
theorem dX2_faces_39 : decode cX2_faces 39 = .ok (.bipush (-2), 2) := by decide +kernel
theorem dX2_faces_41 : decode cX2_faces 41 = .ok (.bipush (-2), 2) := by decide +kernel
theorem dX2_faces_43 : decode cX2_faces 43 = .ok (.invokevirtual 68, 3) := by decide +kernel
theorem dX2_faces_46 : decode cX2_faces 46 = .ok (.iadd, 1) := by decide +kernel
theorem dX2_faces_47 : decode cX2_faces 47 = .ok (.istore_n 3, 1) := by decide +kernel
theorem dX2_faces_48 : decode cX2_faces 48 = .ok (.iinc 4 1, 3) := by decide +kernel
theorem dX2_faces_51 : decode cX2_faces 51 = .ok (.goto (-46), 3) := by decide +kernel
theorem dX2_faces_54 : decode cX2_faces 54 = .ok (.iconst 0, 1) := by decide +kernel
theorem dX2_faces_55 : decode cX2_faces 55 = .ok (.istore 4, 2) := by decide +kernel
theorem dX2_faces_57 : decode cX2_faces 57 = .ok (.iload 4, 2) := by decide +kernel
theorem dX2_faces_59 : decode cX2_faces 59 = .ok (.aload_n 2, 1) := by decide +kernel
theorem dX2_faces_60 : decode cX2_faces 60 = .ok (.getfield 124, 3) := by decide +kernel
theorem dX2_faces_63 : decode cX2_faces 63 = .ok (.iconst 0, 1) := by decide +kernel
theorem dX2_faces_64 : decode cX2_faces 64 = .ok (.iaload, 1) := by decide +kernel
theorem dX2_faces_65 : decode cX2_faces 65 = .ok (.if_icmp .ge 41, 3) := by decide +kernel
theorem dX2_faces_68 : decode cX2_faces 68 = .ok (.iload_n 3, 1) := by decide +kernel
theorem dX2_faces_69 : decode cX2_faces 69 = .ok (.aload_n 1, 1) := by decide +kernel
theorem dX2_faces_70 : decode cX2_faces 70 = .ok (.iconst 0, 1) := by decide +kernel
theorem dX2_faces_71 : decode cX2_faces 71 = .ok (.aload_n 2, 1) := by decide +kernel
theorem dX2_faces_72 : decode cX2_faces 72 = .ok (.iconst 0, 1) := by decide +kernel
theorem dX2_faces_73 : decode cX2_faces 73 = .ok (.iload 4, 2) := by decide +kernel
theorem dX2_faces_75 : decode cX2_faces 75 = .ok (.invokevirtual 127, 3) := by decide +kernel
theorem dX2_faces_78 : decode cX2_faces 78 = .ok (.invokevirtual 131, 3) := by decide +kernel
theorem dX2_faces_81 : decode cX2_faces 81 = .ok (.ifCond .eq 7, 3) := by decide +kernel
theorem dX2_faces_84 : decode cX2_faces 84 = .ok (.iconst 0, 1) := by decide +kernel
theorem dX2_faces_85 : decode cX2_faces 85 = .ok (.goto 13, 3) := by decide +kernel
theorem dX2_faces_88 : decode cX2_faces 88 = .ok (.aload_n 0, 1) := by decide +kernel
theorem dX2_faces_89 : decode cX2_faces 89 = .ok (.bipush 11, 2) := by decide +kernel
theorem dX2_faces_91 : decode cX2_faces 91 = .ok (.bipush (-2), 2) := by decide +kernel
theorem dX2_faces_93 : decode cX2_faces 93 = .ok (.bipush (-2), 2) := by decide +kernel
theorem dX2_faces_95 : decode cX2_faces 95 = .ok (.invokevirtual 68, 3) := by decide +kernel
theorem dX2_faces_98 : decode cX2_faces 98 = .ok (.iadd, 1) := by decide +kernel
theorem dX2_faces_99 : decode cX2_faces 99 = .ok (.istore_n 3, 1) := by decide +kernel
theorem dX2_faces_100 : decode cX2_faces 100 = .ok (.iinc 4 1, 3) := by decide +kernel
theorem dX2_faces_103 : decode cX2_faces 103 = .ok (.goto (-46), 3) := by decide +kernel
theorem dX2_faces_106 : decode cX2_faces 106 = .ok (.iload_n 3, 1) := by decide +kernel
theorem dX2_faces_107 : decode cX2_faces 107 = .ok (.aload_n 1, 1) := by decide +kernel
theorem dX2_faces_108 : decode cX2_faces 108 = .ok (.getfield 135, 3) := by decide +kernel
theorem dX2_faces_111 : decode cX2_faces 111 = .ok (.aload_n 2, 1) := by decide +kernel
theorem dX2_faces_112 : decode cX2_faces 112 = .ok (.getfield 135, 3) := by decide +kernel
theorem dX2_faces_115 : decode cX2_faces 115 = .ok (.lcmp, 1) := by decide +kernel
theorem dX2_faces_116 : decode cX2_faces 116 = .ok (.ifCond .eq 16, 3) := by decide +kernel
theorem dX2_faces_119 : decode cX2_faces 119 = .ok (.aload_n 0, 1) := by decide +kernel
theorem dX2_faces_120 : decode cX2_faces 120 = .ok (.bipush 12, 2) := by decide +kernel
theorem dX2_faces_122 : decode cX2_faces 122 = .ok (.bipush (-2), 2) := by decide +kernel
theorem dX2_faces_124 : decode cX2_faces 124 = .ok (.bipush (-2), 2) := by decide +kernel
theorem dX2_faces_126 : decode cX2_faces 126 = .ok (.invokevirtual 68, 3) := by decide +kernel
theorem dX2_faces_129 : decode cX2_faces 129 = .ok (.goto 4, 3) := by decide +kernel
theorem dX2_faces_132 : decode cX2_faces 132 = .ok (.iconst 0, 1) := by decide +kernel
theorem dX2_faces_133 : decode cX2_faces 133 = .ok (.iadd, 1) := by decide +kernel
theorem dX2_faces_134 : decode cX2_faces 134 = .ok (.ireturn, 1) := by decide +kernel
theorem dX2_only_0 : decode cX2_only 0 = .ok (.aload_n 2, 1) := by decide +kernel
theorem dX2_only_1 : decode cX2_only 1 = .ok (.getfield 124, 3) := by decide +kernel
theorem dX2_only_4 : decode cX2_only 4 = .ok (.iconst 2, 1) := by decide +kernel
theorem dX2_only_5 : decode cX2_only 5 = .ok (.iaload, 1) := by decide +kernel
theorem dX2_only_6 : decode cX2_only 6 = .ok (.ifCond .ne 27, 3) := by decide +kernel
theorem dX2_only_9 : decode cX2_only 9 = .ok (.aload_n 1, 1) := by decide +kernel
theorem dX2_only_10 : decode cX2_only 10 = .ok (.getfield 124, 3) := by decide +kernel
theorem dX2_only_13 : decode cX2_only 13 = .ok (.iconst 2, 1) := by decide +kernel
theorem dX2_only_14 : decode cX2_only 14 = .ok (.iaload, 1) := by decide +kernel
theorem dX2_only_15 : decode cX2_only 15 = .ok (.ifCond .ne 7, 3) := by decide +kernel
theorem dX2_only_18 : decode cX2_only 18 = .ok (.iconst 0, 1) := by decide +kernel
theorem dX2_only_19 : decode cX2_only 19 = .ok (.goto 13, 3) := by decide +kernel
theorem dX2_only_22 : decode cX2_only 22 = .ok (.aload_n 0, 1) := by decide +kernel
theorem dX2_only_23 : decode cX2_only 23 = .ok (.bipush 14, 2) := by decide +kernel
theorem dX2_only_25 : decode cX2_only 25 = .ok (.bipush (-2), 2) := by decide +kernel
theorem dX2_only_27 : decode cX2_only 27 = .ok (.bipush (-2), 2) := by decide +kernel
theorem dX2_only_29 : decode cX2_only 29 = .ok (.invokevirtual 68, 3) := by decide +kernel
theorem dX2_only_32 : decode cX2_only 32 = .ok (.ireturn, 1) := by decide +kernel
theorem dX2_only_33 : decode cX2_only 33 = .ok (.aload_n 1, 1) := by decide +kernel
theorem dX2_only_34 : decode cX2_only 34 = .ok (.getfield 124, 3) := by decide +kernel
theorem dX2_only_37 : decode cX2_only 37 = .ok (.iconst 2, 1) := by decide +kernel
theorem dX2_only_38 : decode cX2_only 38 = .ok (.iaload, 1) := by decide +kernel
theorem dX2_only_39 : decode cX2_only 39 = .ok (.ifCond .ne 7, 3) := by decide +kernel
theorem dX2_only_42 : decode cX2_only 42 = .ok (.iconst 1, 1) := by decide +kernel
theorem dX2_only_43 : decode cX2_only 43 = .ok (.goto 4, 3) := by decide +kernel
theorem dX2_only_46 : decode cX2_only 46 = .ok (.iconst 0, 1) := by decide +kernel
theorem dX2_only_47 : decode cX2_only 47 = .ok (.istore_n 3, 1) := by decide +kernel
theorem dX2_only_48 : decode cX2_only 48 = .ok (.aload_n 1, 1) := by decide +kernel
theorem dX2_only_49 : decode cX2_only 49 = .ok (.getfield 124, 3) := by decide +kernel
theorem dX2_only_52 : decode cX2_only 52 = .ok (.iconst 2, 1) := by decide +kernel
theorem dX2_only_53 : decode cX2_only 53 = .ok (.iaload, 1) := by decide +kernel
theorem dX2_only_54 : decode cX2_only 54 = .ok (.aload_n 2, 1) := by decide +kernel
theorem dX2_only_55 : decode cX2_only 55 = .ok (.getfield 124, 3) := by decide +kernel
theorem dX2_only_58 : decode cX2_only 58 = .ok (.iconst 2, 1) := by decide +kernel
theorem dX2_only_59 : decode cX2_only 59 = .ok (.iaload, 1) := by decide +kernel
theorem dX2_only_60 : decode cX2_only 60 = .ok (.if_icmp .eq 7, 3) := by decide +kernel
theorem dX2_only_63 : decode cX2_only 63 = .ok (.iconst 1, 1) := by decide +kernel
theorem dX2_only_64 : decode cX2_only 64 = .ok (.goto 4, 3) := by decide +kernel
theorem dX2_only_67 : decode cX2_only 67 = .ok (.iconst 0, 1) := by decide +kernel
theorem dX2_only_68 : decode cX2_only 68 = .ok (.istore 4, 2) := by decide +kernel
theorem dX2_only_70 : decode cX2_only 70 = .ok (.iconst 0, 1) := by decide +kernel
theorem dX2_only_71 : decode cX2_only 71 = .ok (.istore 5, 2) := by decide +kernel
theorem dX2_only_73 : decode cX2_only 73 = .ok (.iload 5, 2) := by decide +kernel
theorem dX2_only_75 : decode cX2_only 75 = .ok (.aload_n 1, 1) := by decide +kernel
theorem dX2_only_76 : decode cX2_only 76 = .ok (.getfield 124, 3) := by decide +kernel
theorem dX2_only_79 : decode cX2_only 79 = .ok (.iconst 2, 1) := by decide +kernel
theorem dX2_only_80 : decode cX2_only 80 = .ok (.iaload, 1) := by decide +kernel
theorem dX2_only_81 : decode cX2_only 81 = .ok (.if_icmp .ge 60, 3) := by decide +kernel
theorem dX2_only_84 : decode cX2_only 84 = .ok (.iload_n 3, 1) := by decide +kernel
theorem dX2_only_85 : decode cX2_only 85 = .ok (.aload_n 2, 1) := by decide +kernel
theorem dX2_only_86 : decode cX2_only 86 = .ok (.iconst 2, 1) := by decide +kernel
theorem dX2_only_87 : decode cX2_only 87 = .ok (.aload_n 1, 1) := by decide +kernel
theorem dX2_only_88 : decode cX2_only 88 = .ok (.iconst 2, 1) := by decide +kernel
theorem dX2_only_89 : decode cX2_only 89 = .ok (.iload 5, 2) := by decide +kernel
theorem dX2_only_91 : decode cX2_only 91 = .ok (.invokevirtual 127, 3) := by decide +kernel
theorem dX2_only_94 : decode cX2_only 94 = .ok (.invokevirtual 131, 3) := by decide +kernel
theorem dX2_only_97 : decode cX2_only 97 = .ok (.ifCond .ne 7, 3) := by decide +kernel
theorem dX2_only_100 : decode cX2_only 100 = .ok (.iconst 1, 1) := by decide +kernel
theorem dX2_only_101 : decode cX2_only 101 = .ok (.goto 4, 3) := by decide +kernel
theorem dX2_only_104 : decode cX2_only 104 = .ok (.iconst 0, 1) := by decide +kernel
theorem dX2_only_105 : decode cX2_only 105 = .ok (.ior, 1) := by decide +kernel
theorem dX2_only_106 : decode cX2_only 106 = .ok (.istore_n 3, 1) := by decide +kernel
theorem dX2_only_107 : decode cX2_only 107 = .ok (.iload 4, 2) := by decide +kernel
theorem dX2_only_109 : decode cX2_only 109 = .ok (.aload_n 1, 1) := by decide +kernel
theorem dX2_only_110 : decode cX2_only 110 = .ok (.iconst 2, 1) := by decide +kernel
theorem dX2_only_111 : decode cX2_only 111 = .ok (.iload 5, 2) := by decide +kernel
theorem dX2_only_113 : decode cX2_only 113 = .ok (.invokevirtual 127, 3) := by decide +kernel
theorem dX2_only_116 : decode cX2_only 116 = .ok (.aload_n 2, 1) := by decide +kernel
theorem dX2_only_117 : decode cX2_only 117 = .ok (.iconst 2, 1) := by decide +kernel
theorem dX2_only_118 : decode cX2_only 118 = .ok (.iload 5, 2) := by decide +kernel
theorem dX2_only_120 : decode cX2_only 120 = .ok (.invokevirtual 127, 3) := by decide +kernel
theorem dX2_only_123 : decode cX2_only 123 = .ok (.lcmp, 1) := by decide +kernel
theorem dX2_only_124 : decode cX2_only 124 = .ok (.ifCond .eq 7, 3) := by decide +kernel
theorem dX2_only_127 : decode cX2_only 127 = .ok (.iconst 1, 1) := by decide +kernel
theorem dX2_only_128 : decode cX2_only 128 = .ok (.goto 4, 3) := by decide +kernel
theorem dX2_only_131 : decode cX2_only 131 = .ok (.iconst 0, 1) := by decide +kernel
theorem dX2_only_132 : decode cX2_only 132 = .ok (.ior, 1) := by decide +kernel
theorem dX2_only_133 : decode cX2_only 133 = .ok (.istore 4, 2) := by decide +kernel
theorem dX2_only_135 : decode cX2_only 135 = .ok (.iinc 5 1, 3) := by decide +kernel
theorem dX2_only_138 : decode cX2_only 138 = .ok (.goto (-65), 3) := by decide +kernel
theorem dX2_only_141 : decode cX2_only 141 = .ok (.iload_n 3, 1) := by decide +kernel
theorem dX2_only_142 : decode cX2_only 142 = .ok (.ifCond .eq 16, 3) := by decide +kernel
theorem dX2_only_145 : decode cX2_only 145 = .ok (.aload_n 0, 1) := by decide +kernel
theorem dX2_only_146 : decode cX2_only 146 = .ok (.bipush 13, 2) := by decide +kernel
theorem dX2_only_148 : decode cX2_only 148 = .ok (.bipush (-2), 2) := by decide +kernel
theorem dX2_only_150 : decode cX2_only 150 = .ok (.bipush (-2), 2) := by decide +kernel
theorem dX2_only_152 : decode cX2_only 152 = .ok (.invokevirtual 68, 3) := by decide +kernel
theorem dX2_only_155 : decode cX2_only 155 = .ok (.goto 22, 3) := by decide +kernel
theorem dX2_only_158 : decode cX2_only 158 = .ok (.iload 4, 2) := by decide +kernel
theorem dX2_only_160 : decode cX2_only 160 = .ok (.ifCond .eq 16, 3) := by decide +kernel
theorem dX2_only_163 : decode cX2_only 163 = .ok (.aload_n 0, 1) := by decide +kernel
theorem dX2_only_164 : decode cX2_only 164 = .ok (.bipush 14, 2) := by decide +kernel
theorem dX2_only_166 : decode cX2_only 166 = .ok (.bipush (-2), 2) := by decide +kernel
theorem dX2_only_168 : decode cX2_only 168 = .ok (.bipush (-2), 2) := by decide +kernel
theorem dX2_only_170 : decode cX2_only 170 = .ok (.invokevirtual 68, 3) := by decide +kernel
theorem dX2_only_173 : decode cX2_only 173 = .ok (.goto 4, 3) := by decide +kernel
theorem dX2_only_176 : decode cX2_only 176 = .ok (.iconst 0, 1) := by decide +kernel
theorem dX2_only_177 : decode cX2_only 177 = .ok (.ireturn, 1) := by decide +kernel
theorem dX2_fields_0 : decode cX2_fields 0 = .ok (.iconst 0, 1) := by decide +kernel
theorem dX2_fields_1 : decode cX2_fields 1 = .ok (.istore_n 3, 1) := by decide +kernel
theorem dX2_fields_2 : decode cX2_fields 2 = .ok (.iconst 0, 1) := by decide +kernel
theorem dX2_fields_3 : decode cX2_fields 3 = .ok (.istore 4, 2) := by decide +kernel
theorem dX2_fields_5 : decode cX2_fields 5 = .ok (.iload 4, 2) := by decide +kernel
theorem dX2_fields_7 : decode cX2_fields 7 = .ok (.aload_n 1, 1) := by decide +kernel
theorem dX2_fields_8 : decode cX2_fields 8 = .ok (.getfield 138, 3) := by decide +kernel
theorem dX2_fields_11 : decode cX2_fields 11 = .ok (.if_icmp .ge 77, 3) := by decide +kernel
theorem dX2_fields_14 : decode cX2_fields 14 = .ok (.aload_n 1, 1) := by decide +kernel
theorem dX2_fields_15 : decode cX2_fields 15 = .ok (.getfield 141, 3) := by decide +kernel
theorem dX2_fields_18 : decode cX2_fields 18 = .ok (.iload 4, 2) := by decide +kernel
theorem dX2_fields_20 : decode cX2_fields 20 = .ok (.aaload, 1) := by decide +kernel
theorem dX2_fields_21 : decode cX2_fields 21 = .ok (.astore 5, 2) := by decide +kernel
theorem dX2_fields_23 : decode cX2_fields 23 = .ok (.aload 5, 2) := by decide +kernel
theorem dX2_fields_25 : decode cX2_fields 25 = .ok (.getfield 145, 3) := by decide +kernel
theorem dX2_fields_28 : decode cX2_fields 28 = .ok (.ifCond .ne 54, 3) := by decide +kernel
theorem dX2_fields_31 : decode cX2_fields 31 = .ok (.aload_n 2, 1) := by decide +kernel
theorem dX2_fields_32 : decode cX2_fields 32 = .ok (.aload 5, 2) := by decide +kernel
theorem dX2_fields_34 : decode cX2_fields 34 = .ok (.getfield 150, 3) := by decide +kernel
theorem dX2_fields_37 : decode cX2_fields 37 = .ok (.ldc2_w 151, 3) := by decide +kernel
theorem dX2_fields_40 : decode cX2_fields 40 = .ok (.invokevirtual 153, 3) := by decide +kernel
theorem dX2_fields_43 : decode cX2_fields 43 = .ok (.astore 6, 2) := by decide +kernel
theorem dX2_fields_45 : decode cX2_fields 45 = .ok (.iload_n 3, 1) := by decide +kernel
theorem dX2_fields_46 : decode cX2_fields 46 = .ok (.aload 6, 2) := by decide +kernel
theorem dX2_fields_48 : decode cX2_fields 48 = .ok (.ifnonnull 16, 3) := by decide +kernel
theorem dX2_fields_51 : decode cX2_fields 51 = .ok (.aload_n 0, 1) := by decide +kernel
theorem dX2_fields_52 : decode cX2_fields 52 = .ok (.bipush 20, 2) := by decide +kernel
theorem dX2_fields_54 : decode cX2_fields 54 = .ok (.iload 4, 2) := by decide +kernel
theorem dX2_fields_56 : decode cX2_fields 56 = .ok (.bipush (-2), 2) := by decide +kernel
theorem dX2_fields_58 : decode cX2_fields 58 = .ok (.invokevirtual 68, 3) := by decide +kernel
theorem dX2_fields_61 : decode cX2_fields 61 = .ok (.goto 19, 3) := by decide +kernel
theorem dX2_fields_64 : decode cX2_fields 64 = .ok (.aload_n 0, 1) := by decide +kernel
theorem dX2_fields_65 : decode cX2_fields 65 = .ok (.aload 5, 2) := by decide +kernel
theorem dX2_fields_67 : decode cX2_fields 67 = .ok (.aload 6, 2) := by decide +kernel
theorem dX2_fields_69 : decode cX2_fields 69 = .ok (.iload 4, 2) := by decide +kernel
theorem dX2_fields_71 : decode cX2_fields 71 = .ok (.aload_n 2, 1) := by decide +kernel
theorem dX2_fields_72 : decode cX2_fields 72 = .ok (.aload 6, 2) := by decide +kernel
theorem dX2_fields_74 : decode cX2_fields 74 = .ok (.invokestatic 157, 3) := by decide +kernel
theorem dX2_fields_77 : decode cX2_fields 77 = .ok (.invokevirtual 161, 3) := by decide +kernel
theorem dX2_fields_80 : decode cX2_fields 80 = .ok (.iadd, 1) := by decide +kernel
theorem dX2_fields_81 : decode cX2_fields 81 = .ok (.istore_n 3, 1) := by decide +kernel
theorem dX2_fields_82 : decode cX2_fields 82 = .ok (.iinc 4 1, 3) := by decide +kernel
theorem dX2_fields_85 : decode cX2_fields 85 = .ok (.goto (-80), 3) := by decide +kernel
theorem dX2_fields_88 : decode cX2_fields 88 = .ok (.iconst 0, 1) := by decide +kernel
theorem dX2_fields_89 : decode cX2_fields 89 = .ok (.istore 4, 2) := by decide +kernel
theorem dX2_fields_91 : decode cX2_fields 91 = .ok (.iload 4, 2) := by decide +kernel
theorem dX2_fields_93 : decode cX2_fields 93 = .ok (.aload_n 2, 1) := by decide +kernel
theorem dX2_fields_94 : decode cX2_fields 94 = .ok (.getfield 138, 3) := by decide +kernel
theorem dX2_fields_97 : decode cX2_fields 97 = .ok (.if_icmp .ge 58, 3) := by decide +kernel
theorem dX2_fields_100 : decode cX2_fields 100 = .ok (.aload_n 2, 1) := by decide +kernel
theorem dX2_fields_101 : decode cX2_fields 101 = .ok (.getfield 141, 3) := by decide +kernel
theorem dX2_fields_104 : decode cX2_fields 104 = .ok (.iload 4, 2) := by decide +kernel
theorem dX2_fields_106 : decode cX2_fields 106 = .ok (.aaload, 1) := by decide +kernel
theorem dX2_fields_107 : decode cX2_fields 107 = .ok (.astore 5, 2) := by decide +kernel
theorem dX2_fields_109 : decode cX2_fields 109 = .ok (.iload_n 3, 1) := by decide +kernel
theorem dX2_fields_110 : decode cX2_fields 110 = .ok (.aload 5, 2) := by decide +kernel
theorem dX2_fields_112 : decode cX2_fields 112 = .ok (.getfield 145, 3) := by decide +kernel
theorem dX2_fields_115 : decode cX2_fields 115 = .ok (.ifCond .ne 31, 3) := by decide +kernel
theorem dX2_fields_118 : decode cX2_fields 118 = .ok (.aload_n 1, 1) := by decide +kernel
theorem dX2_fields_119 : decode cX2_fields 119 = .ok (.aload 5, 2) := by decide +kernel
theorem dX2_fields_121 : decode cX2_fields 121 = .ok (.getfield 150, 3) := by decide +kernel
theorem dX2_fields_124 : decode cX2_fields 124 = .ok (.ldc2_w 151, 3) := by decide +kernel
theorem dX2_fields_127 : decode cX2_fields 127 = .ok (.invokevirtual 153, 3) := by decide +kernel
theorem dX2_fields_130 : decode cX2_fields 130 = .ok (.ifnonnull 16, 3) := by decide +kernel
theorem dX2_fields_133 : decode cX2_fields 133 = .ok (.aload_n 0, 1) := by decide +kernel
theorem dX2_fields_134 : decode cX2_fields 134 = .ok (.bipush 28, 2) := by decide +kernel
theorem dX2_fields_136 : decode cX2_fields 136 = .ok (.bipush (-2), 2) := by decide +kernel
theorem dX2_fields_138 : decode cX2_fields 138 = .ok (.iload 4, 2) := by decide +kernel
theorem dX2_fields_140 : decode cX2_fields 140 = .ok (.invokevirtual 68, 3) := by decide +kernel
theorem dX2_fields_143 : decode cX2_fields 143 = .ok (.goto 4, 3) := by decide +kernel
theorem dX2_fields_146 : decode cX2_fields 146 = .ok (.iconst 0, 1) := by decide +kernel
theorem dX2_fields_147 : decode cX2_fields 147 = .ok (.iadd, 1) := by decide +kernel
theorem dX2_fields_148 : decode cX2_fields 148 = .ok (.istore_n 3, 1) := by decide +kernel
theorem dX2_fields_149 : decode cX2_fields 149 = .ok (.iinc 4 1, 3) := by decide +kernel
theorem dX2_fields_152 : decode cX2_fields 152 = .ok (.goto (-61), 3) := by decide +kernel
theorem dX2_fields_155 : decode cX2_fields 155 = .ok (.iload_n 3, 1) := by decide +kernel
theorem dX2_fields_156 : decode cX2_fields 156 = .ok (.ireturn, 1) := by decide +kernel
theorem dX2_indexIn_0 : decode cX2_indexIn 0 = .ok (.iconst 0, 1) := by decide +kernel
theorem dX2_indexIn_1 : decode cX2_indexIn 1 = .ok (.istore_n 2, 1) := by decide +kernel
theorem dX2_indexIn_2 : decode cX2_indexIn 2 = .ok (.iload_n 2, 1) := by decide +kernel
theorem dX2_indexIn_3 : decode cX2_indexIn 3 = .ok (.aload_n 0, 1) := by decide +kernel
theorem dX2_indexIn_4 : decode cX2_indexIn 4 = .ok (.getfield 138, 3) := by decide +kernel
theorem dX2_indexIn_7 : decode cX2_indexIn 7 = .ok (.if_icmp .ge 21, 3) := by decide +kernel
theorem dX2_indexIn_10 : decode cX2_indexIn 10 = .ok (.aload_n 0, 1) := by decide +kernel
theorem dX2_indexIn_11 : decode cX2_indexIn 11 = .ok (.getfield 141, 3) := by decide +kernel
theorem dX2_indexIn_14 : decode cX2_indexIn 14 = .ok (.iload_n 2, 1) := by decide +kernel
theorem dX2_indexIn_15 : decode cX2_indexIn 15 = .ok (.aaload, 1) := by decide +kernel
theorem dX2_indexIn_16 : decode cX2_indexIn 16 = .ok (.aload_n 1, 1) := by decide +kernel
theorem dX2_indexIn_17 : decode cX2_indexIn 17 = .ok (.if_acmp .ne 5, 3) := by decide +kernel
theorem dX2_indexIn_20 : decode cX2_indexIn 20 = .ok (.iload_n 2, 1) := by decide +kernel
theorem dX2_indexIn_21 : decode cX2_indexIn 21 = .ok (.ireturn, 1) := by decide +kernel
theorem dX2_indexIn_22 : decode cX2_indexIn 22 = .ok (.iinc 2 1, 3) := by decide +kernel
theorem dX2_indexIn_25 : decode cX2_indexIn 25 = .ok (.goto (-23), 3) := by decide +kernel
theorem dX2_indexIn_28 : decode cX2_indexIn 28 = .ok (.bipush (-2), 2) := by decide +kernel
theorem dX2_indexIn_30 : decode cX2_indexIn 30 = .ok (.ireturn, 1) := by decide +kernel
theorem dX2_field_0 : decode cX2_field 0 = .ok (.aload_n 1, 1) := by decide +kernel
theorem dX2_field_1 : decode cX2_field 1 = .ok (.getfield 164, 3) := by decide +kernel
theorem dX2_field_4 : decode cX2_field 4 = .ok (.aload_n 2, 1) := by decide +kernel
theorem dX2_field_5 : decode cX2_field 5 = .ok (.getfield 164, 3) := by decide +kernel
theorem dX2_field_8 : decode cX2_field 8 = .ok (.lcmp, 1) := by decide +kernel
theorem dX2_field_9 : decode cX2_field 9 = .ok (.ifCond .eq 15, 3) := by decide +kernel
theorem dX2_field_12 : decode cX2_field 12 = .ok (.aload_n 0, 1) := by decide +kernel
theorem dX2_field_13 : decode cX2_field 13 = .ok (.bipush 21, 2) := by decide +kernel
theorem dX2_field_15 : decode cX2_field 15 = .ok (.iload_n 3, 1) := by decide +kernel
theorem dX2_field_16 : decode cX2_field 16 = .ok (.iload 4, 2) := by decide +kernel
theorem dX2_field_18 : decode cX2_field 18 = .ok (.invokevirtual 68, 3) := by decide +kernel
theorem dX2_field_21 : decode cX2_field 21 = .ok (.goto 4, 3) := by decide +kernel
theorem dX2_field_24 : decode cX2_field 24 = .ok (.iconst 0, 1) := by decide +kernel
theorem dX2_field_25 : decode cX2_field 25 = .ok (.istore 5, 2) := by decide +kernel
theorem dX2_field_27 : decode cX2_field 27 = .ok (.iload 5, 2) := by decide +kernel
theorem dX2_field_29 : decode cX2_field 29 = .ok (.aload_n 1, 1) := by decide +kernel
theorem dX2_field_30 : decode cX2_field 30 = .ok (.getfield 167, 3) := by decide +kernel
theorem dX2_field_33 : decode cX2_field 33 = .ok (.aload_n 2, 1) := by decide +kernel
theorem dX2_field_34 : decode cX2_field 34 = .ok (.getfield 167, 3) := by decide +kernel
theorem dX2_field_37 : decode cX2_field 37 = .ok (.if_icmp .eq 15, 3) := by decide +kernel
theorem dX2_field_40 : decode cX2_field 40 = .ok (.aload_n 0, 1) := by decide +kernel
theorem dX2_field_41 : decode cX2_field 41 = .ok (.bipush 22, 2) := by decide +kernel
theorem dX2_field_43 : decode cX2_field 43 = .ok (.iload_n 3, 1) := by decide +kernel
theorem dX2_field_44 : decode cX2_field 44 = .ok (.iload 4, 2) := by decide +kernel
theorem dX2_field_46 : decode cX2_field 46 = .ok (.invokevirtual 68, 3) := by decide +kernel
theorem dX2_field_49 : decode cX2_field 49 = .ok (.goto 4, 3) := by decide +kernel
theorem dX2_field_52 : decode cX2_field 52 = .ok (.iconst 0, 1) := by decide +kernel
theorem dX2_field_53 : decode cX2_field 53 = .ok (.iadd, 1) := by decide +kernel
theorem dX2_field_54 : decode cX2_field 54 = .ok (.istore 5, 2) := by decide +kernel
theorem dX2_field_56 : decode cX2_field 56 = .ok (.iload 5, 2) := by decide +kernel
theorem dX2_field_58 : decode cX2_field 58 = .ok (.ifCond .le 6, 3) := by decide +kernel
theorem dX2_field_61 : decode cX2_field 61 = .ok (.iload 5, 2) := by decide +kernel
theorem dX2_field_63 : decode cX2_field 63 = .ok (.ireturn, 1) := by decide +kernel
theorem dX2_field_64 : decode cX2_field 64 = .ok (.aload_n 0, 1) := by decide +kernel
theorem dX2_field_65 : decode cX2_field 65 = .ok (.aload_n 1, 1) := by decide +kernel
theorem dX2_field_66 : decode cX2_field 66 = .ok (.getfield 170, 3) := by decide +kernel
theorem dX2_field_69 : decode cX2_field 69 = .ok (.aload_n 2, 1) := by decide +kernel
theorem dX2_field_70 : decode cX2_field 70 = .ok (.getfield 170, 3) := by decide +kernel
theorem dX2_field_73 : decode cX2_field 73 = .ok (.bipush 23, 2) := by decide +kernel
theorem dX2_field_75 : decode cX2_field 75 = .ok (.iload_n 3, 1) := by decide +kernel
theorem dX2_field_76 : decode cX2_field 76 = .ok (.iload 4, 2) := by decide +kernel
theorem dX2_field_78 : decode cX2_field 78 = .ok (.invokevirtual 111, 3) := by decide +kernel
theorem dX2_field_81 : decode cX2_field 81 = .ok (.istore 5, 2) := by decide +kernel
theorem dX2_field_83 : decode cX2_field 83 = .ok (.iload 5, 2) := by decide +kernel
theorem dX2_field_85 : decode cX2_field 85 = .ok (.aload_n 0, 1) := by decide +kernel
theorem dX2_field_86 : decode cX2_field 86 = .ok (.aload_n 1, 1) := by decide +kernel
theorem dX2_field_87 : decode cX2_field 87 = .ok (.getfield 171, 3) := by decide +kernel
theorem dX2_field_90 : decode cX2_field 90 = .ok (.aload_n 2, 1) := by decide +kernel
theorem dX2_field_91 : decode cX2_field 91 = .ok (.getfield 171, 3) := by decide +kernel
theorem dX2_field_94 : decode cX2_field 94 = .ok (.bipush 25, 2) := by decide +kernel
theorem dX2_field_96 : decode cX2_field 96 = .ok (.iload_n 3, 1) := by decide +kernel
theorem dX2_field_97 : decode cX2_field 97 = .ok (.iload 4, 2) := by decide +kernel
theorem dX2_field_99 : decode cX2_field 99 = .ok (.invokevirtual 174, 3) := by decide +kernel
theorem dX2_field_102 : decode cX2_field 102 = .ok (.iadd, 1) := by decide +kernel
theorem dX2_field_103 : decode cX2_field 103 = .ok (.istore 5, 2) := by decide +kernel
theorem dX2_field_105 : decode cX2_field 105 = .ok (.aload_n 1, 1) := by decide +kernel
theorem dX2_field_106 : decode cX2_field 106 = .ok (.getfield 177, 3) := by decide +kernel
theorem dX2_field_109 : decode cX2_field 109 = .ok (.aload_n 2, 1) := by decide +kernel
theorem dX2_field_110 : decode cX2_field 110 = .ok (.getfield 177, 3) := by decide +kernel
theorem dX2_field_113 : decode cX2_field 113 = .ok (.if_icmp .ne 21, 3) := by decide +kernel
theorem dX2_field_116 : decode cX2_field 116 = .ok (.aload_n 1, 1) := by decide +kernel
theorem dX2_field_117 : decode cX2_field 117 = .ok (.getfield 177, 3) := by decide +kernel
theorem dX2_field_120 : decode cX2_field 120 = .ok (.ifCond .eq 18, 3) := by decide +kernel
theorem dX2_field_123 : decode cX2_field 123 = .ok (.aload_n 1, 1) := by decide +kernel
theorem dX2_field_124 : decode cX2_field 124 = .ok (.getfield 180, 3) := by decide +kernel
theorem dX2_field_127 : decode cX2_field 127 = .ok (.aload_n 2, 1) := by decide +kernel
theorem dX2_field_128 : decode cX2_field 128 = .ok (.getfield 180, 3) := by decide +kernel
theorem dX2_field_131 : decode cX2_field 131 = .ok (.if_icmp .eq 7, 3) := by decide +kernel
theorem dX2_field_134 : decode cX2_field 134 = .ok (.iconst 1, 1) := by decide +kernel
theorem dX2_field_135 : decode cX2_field 135 = .ok (.goto 4, 3) := by decide +kernel
theorem dX2_field_138 : decode cX2_field 138 = .ok (.iconst 0, 1) := by decide +kernel
theorem dX2_field_139 : decode cX2_field 139 = .ok (.istore 6, 2) := by decide +kernel
theorem dX2_field_141 : decode cX2_field 141 = .ok (.iload 5, 2) := by decide +kernel
theorem dX2_field_143 : decode cX2_field 143 = .ok (.iload 6, 2) := by decide +kernel
theorem dX2_field_145 : decode cX2_field 145 = .ok (.ifCond .eq 15, 3) := by decide +kernel
theorem dX2_field_148 : decode cX2_field 148 = .ok (.aload_n 0, 1) := by decide +kernel
theorem dX2_field_149 : decode cX2_field 149 = .ok (.bipush 27, 2) := by decide +kernel
theorem dX2_field_151 : decode cX2_field 151 = .ok (.iload_n 3, 1) := by decide +kernel
theorem dX2_field_152 : decode cX2_field 152 = .ok (.iload 4, 2) := by decide +kernel
theorem dX2_field_154 : decode cX2_field 154 = .ok (.invokevirtual 68, 3) := by decide +kernel
theorem dX2_field_157 : decode cX2_field 157 = .ok (.goto 4, 3) := by decide +kernel
theorem dX2_field_160 : decode cX2_field 160 = .ok (.iconst 0, 1) := by decide +kernel
theorem dX2_field_161 : decode cX2_field 161 = .ok (.iadd, 1) := by decide +kernel
theorem dX2_field_162 : decode cX2_field 162 = .ok (.ireturn, 1) := by decide +kernel
theorem dX2_methods_0 : decode cX2_methods 0 = .ok (.iconst 0, 1) := by decide +kernel
theorem dX2_methods_1 : decode cX2_methods 1 = .ok (.istore_n 3, 1) := by decide +kernel
theorem dX2_methods_2 : decode cX2_methods 2 = .ok (.iconst 0, 1) := by decide +kernel
theorem dX2_methods_3 : decode cX2_methods 3 = .ok (.istore 4, 2) := by decide +kernel
theorem dX2_methods_5 : decode cX2_methods 5 = .ok (.iload 4, 2) := by decide +kernel
theorem dX2_methods_7 : decode cX2_methods 7 = .ok (.aload_n 1, 1) := by decide +kernel
theorem dX2_methods_8 : decode cX2_methods 8 = .ok (.getfield 138, 3) := by decide +kernel
theorem dX2_methods_11 : decode cX2_methods 11 = .ok (.if_icmp .ge 80, 3) := by decide +kernel
theorem dX2_methods_14 : decode cX2_methods 14 = .ok (.aload_n 1, 1) := by decide +kernel
theorem dX2_methods_15 : decode cX2_methods 15 = .ok (.getfield 141, 3) := by decide +kernel
theorem dX2_methods_18 : decode cX2_methods 18 = .ok (.iload 4, 2) := by decide +kernel
theorem dX2_methods_20 : decode cX2_methods 20 = .ok (.aaload, 1) := by decide +kernel
theorem dX2_methods_21 : decode cX2_methods 21 = .ok (.astore 5, 2) := by decide +kernel
theorem dX2_methods_23 : decode cX2_methods 23 = .ok (.aload 5, 2) := by decide +kernel
theorem dX2_methods_25 : decode cX2_methods 25 = .ok (.getfield 145, 3) := by decide +kernel
theorem dX2_methods_28 : decode cX2_methods 28 = .ok (.iconst 1, 1) := by decide +kernel
theorem dX2_methods_29 : decode cX2_methods 29 = .ok (.if_icmp .ne 56, 3) := by decide +kernel
theorem dX2_methods_32 : decode cX2_methods 32 = .ok (.aload 5, 2) := by decide +kernel
theorem dX2_methods_34 : decode cX2_methods 34 = .ok (.getfield 183, 3) := by decide +kernel
theorem dX2_methods_37 : decode cX2_methods 37 = .ok (.ifCond .ne 48, 3) := by decide +kernel
theorem dX2_methods_40 : decode cX2_methods 40 = .ok (.aload_n 2, 1) := by decide +kernel
theorem dX2_methods_41 : decode cX2_methods 41 = .ok (.aload 5, 2) := by decide +kernel
theorem dX2_methods_43 : decode cX2_methods 43 = .ok (.invokevirtual 186, 3) := by decide +kernel
theorem dX2_methods_46 : decode cX2_methods 46 = .ok (.astore 6, 2) := by decide +kernel
theorem dX2_methods_48 : decode cX2_methods 48 = .ok (.iload_n 3, 1) := by decide +kernel
theorem dX2_methods_49 : decode cX2_methods 49 = .ok (.aload 6, 2) := by decide +kernel
theorem dX2_methods_51 : decode cX2_methods 51 = .ok (.ifnonnull 16, 3) := by decide +kernel
theorem dX2_methods_54 : decode cX2_methods 54 = .ok (.aload_n 0, 1) := by decide +kernel
theorem dX2_methods_55 : decode cX2_methods 55 = .ok (.bipush 30, 2) := by decide +kernel
theorem dX2_methods_57 : decode cX2_methods 57 = .ok (.iload 4, 2) := by decide +kernel
theorem dX2_methods_59 : decode cX2_methods 59 = .ok (.bipush (-2), 2) := by decide +kernel
theorem dX2_methods_61 : decode cX2_methods 61 = .ok (.invokevirtual 68, 3) := by decide +kernel
theorem dX2_methods_64 : decode cX2_methods 64 = .ok (.goto 19, 3) := by decide +kernel
theorem dX2_methods_67 : decode cX2_methods 67 = .ok (.aload_n 0, 1) := by decide +kernel
theorem dX2_methods_68 : decode cX2_methods 68 = .ok (.aload 5, 2) := by decide +kernel
theorem dX2_methods_70 : decode cX2_methods 70 = .ok (.aload 6, 2) := by decide +kernel
theorem dX2_methods_72 : decode cX2_methods 72 = .ok (.iload 4, 2) := by decide +kernel
theorem dX2_methods_74 : decode cX2_methods 74 = .ok (.aload_n 2, 1) := by decide +kernel
theorem dX2_methods_75 : decode cX2_methods 75 = .ok (.aload 6, 2) := by decide +kernel
theorem dX2_methods_77 : decode cX2_methods 77 = .ok (.invokestatic 157, 3) := by decide +kernel
theorem dX2_methods_80 : decode cX2_methods 80 = .ok (.invokevirtual 190, 3) := by decide +kernel
theorem dX2_methods_83 : decode cX2_methods 83 = .ok (.iadd, 1) := by decide +kernel
theorem dX2_methods_84 : decode cX2_methods 84 = .ok (.istore_n 3, 1) := by decide +kernel
theorem dX2_methods_85 : decode cX2_methods 85 = .ok (.iinc 4 1, 3) := by decide +kernel
theorem dX2_methods_88 : decode cX2_methods 88 = .ok (.goto (-83), 3) := by decide +kernel
theorem dX2_methods_91 : decode cX2_methods 91 = .ok (.iconst 0, 1) := by decide +kernel
theorem dX2_methods_92 : decode cX2_methods 92 = .ok (.istore 4, 2) := by decide +kernel
theorem dX2_methods_94 : decode cX2_methods 94 = .ok (.iload 4, 2) := by decide +kernel
theorem dX2_methods_96 : decode cX2_methods 96 = .ok (.aload_n 2, 1) := by decide +kernel
theorem dX2_methods_97 : decode cX2_methods 97 = .ok (.getfield 138, 3) := by decide +kernel
theorem dX2_methods_100 : decode cX2_methods 100 = .ok (.if_icmp .ge 70, 3) := by decide +kernel
theorem dX2_methods_103 : decode cX2_methods 103 = .ok (.aload_n 2, 1) := by decide +kernel
theorem dX2_methods_104 : decode cX2_methods 104 = .ok (.getfield 141, 3) := by decide +kernel
theorem dX2_methods_107 : decode cX2_methods 107 = .ok (.iload 4, 2) := by decide +kernel
theorem dX2_methods_109 : decode cX2_methods 109 = .ok (.aaload, 1) := by decide +kernel
theorem dX2_methods_110 : decode cX2_methods 110 = .ok (.astore 5, 2) := by decide +kernel
theorem dX2_methods_112 : decode cX2_methods 112 = .ok (.aload 5, 2) := by decide +kernel
theorem dX2_methods_114 : decode cX2_methods 114 = .ok (.getfield 145, 3) := by decide +kernel
theorem dX2_methods_117 : decode cX2_methods 117 = .ok (.iconst 1, 1) := by decide +kernel
theorem dX2_methods_118 : decode cX2_methods 118 = .ok (.if_icmp .ne 46, 3) := by decide +kernel
theorem dX2_methods_121 : decode cX2_methods 121 = .ok (.aload 5, 2) := by decide +kernel
theorem dX2_methods_123 : decode cX2_methods 123 = .ok (.getfield 183, 3) := by decide +kernel
theorem dX2_methods_126 : decode cX2_methods 126 = .ok (.ifCond .ne 38, 3) := by decide +kernel
theorem dX2_methods_129 : decode cX2_methods 129 = .ok (.aload_n 1, 1) := by decide +kernel
theorem dX2_methods_130 : decode cX2_methods 130 = .ok (.aload 5, 2) := by decide +kernel
theorem dX2_methods_132 : decode cX2_methods 132 = .ok (.invokevirtual 186, 3) := by decide +kernel
theorem dX2_methods_135 : decode cX2_methods 135 = .ok (.ifnonnull 29, 3) := by decide +kernel
theorem dX2_methods_138 : decode cX2_methods 138 = .ok (.iload_n 3, 1) := by decide +kernel
theorem dX2_methods_139 : decode cX2_methods 139 = .ok (.aload_n 0, 1) := by decide +kernel
theorem dX2_methods_140 : decode cX2_methods 140 = .ok (.aload 5, 2) := by decide +kernel
theorem dX2_methods_142 : decode cX2_methods 142 = .ok (.getfield 193, 3) := by decide +kernel
theorem dX2_methods_145 : decode cX2_methods 145 = .ok (.ifCond .eq 8, 3) := by decide +kernel
theorem dX2_methods_148 : decode cX2_methods 148 = .ok (.bipush 41, 2) := by decide +kernel
theorem dX2_methods_150 : decode cX2_methods 150 = .ok (.goto 5, 3) := by decide +kernel
theorem dX2_methods_153 : decode cX2_methods 153 = .ok (.bipush 40, 2) := by decide +kernel
theorem dX2_methods_155 : decode cX2_methods 155 = .ok (.bipush (-2), 2) := by decide +kernel
theorem dX2_methods_157 : decode cX2_methods 157 = .ok (.iload 4, 2) := by decide +kernel
theorem dX2_methods_159 : decode cX2_methods 159 = .ok (.invokevirtual 68, 3) := by decide +kernel
theorem dX2_methods_162 : decode cX2_methods 162 = .ok (.iadd, 1) := by decide +kernel
theorem dX2_methods_163 : decode cX2_methods 163 = .ok (.istore_n 3, 1) := by decide +kernel
theorem dX2_methods_164 : decode cX2_methods 164 = .ok (.iinc 4 1, 3) := by decide +kernel
theorem dX2_methods_167 : decode cX2_methods 167 = .ok (.goto (-73), 3) := by decide +kernel
theorem dX2_methods_170 : decode cX2_methods 170 = .ok (.iload_n 3, 1) := by decide +kernel
theorem dX2_methods_171 : decode cX2_methods 171 = .ok (.ireturn, 1) := by decide +kernel
theorem dX2_method_0 : decode cX2_method 0 = .ok (.aload_n 1, 1) := by decide +kernel
theorem dX2_method_1 : decode cX2_method 1 = .ok (.getfield 164, 3) := by decide +kernel
theorem dX2_method_4 : decode cX2_method 4 = .ok (.aload_n 2, 1) := by decide +kernel
theorem dX2_method_5 : decode cX2_method 5 = .ok (.getfield 164, 3) := by decide +kernel
theorem dX2_method_8 : decode cX2_method 8 = .ok (.lcmp, 1) := by decide +kernel
theorem dX2_method_9 : decode cX2_method 9 = .ok (.ifCond .eq 15, 3) := by decide +kernel
theorem dX2_method_12 : decode cX2_method 12 = .ok (.aload_n 0, 1) := by decide +kernel
theorem dX2_method_13 : decode cX2_method 13 = .ok (.bipush 31, 2) := by decide +kernel
theorem dX2_method_15 : decode cX2_method 15 = .ok (.iload_n 3, 1) := by decide +kernel
theorem dX2_method_16 : decode cX2_method 16 = .ok (.iload 4, 2) := by decide +kernel
theorem dX2_method_18 : decode cX2_method 18 = .ok (.invokevirtual 68, 3) := by decide +kernel
theorem dX2_method_21 : decode cX2_method 21 = .ok (.goto 4, 3) := by decide +kernel
theorem dX2_method_24 : decode cX2_method 24 = .ok (.iconst 0, 1) := by decide +kernel
theorem dX2_method_25 : decode cX2_method 25 = .ok (.istore 5, 2) := by decide +kernel
theorem dX2_method_27 : decode cX2_method 27 = .ok (.iload 5, 2) := by decide +kernel
theorem dX2_method_29 : decode cX2_method 29 = .ok (.aload_n 1, 1) := by decide +kernel
theorem dX2_method_30 : decode cX2_method 30 = .ok (.getfield 167, 3) := by decide +kernel
theorem dX2_method_33 : decode cX2_method 33 = .ok (.aload_n 2, 1) := by decide +kernel
theorem dX2_method_34 : decode cX2_method 34 = .ok (.getfield 167, 3) := by decide +kernel
theorem dX2_method_37 : decode cX2_method 37 = .ok (.if_icmp .eq 15, 3) := by decide +kernel
theorem dX2_method_40 : decode cX2_method 40 = .ok (.aload_n 0, 1) := by decide +kernel
theorem dX2_method_41 : decode cX2_method 41 = .ok (.bipush 32, 2) := by decide +kernel
theorem dX2_method_43 : decode cX2_method 43 = .ok (.iload_n 3, 1) := by decide +kernel
theorem dX2_method_44 : decode cX2_method 44 = .ok (.iload 4, 2) := by decide +kernel
theorem dX2_method_46 : decode cX2_method 46 = .ok (.invokevirtual 68, 3) := by decide +kernel
theorem dX2_method_49 : decode cX2_method 49 = .ok (.goto 4, 3) := by decide +kernel
theorem dX2_method_52 : decode cX2_method 52 = .ok (.iconst 0, 1) := by decide +kernel
theorem dX2_method_53 : decode cX2_method 53 = .ok (.iadd, 1) := by decide +kernel
theorem dX2_method_54 : decode cX2_method 54 = .ok (.istore 5, 2) := by decide +kernel
theorem dX2_method_56 : decode cX2_method 56 = .ok (.iload 5, 2) := by decide +kernel
theorem dX2_method_58 : decode cX2_method 58 = .ok (.ifCond .le 6, 3) := by decide +kernel
theorem dX2_method_61 : decode cX2_method 61 = .ok (.iload 5, 2) := by decide +kernel
theorem dX2_method_63 : decode cX2_method 63 = .ok (.ireturn, 1) := by decide +kernel
theorem dX2_method_64 : decode cX2_method 64 = .ok (.aload_n 0, 1) := by decide +kernel
theorem dX2_method_65 : decode cX2_method 65 = .ok (.aload_n 1, 1) := by decide +kernel
theorem dX2_method_66 : decode cX2_method 66 = .ok (.getfield 170, 3) := by decide +kernel
theorem dX2_method_69 : decode cX2_method 69 = .ok (.aload_n 2, 1) := by decide +kernel
theorem dX2_method_70 : decode cX2_method 70 = .ok (.getfield 170, 3) := by decide +kernel
theorem dX2_method_73 : decode cX2_method 73 = .ok (.bipush 33, 2) := by decide +kernel
theorem dX2_method_75 : decode cX2_method 75 = .ok (.iload_n 3, 1) := by decide +kernel
theorem dX2_method_76 : decode cX2_method 76 = .ok (.iload 4, 2) := by decide +kernel
theorem dX2_method_78 : decode cX2_method 78 = .ok (.invokevirtual 111, 3) := by decide +kernel
theorem dX2_method_81 : decode cX2_method 81 = .ok (.istore 5, 2) := by decide +kernel
theorem dX2_method_83 : decode cX2_method 83 = .ok (.iload 5, 2) := by decide +kernel
theorem dX2_method_85 : decode cX2_method 85 = .ok (.aload_n 0, 1) := by decide +kernel
theorem dX2_method_86 : decode cX2_method 86 = .ok (.aload_n 1, 1) := by decide +kernel
theorem dX2_method_87 : decode cX2_method 87 = .ok (.getfield 193, 3) := by decide +kernel
theorem dX2_method_90 : decode cX2_method 90 = .ok (.aload_n 2, 1) := by decide +kernel
theorem dX2_method_91 : decode cX2_method 91 = .ok (.getfield 193, 3) := by decide +kernel
theorem dX2_method_94 : decode cX2_method 94 = .ok (.bipush 35, 2) := by decide +kernel
theorem dX2_method_96 : decode cX2_method 96 = .ok (.iload_n 3, 1) := by decide +kernel
theorem dX2_method_97 : decode cX2_method 97 = .ok (.iload 4, 2) := by decide +kernel
theorem dX2_method_99 : decode cX2_method 99 = .ok (.invokevirtual 111, 3) := by decide +kernel
theorem dX2_method_102 : decode cX2_method 102 = .ok (.iadd, 1) := by decide +kernel
theorem dX2_method_103 : decode cX2_method 103 = .ok (.istore 5, 2) := by decide +kernel
theorem dX2_method_105 : decode cX2_method 105 = .ok (.iload 5, 2) := by decide +kernel
theorem dX2_method_107 : decode cX2_method 107 = .ok (.aload_n 0, 1) := by decide +kernel
theorem dX2_method_108 : decode cX2_method 108 = .ok (.aload_n 1, 1) := by decide +kernel
theorem dX2_method_109 : decode cX2_method 109 = .ok (.getfield 171, 3) := by decide +kernel
theorem dX2_method_112 : decode cX2_method 112 = .ok (.aload_n 2, 1) := by decide +kernel
theorem dX2_method_113 : decode cX2_method 113 = .ok (.getfield 171, 3) := by decide +kernel
theorem dX2_method_116 : decode cX2_method 116 = .ok (.bipush 37, 2) := by decide +kernel
theorem dX2_method_118 : decode cX2_method 118 = .ok (.iload_n 3, 1) := by decide +kernel
theorem dX2_method_119 : decode cX2_method 119 = .ok (.iload 4, 2) := by decide +kernel
theorem dX2_method_121 : decode cX2_method 121 = .ok (.invokevirtual 174, 3) := by decide +kernel
theorem dX2_method_124 : decode cX2_method 124 = .ok (.iadd, 1) := by decide +kernel
theorem dX2_method_125 : decode cX2_method 125 = .ok (.istore 5, 2) := by decide +kernel

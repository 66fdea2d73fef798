theorem dX13_sameTokens_11 : decode cX13_sameTokens 11 = .ok (.iconst 2, 1) := by decide +kernel
theorem dX13_sameTokens_12 : decode cX13_sameTokens 12 = .ok (.goto 16, 3) := by decide +kernel
theorem dX13_sameTokens_15 : decode cX13_sameTokens 15 = .ok (.aload_n 0, 1) := by decide +kernel
theorem dX13_sameTokens_16 : decode cX13_sameTokens 16 = .ok (.getfield 374, 3) := by decide +kernel
theorem dX13_sameTokens_19 : decode cX13_sameTokens 19 = .ok (.iload_n 1, 1) := by decide +kernel
theorem dX13_sameTokens_20 : decode cX13_sameTokens 20 = .ok (.iaload, 1) := by decide +kernel
theorem dX13_sameTokens_21 : decode cX13_sameTokens 21 = .ok (.aload_n 0, 1) := by decide +kernel
theorem dX13_sameTokens_22 : decode cX13_sameTokens 22 = .ok (.getfield 371, 3) := by decide +kernel
theorem dX13_sameTokens_25 : decode cX13_sameTokens 25 = .ok (.iload_n 1, 1) := by decide +kernel
theorem dX13_sameTokens_26 : decode cX13_sameTokens 26 = .ok (.iaload, 1) := by decide +kernel
theorem dX13_sameTokens_27 : decode cX13_sameTokens 27 = .ok (.isub, 1) := by decide +kernel
theorem dX13_sameTokens_28 : decode cX13_sameTokens 28 = .ok (.istore_n 3, 1) := by decide +kernel
theorem dX13_sameTokens_29 : decode cX13_sameTokens 29 = .ok (.aload_n 0, 1) := by decide +kernel
theorem dX13_sameTokens_30 : decode cX13_sameTokens 30 = .ok (.getfield 368, 3) := by decide +kernel
theorem dX13_sameTokens_33 : decode cX13_sameTokens 33 = .ok (.iload_n 2, 1) := by decide +kernel
theorem dX13_sameTokens_34 : decode cX13_sameTokens 34 = .ok (.iaload, 1) := by decide +kernel
theorem dX13_sameTokens_35 : decode cX13_sameTokens 35 = .ok (.bipush (-2), 2) := by decide +kernel
theorem dX13_sameTokens_37 : decode cX13_sameTokens 37 = .ok (.if_icmp .ne 7, 3) := by decide +kernel
theorem dX13_sameTokens_40 : decode cX13_sameTokens 40 = .ok (.iconst 2, 1) := by decide +kernel
theorem dX13_sameTokens_41 : decode cX13_sameTokens 41 = .ok (.goto 16, 3) := by decide +kernel
theorem dX13_sameTokens_44 : decode cX13_sameTokens 44 = .ok (.aload_n 0, 1) := by decide +kernel
theorem dX13_sameTokens_45 : decode cX13_sameTokens 45 = .ok (.getfield 374, 3) := by decide +kernel
theorem dX13_sameTokens_48 : decode cX13_sameTokens 48 = .ok (.iload_n 2, 1) := by decide +kernel
theorem dX13_sameTokens_49 : decode cX13_sameTokens 49 = .ok (.iaload, 1) := by decide +kernel
theorem dX13_sameTokens_50 : decode cX13_sameTokens 50 = .ok (.aload_n 0, 1) := by decide +kernel
theorem dX13_sameTokens_51 : decode cX13_sameTokens 51 = .ok (.getfield 371, 3) := by decide +kernel
theorem dX13_sameTokens_54 : decode cX13_sameTokens 54 = .ok (.iload_n 2, 1) := by decide +kernel
theorem dX13_sameTokens_55 : decode cX13_sameTokens 55 = .ok (.iaload, 1) := by decide +kernel
theorem dX13_sameTokens_56 : decode cX13_sameTokens 56 = .ok (.isub, 1) := by decide +kernel
theorem dX13_sameTokens_57 : decode cX13_sameTokens 57 = .ok (.istore 4, 2) := by decide +kernel
theorem dX13_sameTokens_59 : decode cX13_sameTokens 59 = .ok (.iload_n 3, 1) := by decide +kernel
theorem dX13_sameTokens_60 : decode cX13_sameTokens 60 = .ok (.iload 4, 2) := by decide +kernel
theorem dX13_sameTokens_62 : decode cX13_sameTokens 62 = .ok (.if_icmp .ne 7, 3) := by decide +kernel
theorem dX13_sameTokens_65 : decode cX13_sameTokens 65 = .ok (.iconst 1, 1) := by decide +kernel
theorem dX13_sameTokens_66 : decode cX13_sameTokens 66 = .ok (.goto 4, 3) := by decide +kernel
theorem dX13_sameTokens_69 : decode cX13_sameTokens 69 = .ok (.iconst 0, 1) := by decide +kernel
theorem dX13_sameTokens_70 : decode cX13_sameTokens 70 = .ok (.istore 5, 2) := by decide +kernel
theorem dX13_sameTokens_72 : decode cX13_sameTokens 72 = .ok (.aload_n 0, 1) := by decide +kernel
theorem dX13_sameTokens_73 : decode cX13_sameTokens 73 = .ok (.getfield 368, 3) := by decide +kernel
theorem dX13_sameTokens_76 : decode cX13_sameTokens 76 = .ok (.iload_n 1, 1) := by decide +kernel
theorem dX13_sameTokens_77 : decode cX13_sameTokens 77 = .ok (.iaload, 1) := by decide +kernel
theorem dX13_sameTokens_78 : decode cX13_sameTokens 78 = .ok (.bipush (-2), 2) := by decide +kernel
theorem dX13_sameTokens_80 : decode cX13_sameTokens 80 = .ok (.if_icmp .eq 14, 3) := by decide +kernel
theorem dX13_sameTokens_83 : decode cX13_sameTokens 83 = .ok (.aload_n 0, 1) := by decide +kernel
theorem dX13_sameTokens_84 : decode cX13_sameTokens 84 = .ok (.getfield 368, 3) := by decide +kernel
theorem dX13_sameTokens_87 : decode cX13_sameTokens 87 = .ok (.iload_n 2, 1) := by decide +kernel
theorem dX13_sameTokens_88 : decode cX13_sameTokens 88 = .ok (.iaload, 1) := by decide +kernel
theorem dX13_sameTokens_89 : decode cX13_sameTokens 89 = .ok (.bipush (-2), 2) := by decide +kernel
theorem dX13_sameTokens_91 : decode cX13_sameTokens 91 = .ok (.if_icmp .ne 6, 3) := by decide +kernel
theorem dX13_sameTokens_94 : decode cX13_sameTokens 94 = .ok (.iload 5, 2) := by decide +kernel
theorem dX13_sameTokens_96 : decode cX13_sameTokens 96 = .ok (.ireturn, 1) := by decide +kernel
theorem dX13_sameTokens_97 : decode cX13_sameTokens 97 = .ok (.iload_n 1, 1) := by decide +kernel
theorem dX13_sameTokens_98 : decode cX13_sameTokens 98 = .ok (.bipush 34, 2) := by decide +kernel
theorem dX13_sameTokens_100 : decode cX13_sameTokens 100 = .ok (.idiv, 1) := by decide +kernel
theorem dX13_sameTokens_101 : decode cX13_sameTokens 101 = .ok (.bipush 12, 2) := by decide +kernel
theorem dX13_sameTokens_103 : decode cX13_sameTokens 103 = .ok (.idiv, 1) := by decide +kernel
theorem dX13_sameTokens_104 : decode cX13_sameTokens 104 = .ok (.sipush 702, 3) := by decide +kernel
theorem dX13_sameTokens_107 : decode cX13_sameTokens 107 = .ok (.imul, 1) := by decide +kernel
theorem dX13_sameTokens_108 : decode cX13_sameTokens 108 = .ok (.aload_n 0, 1) := by decide +kernel
theorem dX13_sameTokens_109 : decode cX13_sameTokens 109 = .ok (.getfield 371, 3) := by decide +kernel
theorem dX13_sameTokens_112 : decode cX13_sameTokens 112 = .ok (.iload_n 1, 1) := by decide +kernel
theorem dX13_sameTokens_113 : decode cX13_sameTokens 113 = .ok (.iaload, 1) := by decide +kernel
theorem dX13_sameTokens_114 : decode cX13_sameTokens 114 = .ok (.iadd, 1) := by decide +kernel
theorem dX13_sameTokens_115 : decode cX13_sameTokens 115 = .ok (.istore 6, 2) := by decide +kernel
theorem dX13_sameTokens_117 : decode cX13_sameTokens 117 = .ok (.iload_n 2, 1) := by decide +kernel
theorem dX13_sameTokens_118 : decode cX13_sameTokens 118 = .ok (.bipush 34, 2) := by decide +kernel
theorem dX13_sameTokens_120 : decode cX13_sameTokens 120 = .ok (.idiv, 1) := by decide +kernel
theorem dX13_sameTokens_121 : decode cX13_sameTokens 121 = .ok (.bipush 12, 2) := by decide +kernel
theorem dX13_sameTokens_123 : decode cX13_sameTokens 123 = .ok (.idiv, 1) := by decide +kernel
theorem dX13_sameTokens_124 : decode cX13_sameTokens 124 = .ok (.sipush 702, 3) := by decide +kernel
theorem dX13_sameTokens_127 : decode cX13_sameTokens 127 = .ok (.imul, 1) := by decide +kernel
theorem dX13_sameTokens_128 : decode cX13_sameTokens 128 = .ok (.aload_n 0, 1) := by decide +kernel
theorem dX13_sameTokens_129 : decode cX13_sameTokens 129 = .ok (.getfield 371, 3) := by decide +kernel
theorem dX13_sameTokens_132 : decode cX13_sameTokens 132 = .ok (.iload_n 2, 1) := by decide +kernel
theorem dX13_sameTokens_133 : decode cX13_sameTokens 133 = .ok (.iaload, 1) := by decide +kernel
theorem dX13_sameTokens_134 : decode cX13_sameTokens 134 = .ok (.iadd, 1) := by decide +kernel
theorem dX13_sameTokens_135 : decode cX13_sameTokens 135 = .ok (.istore 7, 2) := by decide +kernel
theorem dX13_sameTokens_137 : decode cX13_sameTokens 137 = .ok (.iconst 0, 1) := by decide +kernel
theorem dX13_sameTokens_138 : decode cX13_sameTokens 138 = .ok (.istore 8, 2) := by decide +kernel
theorem dX13_sameTokens_140 : decode cX13_sameTokens 140 = .ok (.iload 8, 2) := by decide +kernel
theorem dX13_sameTokens_142 : decode cX13_sameTokens 142 = .ok (.iload_n 3, 1) := by decide +kernel
theorem dX13_sameTokens_143 : decode cX13_sameTokens 143 = .ok (.if_icmp .ge 30, 3) := by decide +kernel
theorem dX13_sameTokens_146 : decode cX13_sameTokens 146 = .ok (.iload 5, 2) := by decide +kernel
theorem dX13_sameTokens_148 : decode cX13_sameTokens 148 = .ok (.ifCond .eq 25, 3) := by decide +kernel
theorem dX13_sameTokens_151 : decode cX13_sameTokens 151 = .ok (.aload_n 0, 1) := by decide +kernel
theorem dX13_sameTokens_152 : decode cX13_sameTokens 152 = .ok (.iload 6, 2) := by decide +kernel
theorem dX13_sameTokens_154 : decode cX13_sameTokens 154 = .ok (.iload 8, 2) := by decide +kernel
theorem dX13_sameTokens_156 : decode cX13_sameTokens 156 = .ok (.iadd, 1) := by decide +kernel
theorem dX13_sameTokens_157 : decode cX13_sameTokens 157 = .ok (.iload 7, 2) := by decide +kernel
theorem dX13_sameTokens_159 : decode cX13_sameTokens 159 = .ok (.iload 8, 2) := by decide +kernel
theorem dX13_sameTokens_161 : decode cX13_sameTokens 161 = .ok (.iadd, 1) := by decide +kernel
theorem dX13_sameTokens_162 : decode cX13_sameTokens 162 = .ok (.invokevirtual 1423, 3) := by decide +kernel
theorem dX13_sameTokens_165 : decode cX13_sameTokens 165 = .ok (.istore 5, 2) := by decide +kernel
theorem dX13_sameTokens_167 : decode cX13_sameTokens 167 = .ok (.iinc 8 1, 3) := by decide +kernel
theorem dX13_sameTokens_170 : decode cX13_sameTokens 170 = .ok (.goto (-30), 3) := by decide +kernel
theorem dX13_sameTokens_173 : decode cX13_sameTokens 173 = .ok (.iload 5, 2) := by decide +kernel
theorem dX13_sameTokens_175 : decode cX13_sameTokens 175 = .ok (.ireturn, 1) := by decide +kernel
theorem dX13_isRest_0 : decode cX13_isRest 0 = .ok (.aload_n 0, 1) := by decide +kernel
theorem dX13_isRest_1 : decode cX13_isRest 1 = .ok (.getfield 402, 3) := by decide +kernel
theorem dX13_isRest_4 : decode cX13_isRest 4 = .ok (.iload_n 1, 1) := by decide +kernel
theorem dX13_isRest_5 : decode cX13_isRest 5 = .ok (.iaload, 1) := by decide +kernel
theorem dX13_isRest_6 : decode cX13_isRest 6 = .ok (.iconst 3, 1) := by decide +kernel
theorem dX13_isRest_7 : decode cX13_isRest 7 = .ok (.if_icmp .eq 32, 3) := by decide +kernel
theorem dX13_isRest_10 : decode cX13_isRest 10 = .ok (.aload_n 0, 1) := by decide +kernel
theorem dX13_isRest_11 : decode cX13_isRest 11 = .ok (.getfield 402, 3) := by decide +kernel
theorem dX13_isRest_14 : decode cX13_isRest 14 = .ok (.iload_n 1, 1) := by decide +kernel
theorem dX13_isRest_15 : decode cX13_isRest 15 = .ok (.iaload, 1) := by decide +kernel
theorem dX13_isRest_16 : decode cX13_isRest 16 = .ok (.ifCond .ne 27, 3) := by decide +kernel
theorem dX13_isRest_19 : decode cX13_isRest 19 = .ok (.aload_n 0, 1) := by decide +kernel
theorem dX13_isRest_20 : decode cX13_isRest 20 = .ok (.getfield 365, 3) := by decide +kernel
theorem dX13_isRest_23 : decode cX13_isRest 23 = .ok (.iload_n 1, 1) := by decide +kernel
theorem dX13_isRest_24 : decode cX13_isRest 24 = .ok (.iaload, 1) := by decide +kernel
theorem dX13_isRest_25 : decode cX13_isRest 25 = .ok (.bipush (-2), 2) := by decide +kernel
theorem dX13_isRest_27 : decode cX13_isRest 27 = .ok (.if_icmp .eq 16, 3) := by decide +kernel
theorem dX13_isRest_30 : decode cX13_isRest 30 = .ok (.aload_n 0, 1) := by decide +kernel
theorem dX13_isRest_31 : decode cX13_isRest 31 = .ok (.getfield 377, 3) := by decide +kernel
theorem dX13_isRest_34 : decode cX13_isRest 34 = .ok (.iload_n 1, 1) := by decide +kernel
theorem dX13_isRest_35 : decode cX13_isRest 35 = .ok (.baload, 1) := by decide +kernel
theorem dX13_isRest_36 : decode cX13_isRest 36 = .ok (.ifCond .ne 7, 3) := by decide +kernel
theorem dX13_isRest_39 : decode cX13_isRest 39 = .ok (.iconst 1, 1) := by decide +kernel
theorem dX13_isRest_40 : decode cX13_isRest 40 = .ok (.goto 4, 3) := by decide +kernel
theorem dX13_isRest_43 : decode cX13_isRest 43 = .ok (.iconst 0, 1) := by decide +kernel
theorem dX13_isRest_44 : decode cX13_isRest 44 = .ok (.ireturn, 1) := by decide +kernel
theorem dX13_rest_0 : decode cX13_rest 0 = .ok (.iconst 0, 1) := by decide +kernel
theorem dX13_rest_1 : decode cX13_rest 1 = .ok (.istore_n 3, 1) := by decide +kernel
theorem dX13_rest_2 : decode cX13_rest 2 = .ok (.iconst 0, 1) := by decide +kernel
theorem dX13_rest_3 : decode cX13_rest 3 = .ok (.istore 4, 2) := by decide +kernel
theorem dX13_rest_5 : decode cX13_rest 5 = .ok (.iload 4, 2) := by decide +kernel
theorem dX13_rest_7 : decode cX13_rest 7 = .ok (.aload_n 0, 1) := by decide +kernel
theorem dX13_rest_8 : decode cX13_rest 8 = .ok (.getfield 275, 3) := by decide +kernel
theorem dX13_rest_11 : decode cX13_rest 11 = .ok (.iload_n 1, 1) := by decide +kernel
theorem dX13_rest_12 : decode cX13_rest 12 = .ok (.iaload, 1) := by decide +kernel
theorem dX13_rest_13 : decode cX13_rest 13 = .ok (.if_icmp .ge 71, 3) := by decide +kernel
theorem dX13_rest_16 : decode cX13_rest 16 = .ok (.iload_n 1, 1) := by decide +kernel
theorem dX13_rest_17 : decode cX13_rest 17 = .ok (.bipush 34, 2) := by decide +kernel
theorem dX13_rest_19 : decode cX13_rest 19 = .ok (.imul, 1) := by decide +kernel
theorem dX13_rest_20 : decode cX13_rest 20 = .ok (.iload 4, 2) := by decide +kernel
theorem dX13_rest_22 : decode cX13_rest 22 = .ok (.iadd, 1) := by decide +kernel
theorem dX13_rest_23 : decode cX13_rest 23 = .ok (.istore 5, 2) := by decide +kernel
theorem dX13_rest_25 : decode cX13_rest 25 = .ok (.aload_n 0, 1) := by decide +kernel
theorem dX13_rest_26 : decode cX13_rest 26 = .ok (.getfield 371, 3) := by decide +kernel
theorem dX13_rest_29 : decode cX13_rest 29 = .ok (.iload 5, 2) := by decide +kernel
theorem dX13_rest_31 : decode cX13_rest 31 = .ok (.iaload, 1) := by decide +kernel
theorem dX13_rest_32 : decode cX13_rest 32 = .ok (.istore 6, 2) := by decide +kernel
theorem dX13_rest_34 : decode cX13_rest 34 = .ok (.aload_n 0, 1) := by decide +kernel
theorem dX13_rest_35 : decode cX13_rest 35 = .ok (.iload 5, 2) := by decide +kernel
theorem dX13_rest_37 : decode cX13_rest 37 = .ok (.invokevirtual 1426, 3) := by decide +kernel
theorem dX13_rest_40 : decode cX13_rest 40 = .ok (.ifCond .eq 38, 3) := by decide +kernel
theorem dX13_rest_43 : decode cX13_rest 43 = .ok (.iload 6, 2) := by decide +kernel
theorem dX13_rest_45 : decode cX13_rest 45 = .ok (.aload_n 0, 1) := by decide +kernel
theorem dX13_rest_46 : decode cX13_rest 46 = .ok (.getfield 374, 3) := by decide +kernel
theorem dX13_rest_49 : decode cX13_rest 49 = .ok (.iload 5, 2) := by decide +kernel
theorem dX13_rest_51 : decode cX13_rest 51 = .ok (.iaload, 1) := by decide +kernel
theorem dX13_rest_52 : decode cX13_rest 52 = .ok (.if_icmp .ge 26, 3) := by decide +kernel
theorem dX13_rest_55 : decode cX13_rest 55 = .ok (.aload_n 2, 1) := by decide +kernel
theorem dX13_rest_56 : decode cX13_rest 56 = .ok (.iload_n 3, 1) := by decide +kernel
theorem dX13_rest_57 : decode cX13_rest 57 = .ok (.iinc 3 1, 3) := by decide +kernel
theorem dX13_rest_60 : decode cX13_rest 60 = .ok (.iload_n 1, 1) := by decide +kernel
theorem dX13_rest_61 : decode cX13_rest 61 = .ok (.bipush 12, 2) := by decide +kernel
theorem dX13_rest_63 : decode cX13_rest 63 = .ok (.idiv, 1) := by decide +kernel
theorem dX13_rest_64 : decode cX13_rest 64 = .ok (.sipush 702, 3) := by decide +kernel
theorem dX13_rest_67 : decode cX13_rest 67 = .ok (.imul, 1) := by decide +kernel
theorem dX13_rest_68 : decode cX13_rest 68 = .ok (.iload 6, 2) := by decide +kernel
theorem dX13_rest_70 : decode cX13_rest 70 = .ok (.iadd, 1) := by decide +kernel
theorem dX13_rest_71 : decode cX13_rest 71 = .ok (.iastore, 1) := by decide +kernel
theorem dX13_rest_72 : decode cX13_rest 72 = .ok (.iinc 6 1, 3) := by decide +kernel
theorem dX13_rest_75 : decode cX13_rest 75 = .ok (.goto (-41), 3) := by decide +kernel
theorem dX13_rest_78 : decode cX13_rest 78 = .ok (.iinc 4 1, 3) := by decide +kernel
theorem dX13_rest_81 : decode cX13_rest 81 = .ok (.goto (-76), 3) := by decide +kernel
theorem dX13_rest_84 : decode cX13_rest 84 = .ok (.iload_n 3, 1) := by decide +kernel
theorem dX13_rest_85 : decode cX13_rest 85 = .ok (.ireturn, 1) := by decide +kernel
theorem dX13_sameRest_0 : decode cX13_sameRest 0 = .ok (.aload_n 0, 1) := by decide +kernel
theorem dX13_sameRest_1 : decode cX13_sameRest 1 = .ok (.iload_n 1, 1) := by decide +kernel
theorem dX13_sameRest_2 : decode cX13_sameRest 2 = .ok (.aload_n 0, 1) := by decide +kernel
theorem dX13_sameRest_3 : decode cX13_sameRest 3 = .ok (.getfield 1429, 3) := by decide +kernel
theorem dX13_sameRest_6 : decode cX13_sameRest 6 = .ok (.invokevirtual 1432, 3) := by decide +kernel
theorem dX13_sameRest_9 : decode cX13_sameRest 9 = .ok (.istore_n 3, 1) := by decide +kernel
theorem dX13_sameRest_10 : decode cX13_sameRest 10 = .ok (.aload_n 0, 1) := by decide +kernel
theorem dX13_sameRest_11 : decode cX13_sameRest 11 = .ok (.iload_n 2, 1) := by decide +kernel
theorem dX13_sameRest_12 : decode cX13_sameRest 12 = .ok (.aload_n 0, 1) := by decide +kernel
theorem dX13_sameRest_13 : decode cX13_sameRest 13 = .ok (.getfield 1435, 3) := by decide +kernel
theorem dX13_sameRest_16 : decode cX13_sameRest 16 = .ok (.invokevirtual 1432, 3) := by decide +kernel
theorem dX13_sameRest_19 : decode cX13_sameRest 19 = .ok (.iload_n 3, 1) := by decide +kernel
theorem dX13_sameRest_20 : decode cX13_sameRest 20 = .ok (.if_icmp .ne 7, 3) := by decide +kernel
theorem dX13_sameRest_23 : decode cX13_sameRest 23 = .ok (.iconst 1, 1) := by decide +kernel
theorem dX13_sameRest_24 : decode cX13_sameRest 24 = .ok (.goto 4, 3) := by decide +kernel
theorem dX13_sameRest_27 : decode cX13_sameRest 27 = .ok (.iconst 0, 1) := by decide +kernel
theorem dX13_sameRest_28 : decode cX13_sameRest 28 = .ok (.istore 4, 2) := by decide +kernel
theorem dX13_sameRest_30 : decode cX13_sameRest 30 = .ok (.iconst 0, 1) := by decide +kernel
theorem dX13_sameRest_31 : decode cX13_sameRest 31 = .ok (.istore 5, 2) := by decide +kernel
theorem dX13_sameRest_33 : decode cX13_sameRest 33 = .ok (.iload 5, 2) := by decide +kernel
theorem dX13_sameRest_35 : decode cX13_sameRest 35 = .ok (.iload_n 3, 1) := by decide +kernel
theorem dX13_sameRest_36 : decode cX13_sameRest 36 = .ok (.if_icmp .ge 34, 3) := by decide +kernel
theorem dX13_sameRest_39 : decode cX13_sameRest 39 = .ok (.iload 4, 2) := by decide +kernel
theorem dX13_sameRest_41 : decode cX13_sameRest 41 = .ok (.ifCond .eq 29, 3) := by decide +kernel
theorem dX13_sameRest_44 : decode cX13_sameRest 44 = .ok (.aload_n 0, 1) := by decide +kernel
theorem dX13_sameRest_45 : decode cX13_sameRest 45 = .ok (.aload_n 0, 1) := by decide +kernel
theorem dX13_sameRest_46 : decode cX13_sameRest 46 = .ok (.getfield 1429, 3) := by decide +kernel
theorem dX13_sameRest_49 : decode cX13_sameRest 49 = .ok (.iload 5, 2) := by decide +kernel
theorem dX13_sameRest_51 : decode cX13_sameRest 51 = .ok (.iaload, 1) := by decide +kernel
theorem dX13_sameRest_52 : decode cX13_sameRest 52 = .ok (.aload_n 0, 1) := by decide +kernel
theorem dX13_sameRest_53 : decode cX13_sameRest 53 = .ok (.getfield 1435, 3) := by decide +kernel
theorem dX13_sameRest_56 : decode cX13_sameRest 56 = .ok (.iload 5, 2) := by decide +kernel
theorem dX13_sameRest_58 : decode cX13_sameRest 58 = .ok (.iaload, 1) := by decide +kernel
theorem dX13_sameRest_59 : decode cX13_sameRest 59 = .ok (.invokevirtual 1423, 3) := by decide +kernel
theorem dX13_sameRest_62 : decode cX13_sameRest 62 = .ok (.istore 4, 2) := by decide +kernel
theorem dX13_sameRest_64 : decode cX13_sameRest 64 = .ok (.iinc 5 1, 3) := by decide +kernel
theorem dX13_sameRest_67 : decode cX13_sameRest 67 = .ok (.goto (-34), 3) := by decide +kernel
theorem dX13_sameRest_70 : decode cX13_sameRest 70 = .ok (.iload 4, 2) := by decide +kernel
theorem dX13_sameRest_72 : decode cX13_sameRest 72 = .ok (.ireturn, 1) := by decide +kernel
theorem dX13_change_0 : decode cX13_change 0 = .ok (.iload_n 1, 1) := by decide +kernel
theorem dX13_change_1 : decode cX13_change 1 = .ok (.ifCond .lt 20, 3) := by decide +kernel
theorem dX13_change_4 : decode cX13_change 4 = .ok (.iload_n 1, 1) := by decide +kernel
theorem dX13_change_5 : decode cX13_change 5 = .ok (.aload_n 0, 1) := by decide +kernel
theorem dX13_change_6 : decode cX13_change 6 = .ok (.getfield 1376, 3) := by decide +kernel
theorem dX13_change_9 : decode cX13_change 9 = .ok (.if_icmp .ge 12, 3) := by decide +kernel
theorem dX13_change_12 : decode cX13_change 12 = .ok (.iload_n 2, 1) := by decide +kernel
theorem dX13_change_13 : decode cX13_change 13 = .ok (.ifCond .lt 8, 3) := by decide +kernel
theorem dX13_change_16 : decode cX13_change 16 = .ok (.iload_n 2, 1) := by decide +kernel
theorem dX13_change_17 : decode cX13_change 17 = .ok (.iconst 4, 1) := by decide +kernel
theorem dX13_change_18 : decode cX13_change 18 = .ok (.if_icmp .le 7, 3) := by decide +kernel
theorem dX13_change_21 : decode cX13_change 21 = .ok (.iconst (-1), 1) := by decide +kernel
theorem dX13_change_22 : decode cX13_change 22 = .ok (.goto 13, 3) := by decide +kernel
theorem dX13_change_25 : decode cX13_change 25 = .ok (.aload_n 0, 1) := by decide +kernel
theorem dX13_change_26 : decode cX13_change 26 = .ok (.getfield 1379, 3) := by decide +kernel
theorem dX13_change_29 : decode cX13_change 29 = .ok (.iconst 5, 1) := by decide +kernel
theorem dX13_change_30 : decode cX13_change 30 = .ok (.iload_n 1, 1) := by decide +kernel
theorem dX13_change_31 : decode cX13_change 31 = .ok (.imul, 1) := by decide +kernel
theorem dX13_change_32 : decode cX13_change 32 = .ok (.iload_n 2, 1) := by decide +kernel
theorem dX13_change_33 : decode cX13_change 33 = .ok (.iadd, 1) := by decide +kernel
theorem dX13_change_34 : decode cX13_change 34 = .ok (.iaload, 1) := by decide +kernel
theorem dX13_change_35 : decode cX13_change 35 = .ok (.ireturn, 1) := by decide +kernel
theorem dX13_weight_0 : decode cX13_weight 0 = .ok (.iload_n 0, 1) := by decide +kernel
theorem dX13_weight_1 : decode cX13_weight 1 = .ok (.bipush 39, 2) := by decide +kernel
theorem dX13_weight_3 : decode cX13_weight 3 = .ok (.if_icmp .eq 15, 3) := by decide +kernel
theorem dX13_weight_6 : decode cX13_weight 6 = .ok (.iload_n 0, 1) := by decide +kernel
theorem dX13_weight_7 : decode cX13_weight 7 = .ok (.bipush 53, 2) := by decide +kernel
theorem dX13_weight_9 : decode cX13_weight 9 = .ok (.if_icmp .eq 9, 3) := by decide +kernel
theorem dX13_weight_12 : decode cX13_weight 12 = .ok (.iload_n 0, 1) := by decide +kernel
theorem dX13_weight_13 : decode cX13_weight 13 = .ok (.bipush 60, 2) := by decide +kernel
theorem dX13_weight_15 : decode cX13_weight 15 = .ok (.if_icmp .ne 5, 3) := by decide +kernel
theorem dX13_weight_18 : decode cX13_weight 18 = .ok (.iconst 1, 1) := by decide +kernel
theorem dX13_weight_19 : decode cX13_weight 19 = .ok (.ireturn, 1) := by decide +kernel
theorem dX13_weight_20 : decode cX13_weight 20 = .ok (.iconst 0, 1) := by decide +kernel
theorem dX13_weight_21 : decode cX13_weight 21 = .ok (.istore_n 1, 1) := by decide +kernel
theorem dX13_weight_22 : decode cX13_weight 22 = .ok (.iload_n 1, 1) := by decide +kernel
theorem dX13_weight_23 : decode cX13_weight 23 = .ok (.getstatic 1438, 3) := by decide +kernel
theorem dX13_weight_26 : decode cX13_weight 26 = .ok (.arraylength, 1) := by decide +kernel
theorem dX13_weight_27 : decode cX13_weight 27 = .ok (.if_icmp .ge 20, 3) := by decide +kernel
theorem dX13_weight_30 : decode cX13_weight 30 = .ok (.getstatic 1438, 3) := by decide +kernel
theorem dX13_weight_33 : decode cX13_weight 33 = .ok (.iload_n 1, 1) := by decide +kernel
theorem dX13_weight_34 : decode cX13_weight 34 = .ok (.iaload, 1) := by decide +kernel
theorem dX13_weight_35 : decode cX13_weight 35 = .ok (.iload_n 0, 1) := by decide +kernel
theorem dX13_weight_36 : decode cX13_weight 36 = .ok (.if_icmp .ne 5, 3) := by decide +kernel
theorem dX13_weight_39 : decode cX13_weight 39 = .ok (.iconst 3, 1) := by decide +kernel
theorem dX13_weight_40 : decode cX13_weight 40 = .ok (.ireturn, 1) := by decide +kernel
theorem dX13_weight_41 : decode cX13_weight 41 = .ok (.iinc 1 1, 3) := by decide +kernel
theorem dX13_weight_44 : decode cX13_weight 44 = .ok (.goto (-22), 3) := by decide +kernel
theorem dX13_weight_47 : decode cX13_weight 47 = .ok (.iconst 2, 1) := by decide +kernel
theorem dX13_weight_48 : decode cX13_weight 48 = .ok (.ireturn, 1) := by decide +kernel
theorem dX13_word_0 : decode cX13_word 0 = .ok (.aload_n 0, 1) := by decide +kernel
theorem dX13_word_1 : decode cX13_word 1 = .ok (.iload_n 1, 1) := by decide +kernel
theorem dX13_word_2 : decode cX13_word 2 = .ok (.iload_n 2, 1) := by decide +kernel
theorem dX13_word_3 : decode cX13_word 3 = .ok (.invokevirtual 992, 3) := by decide +kernel
theorem dX13_word_6 : decode cX13_word 6 = .ok (.istore 4, 2) := by decide +kernel
theorem dX13_word_8 : decode cX13_word 8 = .ok (.aload_n 0, 1) := by decide +kernel
theorem dX13_word_9 : decode cX13_word 9 = .ok (.iload_n 1, 1) := by decide +kernel
theorem dX13_word_10 : decode cX13_word 10 = .ok (.iload_n 3, 1) := by decide +kernel
theorem dX13_word_11 : decode cX13_word 11 = .ok (.invokevirtual 992, 3) := by decide +kernel
theorem dX13_word_14 : decode cX13_word 14 = .ok (.istore 5, 2) := by decide +kernel
theorem dX13_word_16 : decode cX13_word 16 = .ok (.iload 4, 2) := by decide +kernel
theorem dX13_word_18 : decode cX13_word 18 = .ok (.bipush (-2), 2) := by decide +kernel
theorem dX13_word_20 : decode cX13_word 20 = .ok (.if_icmp .eq 10, 3) := by decide +kernel
theorem dX13_word_23 : decode cX13_word 23 = .ok (.iload 5, 2) := by decide +kernel
theorem dX13_word_25 : decode cX13_word 25 = .ok (.bipush (-2), 2) := by decide +kernel
theorem dX13_word_27 : decode cX13_word 27 = .ok (.if_icmp .ne 5, 3) := by decide +kernel
theorem dX13_word_30 : decode cX13_word 30 = .ok (.iconst (-1), 1) := by decide +kernel
theorem dX13_word_31 : decode cX13_word 31 = .ok (.ireturn, 1) := by decide +kernel
theorem dX13_word_32 : decode cX13_word 32 = .ok (.aload_n 0, 1) := by decide +kernel
theorem dX13_word_33 : decode cX13_word 33 = .ok (.getfield 1376, 3) := by decide +kernel
theorem dX13_word_36 : decode cX13_word 36 = .ok (.istore 6, 2) := by decide +kernel
theorem dX13_word_38 : decode cX13_word 38 = .ok (.aload_n 0, 1) := by decide +kernel
theorem dX13_word_39 : decode cX13_word 39 = .ok (.getfield 1379, 3) := by decide +kernel
theorem dX13_word_42 : decode cX13_word 42 = .ok (.iconst 0, 1) := by decide +kernel
theorem dX13_word_43 : decode cX13_word 43 = .ok (.aload_n 0, 1) := by decide +kernel
theorem dX13_word_44 : decode cX13_word 44 = .ok (.getfield 1441, 3) := by decide +kernel
theorem dX13_word_47 : decode cX13_word 47 = .ok (.iconst 0, 1) := by decide +kernel
theorem dX13_word_48 : decode cX13_word 48 = .ok (.iconst 5, 1) := by decide +kernel
theorem dX13_word_49 : decode cX13_word 49 = .ok (.iload 6, 2) := by decide +kernel
theorem dX13_word_51 : decode cX13_word 51 = .ok (.imul, 1) := by decide +kernel
theorem dX13_word_52 : decode cX13_word 52 = .ok (.invokestatic 1444, 3) := by decide +kernel
theorem dX13_word_55 : decode cX13_word 55 = .ok (.aload_n 0, 1) := by decide +kernel
theorem dX13_word_56 : decode cX13_word 56 = .ok (.iload 4, 2) := by decide +kernel
theorem dX13_word_58 : decode cX13_word 58 = .ok (.iload 5, 2) := by decide +kernel
theorem dX13_word_60 : decode cX13_word 60 = .ok (.invokevirtual 1385, 3) := by decide +kernel
theorem dX13_word_63 : decode cX13_word 63 = .ok (.iconst 0, 1) := by decide +kernel
theorem dX13_word_64 : decode cX13_word 64 = .ok (.istore 7, 2) := by decide +kernel
theorem dX13_word_66 : decode cX13_word 66 = .ok (.iconst 0, 1) := by decide +kernel
theorem dX13_word_67 : decode cX13_word 67 = .ok (.istore 8, 2) := by decide +kernel
theorem dX13_word_69 : decode cX13_word 69 = .ok (.iload 8, 2) := by decide +kernel
theorem dX13_word_71 : decode cX13_word 71 = .ok (.aload_n 0, 1) := by decide +kernel
theorem dX13_word_72 : decode cX13_word 72 = .ok (.getfield 1376, 3) := by decide +kernel
theorem dX13_word_75 : decode cX13_word 75 = .ok (.if_icmp .ge 39, 3) := by decide +kernel
theorem dX13_word_78 : decode cX13_word 78 = .ok (.aload_n 0, 1) := by decide +kernel
theorem dX13_word_79 : decode cX13_word 79 = .ok (.getfield 1379, 3) := by decide +kernel
theorem dX13_word_82 : decode cX13_word 82 = .ok (.iconst 5, 1) := by decide +kernel
theorem dX13_word_83 : decode cX13_word 83 = .ok (.iload 8, 2) := by decide +kernel
theorem dX13_word_85 : decode cX13_word 85 = .ok (.imul, 1) := by decide +kernel
theorem dX13_word_86 : decode cX13_word 86 = .ok (.iaload, 1) := by decide +kernel
theorem dX13_word_87 : decode cX13_word 87 = .ok (.invokestatic 1450, 3) := by decide +kernel
theorem dX13_word_90 : decode cX13_word 90 = .ok (.istore 9, 2) := by decide +kernel
theorem dX13_word_92 : decode cX13_word 92 = .ok (.iload 7, 2) := by decide +kernel
theorem dX13_word_94 : decode cX13_word 94 = .ok (.iload 9, 2) := by decide +kernel
theorem dX13_word_96 : decode cX13_word 96 = .ok (.if_icmp .le 8, 3) := by decide +kernel
theorem dX13_word_99 : decode cX13_word 99 = .ok (.iload 7, 2) := by decide +kernel
theorem dX13_word_101 : decode cX13_word 101 = .ok (.goto 5, 3) := by decide +kernel
theorem dX13_word_104 : decode cX13_word 104 = .ok (.iload 9, 2) := by decide +kernel
theorem dX13_word_106 : decode cX13_word 106 = .ok (.istore 7, 2) := by decide +kernel
theorem dX13_word_108 : decode cX13_word 108 = .ok (.iinc 8 1, 3) := by decide +kernel
theorem dX13_word_111 : decode cX13_word 111 = .ok (.goto (-42), 3) := by decide +kernel
theorem dX13_word_114 : decode cX13_word 114 = .ok (.aload_n 0, 1) := by decide +kernel
theorem dX13_word_115 : decode cX13_word 115 = .ok (.iload 6, 2) := by decide +kernel
theorem dX13_word_117 : decode cX13_word 117 = .ok (.putfield 1376, 3) := by decide +kernel
theorem dX13_word_120 : decode cX13_word 120 = .ok (.aload_n 0, 1) := by decide +kernel
theorem dX13_word_121 : decode cX13_word 121 = .ok (.getfield 1441, 3) := by decide +kernel
theorem dX13_word_124 : decode cX13_word 124 = .ok (.iconst 0, 1) := by decide +kernel
theorem dX13_word_125 : decode cX13_word 125 = .ok (.aload_n 0, 1) := by decide +kernel
theorem dX13_word_126 : decode cX13_word 126 = .ok (.getfield 1379, 3) := by decide +kernel
theorem dX13_word_129 : decode cX13_word 129 = .ok (.iconst 0, 1) := by decide +kernel
theorem dX13_word_130 : decode cX13_word 130 = .ok (.iconst 5, 1) := by decide +kernel
theorem dX13_word_131 : decode cX13_word 131 = .ok (.iload 6, 2) := by decide +kernel
theorem dX13_word_133 : decode cX13_word 133 = .ok (.imul, 1) := by decide +kernel
theorem dX13_word_134 : decode cX13_word 134 = .ok (.invokestatic 1444, 3) := by decide +kernel
theorem dX13_word_137 : decode cX13_word 137 = .ok (.iload 7, 2) := by decide +kernel
theorem dX13_word_139 : decode cX13_word 139 = .ok (.ireturn, 1) := by decide +kernel
theorem dX13_weave_0 : decode cX13_weave 0 = .ok (.aload_n 0, 1) := by decide +kernel
theorem dX13_weave_1 : decode cX13_weave 1 = .ok (.iload_n 1, 1) := by decide +kernel
theorem dX13_weave_2 : decode cX13_weave 2 = .ok (.iload_n 2, 1) := by decide +kernel
theorem dX13_weave_3 : decode cX13_weave 3 = .ok (.invokevirtual 992, 3) := by decide +kernel
theorem dX13_weave_6 : decode cX13_weave 6 = .ok (.istore 4, 2) := by decide +kernel
theorem dX13_weave_8 : decode cX13_weave 8 = .ok (.aload_n 0, 1) := by decide +kernel
theorem dX13_weave_9 : decode cX13_weave 9 = .ok (.iload_n 1, 1) := by decide +kernel
theorem dX13_weave_10 : decode cX13_weave 10 = .ok (.iload_n 3, 1) := by decide +kernel
theorem dX13_weave_11 : decode cX13_weave 11 = .ok (.invokevirtual 992, 3) := by decide +kernel
theorem dX13_weave_14 : decode cX13_weave 14 = .ok (.istore 5, 2) := by decide +kernel
theorem dX13_weave_16 : decode cX13_weave 16 = .ok (.iload 4, 2) := by decide +kernel
theorem dX13_weave_18 : decode cX13_weave 18 = .ok (.bipush (-2), 2) := by decide +kernel
theorem dX13_weave_20 : decode cX13_weave 20 = .ok (.if_icmp .eq 10, 3) := by decide +kernel
theorem dX13_weave_23 : decode cX13_weave 23 = .ok (.iload 5, 2) := by decide +kernel
theorem dX13_weave_25 : decode cX13_weave 25 = .ok (.bipush (-2), 2) := by decide +kernel
theorem dX13_weave_27 : decode cX13_weave 27 = .ok (.if_icmp .ne 5, 3) := by decide +kernel
theorem dX13_weave_30 : decode cX13_weave 30 = .ok (.iconst (-1), 1) := by decide +kernel
theorem dX13_weave_31 : decode cX13_weave 31 = .ok (.ireturn, 1) := by decide +kernel
theorem dX13_weave_32 : decode cX13_weave 32 = .ok (.aload_n 0, 1) := by decide +kernel
theorem dX13_weave_33 : decode cX13_weave 33 = .ok (.getfield 535, 3) := by decide +kernel
theorem dX13_weave_36 : decode cX13_weave 36 = .ok (.iload_n 1, 1) := by decide +kernel
theorem dX13_weave_37 : decode cX13_weave 37 = .ok (.iaload, 1) := by decide +kernel
theorem dX13_weave_38 : decode cX13_weave 38 = .ok (.istore 6, 2) := by decide +kernel
theorem dX13_weave_40 : decode cX13_weave 40 = .ok (.aload_n 0, 1) := by decide +kernel
theorem dX13_weave_41 : decode cX13_weave 41 = .ok (.getfield 535, 3) := by decide +kernel
theorem dX13_weave_44 : decode cX13_weave 44 = .ok (.iload_n 1, 1) := by decide +kernel
theorem dX13_weave_45 : decode cX13_weave 45 = .ok (.iload 5, 2) := by decide +kernel
theorem dX13_weave_47 : decode cX13_weave 47 = .ok (.iastore, 1) := by decide +kernel
theorem dX13_weave_48 : decode cX13_weave 48 = .ok (.iconst 0, 1) := by decide +kernel
theorem dX13_weave_49 : decode cX13_weave 49 = .ok (.istore 7, 2) := by decide +kernel
theorem dX13_weave_51 : decode cX13_weave 51 = .ok (.iconst 0, 1) := by decide +kernel
theorem dX13_weave_52 : decode cX13_weave 52 = .ok (.istore 8, 2) := by decide +kernel
theorem dX13_weave_54 : decode cX13_weave 54 = .ok (.iconst 0, 1) := by decide +kernel
theorem dX13_weave_55 : decode cX13_weave 55 = .ok (.istore 9, 2) := by decide +kernel
theorem dX13_weave_57 : decode cX13_weave 57 = .ok (.iload 9, 2) := by decide +kernel
theorem dX13_weave_59 : decode cX13_weave 59 = .ok (.aload_n 0, 1) := by decide +kernel
theorem dX13_weave_60 : decode cX13_weave 60 = .ok (.getfield 230, 3) := by decide +kernel
theorem dX13_weave_63 : decode cX13_weave 63 = .ok (.iload 5, 2) := by decide +kernel
theorem dX13_weave_65 : decode cX13_weave 65 = .ok (.iaload, 1) := by decide +kernel
theorem dX13_weave_66 : decode cX13_weave 66 = .ok (.if_icmp .ge 88, 3) := by decide +kernel
theorem dX13_weave_69 : decode cX13_weave 69 = .ok (.aload_n 0, 1) := by decide +kernel
theorem dX13_weave_70 : decode cX13_weave 70 = .ok (.iload 5, 2) := by decide +kernel
theorem dX13_weave_72 : decode cX13_weave 72 = .ok (.bipush 12, 2) := by decide +kernel
theorem dX13_weave_74 : decode cX13_weave 74 = .ok (.imul, 1) := by decide +kernel
theorem dX13_weave_75 : decode cX13_weave 75 = .ok (.iload 9, 2) := by decide +kernel
theorem dX13_weave_77 : decode cX13_weave 77 = .ok (.iadd, 1) := by decide +kernel
theorem dX13_weave_78 : decode cX13_weave 78 = .ok (.aload_n 0, 1) := by decide +kernel
theorem dX13_weave_79 : decode cX13_weave 79 = .ok (.iload 4, 2) := by decide +kernel
theorem dX13_weave_81 : decode cX13_weave 81 = .ok (.aload_n 0, 1) := by decide +kernel
theorem dX13_weave_82 : decode cX13_weave 82 = .ok (.getfield 256, 3) := by decide +kernel
theorem dX13_weave_85 : decode cX13_weave 85 = .ok (.iload 5, 2) := by decide +kernel
theorem dX13_weave_87 : decode cX13_weave 87 = .ok (.bipush 12, 2) := by decide +kernel
theorem dX13_weave_89 : decode cX13_weave 89 = .ok (.imul, 1) := by decide +kernel
theorem dX13_weave_90 : decode cX13_weave 90 = .ok (.iload 9, 2) := by decide +kernel
theorem dX13_weave_92 : decode cX13_weave 92 = .ok (.iadd, 1) := by decide +kernel
theorem dX13_weave_93 : decode cX13_weave 93 = .ok (.laload, 1) := by decide +kernel
theorem dX13_weave_94 : decode cX13_weave 94 = .ok (.invokevirtual 531, 3) := by decide +kernel
theorem dX13_weave_97 : decode cX13_weave 97 = .ok (.bipush (-2), 2) := by decide +kernel
theorem dX13_weave_99 : decode cX13_weave 99 = .ok (.invokevirtual 1453, 3) := by decide +kernel
theorem dX13_weave_102 : decode cX13_weave 102 = .ok (.istore 10, 2) := by decide +kernel
theorem dX13_weave_104 : decode cX13_weave 104 = .ok (.iload 7, 2) := by decide +kernel
theorem dX13_weave_106 : decode cX13_weave 106 = .ok (.iload 10, 2) := by decide +kernel
theorem dX13_weave_108 : decode cX13_weave 108 = .ok (.iadd, 1) := by decide +kernel
theorem dX13_weave_109 : decode cX13_weave 109 = .ok (.istore 7, 2) := by decide +kernel
theorem dX13_weave_111 : decode cX13_weave 111 = .ok (.iload 8, 2) := by decide +kernel
theorem dX13_weave_113 : decode cX13_weave 113 = .ok (.ifCond .ne 28, 3) := by decide +kernel
theorem dX13_weave_116 : decode cX13_weave 116 = .ok (.iload 10, 2) := by decide +kernel
theorem dX13_weave_118 : decode cX13_weave 118 = .ok (.ifCond .le 27, 3) := by decide +kernel
theorem dX13_weave_121 : decode cX13_weave 121 = .ok (.aload_n 0, 1) := by decide +kernel
theorem dX13_weave_122 : decode cX13_weave 122 = .ok (.iload 5, 2) := by decide +kernel
theorem dX13_weave_124 : decode cX13_weave 124 = .ok (.bipush 12, 2) := by decide +kernel
theorem dX13_weave_126 : decode cX13_weave 126 = .ok (.imul, 1) := by decide +kernel
theorem dX13_weave_127 : decode cX13_weave 127 = .ok (.iload 9, 2) := by decide +kernel
theorem dX13_weave_129 : decode cX13_weave 129 = .ok (.iadd, 1) := by decide +kernel
theorem dX13_weave_130 : decode cX13_weave 130 = .ok (.invokevirtual 1456, 3) := by decide +kernel
theorem dX13_weave_133 : decode cX13_weave 133 = .ok (.iload 10, 2) := by decide +kernel
theorem dX13_weave_135 : decode cX13_weave 135 = .ok (.iadd, 1) := by decide +kernel
theorem dX13_weave_136 : decode cX13_weave 136 = .ok (.bipush 12, 2) := by decide +kernel
theorem dX13_weave_138 : decode cX13_weave 138 = .ok (.if_icmp .le 7, 3) := by decide +kernel
theorem dX13_weave_141 : decode cX13_weave 141 = .ok (.iconst 1, 1) := by decide +kernel
theorem dX13_weave_142 : decode cX13_weave 142 = .ok (.goto 4, 3) := by decide +kernel
theorem dX13_weave_145 : decode cX13_weave 145 = .ok (.iconst 0, 1) := by decide +kernel
theorem dX13_weave_146 : decode cX13_weave 146 = .ok (.istore 8, 2) := by decide +kernel
theorem dX13_weave_148 : decode cX13_weave 148 = .ok (.iinc 9 1, 3) := by decide +kernel
theorem dX13_weave_151 : decode cX13_weave 151 = .ok (.goto (-94), 3) := by decide +kernel
theorem dX13_weave_154 : decode cX13_weave 154 = .ok (.iload 8, 2) := by decide +kernel
theorem dX13_weave_156 : decode cX13_weave 156 = .ok (.ifCond .ne 23, 3) := by decide +kernel
theorem dX13_weave_159 : decode cX13_weave 159 = .ok (.aload_n 0, 1) := by decide +kernel
theorem dX13_weave_160 : decode cX13_weave 160 = .ok (.getfield 947, 3) := by decide +kernel
theorem dX13_weave_163 : decode cX13_weave 163 = .ok (.iload_n 1, 1) := by decide +kernel
theorem dX13_weave_164 : decode cX13_weave 164 = .ok (.iaload, 1) := by decide +kernel
theorem dX13_weave_165 : decode cX13_weave 165 = .ok (.bipush 8, 2) := by decide +kernel
theorem dX13_weave_167 : decode cX13_weave 167 = .ok (.if_icmp .eq 12, 3) := by decide +kernel
theorem dX13_weave_170 : decode cX13_weave 170 = .ok (.aload_n 0, 1) := by decide +kernel
theorem dX13_weave_171 : decode cX13_weave 171 = .ok (.getfield 950, 3) := by decide +kernel
theorem dX13_weave_174 : decode cX13_weave 174 = .ok (.bipush 16, 2) := by decide +kernel
theorem dX13_weave_176 : decode cX13_weave 176 = .ok (.if_icmp .ne 7, 3) := by decide +kernel
theorem dX13_weave_179 : decode cX13_weave 179 = .ok (.iconst 1, 1) := by decide +kernel
theorem dX13_weave_180 : decode cX13_weave 180 = .ok (.goto 4, 3) := by decide +kernel
theorem dX13_weave_183 : decode cX13_weave 183 = .ok (.iconst 0, 1) := by decide +kernel
theorem dX13_weave_184 : decode cX13_weave 184 = .ok (.istore 8, 2) := by decide +kernel
theorem dX13_weave_186 : decode cX13_weave 186 = .ok (.iload 7, 2) := by decide +kernel
theorem dX13_weave_188 : decode cX13_weave 188 = .ok (.ifCond .eq 8, 3) := by decide +kernel
theorem dX13_weave_191 : decode cX13_weave 191 = .ok (.iload 8, 2) := by decide +kernel
theorem dX13_weave_193 : decode cX13_weave 193 = .ok (.ifCond .eq 24, 3) := by decide +kernel
theorem dX13_weave_196 : decode cX13_weave 196 = .ok (.aload_n 0, 1) := by decide +kernel
theorem dX13_weave_197 : decode cX13_weave 197 = .ok (.getfield 535, 3) := by decide +kernel
theorem dX13_weave_200 : decode cX13_weave 200 = .ok (.iload_n 1, 1) := by decide +kernel
theorem dX13_weave_201 : decode cX13_weave 201 = .ok (.iload 6, 2) := by decide +kernel
theorem dX13_weave_203 : decode cX13_weave 203 = .ok (.iastore, 1) := by decide +kernel
theorem dX13_weave_204 : decode cX13_weave 204 = .ok (.iload 7, 2) := by decide +kernel
theorem dX13_weave_206 : decode cX13_weave 206 = .ok (.ifCond .ne 8, 3) := by decide +kernel
theorem dX13_weave_209 : decode cX13_weave 209 = .ok (.bipush (-2), 2) := by decide +kernel
theorem dX13_weave_211 : decode cX13_weave 211 = .ok (.goto 5, 3) := by decide +kernel
theorem dX13_weave_214 : decode cX13_weave 214 = .ok (.bipush (-3), 2) := by decide +kernel
theorem dX13_weave_216 : decode cX13_weave 216 = .ok (.ireturn, 1) := by decide +kernel
theorem dX13_weave_217 : decode cX13_weave 217 = .ok (.aload_n 0, 1) := by decide +kernel
theorem dX13_weave_218 : decode cX13_weave 218 = .ok (.aload_n 0, 1) := by decide +kernel
theorem dX13_weave_219 : decode cX13_weave 219 = .ok (.getfield 950, 3) := by decide +kernel
theorem dX13_weave_222 : decode cX13_weave 222 = .ok (.putfield 84, 3) := by decide +kernel
theorem dX13_weave_225 : decode cX13_weave 225 = .ok (.aload_n 0, 1) := by decide +kernel
theorem dX13_weave_226 : decode cX13_weave 226 = .ok (.iload 5, 2) := by decide +kernel
theorem dX13_weave_228 : decode cX13_weave 228 = .ok (.iload_n 1, 1) := by decide +kernel
theorem dX13_weave_229 : decode cX13_weave 229 = .ok (.invokevirtual 1459, 3) := by decide +kernel
theorem dX13_weave_232 : decode cX13_weave 232 = .ok (.iconst 0, 1) := by decide +kernel
theorem dX13_weave_233 : decode cX13_weave 233 = .ok (.istore 9, 2) := by decide +kernel
theorem dX13_weave_235 : decode cX13_weave 235 = .ok (.iload 9, 2) := by decide +kernel
theorem dX13_weave_237 : decode cX13_weave 237 = .ok (.aload_n 0, 1) := by decide +kernel
theorem dX13_weave_238 : decode cX13_weave 238 = .ok (.getfield 230, 3) := by decide +kernel
theorem dX13_weave_241 : decode cX13_weave 241 = .ok (.iload 5, 2) := by decide +kernel
theorem dX13_weave_243 : decode cX13_weave 243 = .ok (.iaload, 1) := by decide +kernel
theorem dX13_weave_244 : decode cX13_weave 244 = .ok (.if_icmp .ge 51, 3) := by decide +kernel
theorem dX13_weave_247 : decode cX13_weave 247 = .ok (.aload_n 0, 1) := by decide +kernel
theorem dX13_weave_248 : decode cX13_weave 248 = .ok (.iload 5, 2) := by decide +kernel
theorem dX13_weave_250 : decode cX13_weave 250 = .ok (.bipush 12, 2) := by decide +kernel
theorem dX13_weave_252 : decode cX13_weave 252 = .ok (.imul, 1) := by decide +kernel
theorem dX13_weave_253 : decode cX13_weave 253 = .ok (.iload 9, 2) := by decide +kernel
theorem dX13_weave_255 : decode cX13_weave 255 = .ok (.iadd, 1) := by decide +kernel
theorem dX13_weave_256 : decode cX13_weave 256 = .ok (.aload_n 0, 1) := by decide +kernel
theorem dX13_weave_257 : decode cX13_weave 257 = .ok (.iload 4, 2) := by decide +kernel
theorem dX13_weave_259 : decode cX13_weave 259 = .ok (.aload_n 0, 1) := by decide +kernel
theorem dX13_weave_260 : decode cX13_weave 260 = .ok (.getfield 256, 3) := by decide +kernel
theorem dX13_weave_263 : decode cX13_weave 263 = .ok (.iload 5, 2) := by decide +kernel
theorem dX13_weave_265 : decode cX13_weave 265 = .ok (.bipush 12, 2) := by decide +kernel
theorem dX13_weave_267 : decode cX13_weave 267 = .ok (.imul, 1) := by decide +kernel
theorem dX13_weave_268 : decode cX13_weave 268 = .ok (.iload 9, 2) := by decide +kernel
theorem dX13_weave_270 : decode cX13_weave 270 = .ok (.iadd, 1) := by decide +kernel
theorem dX13_weave_271 : decode cX13_weave 271 = .ok (.laload, 1) := by decide +kernel
theorem dX13_weave_272 : decode cX13_weave 272 = .ok (.invokevirtual 531, 3) := by decide +kernel
theorem dX13_weave_275 : decode cX13_weave 275 = .ok (.aload_n 0, 1) := by decide +kernel
theorem dX13_weave_276 : decode cX13_weave 276 = .ok (.getfield 84, 3) := by decide +kernel
theorem dX13_weave_279 : decode cX13_weave 279 = .ok (.bipush 12, 2) := by decide +kernel
theorem dX13_weave_281 : decode cX13_weave 281 = .ok (.imul, 1) := by decide +kernel
theorem dX13_weave_282 : decode cX13_weave 282 = .ok (.iload 9, 2) := by decide +kernel
theorem dX13_weave_284 : decode cX13_weave 284 = .ok (.iadd, 1) := by decide +kernel
theorem dX13_weave_285 : decode cX13_weave 285 = .ok (.invokevirtual 1453, 3) := by decide +kernel
theorem dX13_weave_288 : decode cX13_weave 288 = .ok (.pop, 1) := by decide +kernel
theorem dX13_weave_289 : decode cX13_weave 289 = .ok (.iinc 9 1, 3) := by decide +kernel
theorem dX13_weave_292 : decode cX13_weave 292 = .ok (.goto (-57), 3) := by decide +kernel
theorem dX13_weave_295 : decode cX13_weave 295 = .ok (.aload_n 0, 1) := by decide +kernel
theorem dX13_weave_296 : decode cX13_weave 296 = .ok (.getfield 535, 3) := by decide +kernel
theorem dX13_weave_299 : decode cX13_weave 299 = .ok (.iload_n 1, 1) := by decide +kernel
theorem dX13_weave_300 : decode cX13_weave 300 = .ok (.iload 6, 2) := by decide +kernel
theorem dX13_weave_302 : decode cX13_weave 302 = .ok (.iastore, 1) := by decide +kernel
theorem dX13_weave_303 : decode cX13_weave 303 = .ok (.aload_n 0, 1) := by decide +kernel
theorem dX13_weave_304 : decode cX13_weave 304 = .ok (.iload 5, 2) := by decide +kernel
theorem dX13_weave_306 : decode cX13_weave 306 = .ok (.invokevirtual 1462, 3) := by decide +kernel
theorem dX13_weave_309 : decode cX13_weave 309 = .ok (.aload_n 0, 1) := by decide +kernel
theorem dX13_weave_310 : decode cX13_weave 310 = .ok (.getfield 965, 3) := by decide +kernel
theorem dX13_weave_313 : decode cX13_weave 313 = .ok (.bipush 8, 2) := by decide +kernel
theorem dX13_weave_315 : decode cX13_weave 315 = .ok (.iload_n 1, 1) := by decide +kernel
theorem dX13_weave_316 : decode cX13_weave 316 = .ok (.imul, 1) := by decide +kernel
theorem dX13_weave_317 : decode cX13_weave 317 = .ok (.aload_n 0, 1) := by decide +kernel
theorem dX13_weave_318 : decode cX13_weave 318 = .ok (.getfield 947, 3) := by decide +kernel
theorem dX13_weave_321 : decode cX13_weave 321 = .ok (.iload_n 1, 1) := by decide +kernel
theorem dX13_weave_322 : decode cX13_weave 322 = .ok (.iaload, 1) := by decide +kernel
theorem dX13_weave_323 : decode cX13_weave 323 = .ok (.iadd, 1) := by decide +kernel
theorem dX13_weave_324 : decode cX13_weave 324 = .ok (.aload_n 0, 1) := by decide +kernel
theorem dX13_weave_325 : decode cX13_weave 325 = .ok (.getfield 84, 3) := by decide +kernel
theorem dX13_weave_328 : decode cX13_weave 328 = .ok (.iastore, 1) := by decide +kernel
theorem dX13_weave_329 : decode cX13_weave 329 = .ok (.aload_n 0, 1) := by decide +kernel
theorem dX13_weave_330 : decode cX13_weave 330 = .ok (.getfield 947, 3) := by decide +kernel
theorem dX13_weave_333 : decode cX13_weave 333 = .ok (.iload_n 1, 1) := by decide +kernel
theorem dX13_weave_334 : decode cX13_weave 334 = .ok (.dup2, 1) := by decide +kernel
theorem dX13_weave_335 : decode cX13_weave 335 = .ok (.iaload, 1) := by decide +kernel
theorem dX13_weave_336 : decode cX13_weave 336 = .ok (.iconst 1, 1) := by decide +kernel
theorem dX13_weave_337 : decode cX13_weave 337 = .ok (.iadd, 1) := by decide +kernel
theorem dX13_weave_338 : decode cX13_weave 338 = .ok (.iastore, 1) := by decide +kernel
theorem dX13_weave_339 : decode cX13_weave 339 = .ok (.aload_n 0, 1) := by decide +kernel
theorem dX13_weave_340 : decode cX13_weave 340 = .ok (.dup, 1) := by decide +kernel
theorem dX13_weave_341 : decode cX13_weave 341 = .ok (.getfield 950, 3) := by decide +kernel
theorem dX13_weave_344 : decode cX13_weave 344 = .ok (.iconst 1, 1) := by decide +kernel
theorem dX13_weave_345 : decode cX13_weave 345 = .ok (.iadd, 1) := by decide +kernel
theorem dX13_weave_346 : decode cX13_weave 346 = .ok (.putfield 950, 3) := by decide +kernel
theorem dX13_weave_349 : decode cX13_weave 349 = .ok (.aload_n 0, 1) := by decide +kernel
theorem dX13_weave_350 : decode cX13_weave 350 = .ok (.getfield 947, 3) := by decide +kernel
theorem dX13_weave_353 : decode cX13_weave 353 = .ok (.iload_n 1, 1) := by decide +kernel
theorem dX13_weave_354 : decode cX13_weave 354 = .ok (.iaload, 1) := by decide +kernel
theorem dX13_weave_355 : decode cX13_weave 355 = .ok (.iconst 1, 1) := by decide +kernel
theorem dX13_weave_356 : decode cX13_weave 356 = .ok (.isub, 1) := by decide +kernel
theorem dX13_weave_357 : decode cX13_weave 357 = .ok (.ireturn, 1) := by decide +kernel
theorem dX13_bridgesOf_0 : decode cX13_bridgesOf 0 = .ok (.iconst 0, 1) := by decide +kernel
theorem dX13_bridgesOf_1 : decode cX13_bridgesOf 1 = .ok (.istore_n 2, 1) := by decide +kernel
theorem dX13_bridgesOf_2 : decode cX13_bridgesOf 2 = .ok (.iconst 0, 1) := by decide +kernel
theorem dX13_bridgesOf_3 : decode cX13_bridgesOf 3 = .ok (.istore_n 3, 1) := by decide +kernel
theorem dX13_bridgesOf_4 : decode cX13_bridgesOf 4 = .ok (.iload_n 3, 1) := by decide +kernel
theorem dX13_bridgesOf_5 : decode cX13_bridgesOf 5 = .ok (.aload_n 0, 1) := by decide +kernel
theorem dX13_bridgesOf_6 : decode cX13_bridgesOf 6 = .ok (.getfield 275, 3) := by decide +kernel
theorem dX13_bridgesOf_9 : decode cX13_bridgesOf 9 = .ok (.iload_n 1, 1) := by decide +kernel
theorem dX13_bridgesOf_10 : decode cX13_bridgesOf 10 = .ok (.iaload, 1) := by decide +kernel
theorem dX13_bridgesOf_11 : decode cX13_bridgesOf 11 = .ok (.if_icmp .ge 31, 3) := by decide +kernel
theorem dX13_bridgesOf_14 : decode cX13_bridgesOf 14 = .ok (.iload_n 2, 1) := by decide +kernel
theorem dX13_bridgesOf_15 : decode cX13_bridgesOf 15 = .ok (.aload_n 0, 1) := by decide +kernel
theorem dX13_bridgesOf_16 : decode cX13_bridgesOf 16 = .ok (.getfield 350, 3) := by decide +kernel
theorem dX13_bridgesOf_19 : decode cX13_bridgesOf 19 = .ok (.iload_n 1, 1) := by decide +kernel
theorem dX13_bridgesOf_20 : decode cX13_bridgesOf 20 = .ok (.bipush 34, 2) := by decide +kernel
theorem dX13_bridgesOf_22 : decode cX13_bridgesOf 22 = .ok (.imul, 1) := by decide +kernel
theorem dX13_bridgesOf_23 : decode cX13_bridgesOf 23 = .ok (.iload_n 3, 1) := by decide +kernel
theorem dX13_bridgesOf_24 : decode cX13_bridgesOf 24 = .ok (.iadd, 1) := by decide +kernel
theorem dX13_bridgesOf_25 : decode cX13_bridgesOf 25 = .ok (.baload, 1) := by decide +kernel
theorem dX13_bridgesOf_26 : decode cX13_bridgesOf 26 = .ok (.ifCond .eq 7, 3) := by decide +kernel
theorem dX13_bridgesOf_29 : decode cX13_bridgesOf 29 = .ok (.iconst 1, 1) := by decide +kernel
theorem dX13_bridgesOf_30 : decode cX13_bridgesOf 30 = .ok (.goto 4, 3) := by decide +kernel
theorem dX13_bridgesOf_33 : decode cX13_bridgesOf 33 = .ok (.iconst 0, 1) := by decide +kernel
theorem dX13_bridgesOf_34 : decode cX13_bridgesOf 34 = .ok (.iadd, 1) := by decide +kernel
theorem dX13_bridgesOf_35 : decode cX13_bridgesOf 35 = .ok (.istore_n 2, 1) := by decide +kernel
theorem dX13_bridgesOf_36 : decode cX13_bridgesOf 36 = .ok (.iinc 3 1, 3) := by decide +kernel
theorem dX13_bridgesOf_39 : decode cX13_bridgesOf 39 = .ok (.goto (-35), 3) := by decide +kernel
theorem dX13_bridgesOf_42 : decode cX13_bridgesOf 42 = .ok (.iload_n 2, 1) := by decide +kernel
theorem dX13_bridgesOf_43 : decode cX13_bridgesOf 43 = .ok (.ireturn, 1) := by decide +kernel
theorem dX13_heal_0 : decode cX13_heal 0 = .ok (.iload_n 2, 1) := by decide +kernel
theorem dX13_heal_1 : decode cX13_heal 1 = .ok (.bipush (-2), 2) := by decide +kernel
theorem dX13_heal_3 : decode cX13_heal 3 = .ok (.if_icmp .eq 16, 3) := by decide +kernel
theorem dX13_heal_6 : decode cX13_heal 6 = .ok (.aload_n 0, 1) := by decide +kernel
theorem dX13_heal_7 : decode cX13_heal 7 = .ok (.iload_n 2, 1) := by decide +kernel
theorem dX13_heal_8 : decode cX13_heal 8 = .ok (.invokevirtual 548, 3) := by decide +kernel
theorem dX13_heal_11 : decode cX13_heal 11 = .ok (.aload_n 0, 1) := by decide +kernel
theorem dX13_heal_12 : decode cX13_heal 12 = .ok (.iload_n 1, 1) := by decide +kernel
theorem dX13_heal_13 : decode cX13_heal 13 = .ok (.invokevirtual 548, 3) := by decide +kernel
theorem dX13_heal_16 : decode cX13_heal 16 = .ok (.if_icmp .eq 5, 3) := by decide +kernel
theorem dX13_heal_19 : decode cX13_heal 19 = .ok (.iconst 0, 1) := by decide +kernel
theorem dX13_heal_20 : decode cX13_heal 20 = .ok (.ireturn, 1) := by decide +kernel
theorem dX13_heal_21 : decode cX13_heal 21 = .ok (.iconst 0, 1) := by decide +kernel
theorem dX13_heal_22 : decode cX13_heal 22 = .ok (.istore 4, 2) := by decide +kernel
theorem dX13_heal_24 : decode cX13_heal 24 = .ok (.iconst 0, 1) := by decide +kernel
theorem dX13_heal_25 : decode cX13_heal 25 = .ok (.istore 5, 2) := by decide +kernel
theorem dX13_heal_27 : decode cX13_heal 27 = .ok (.iload 5, 2) := by decide +kernel
theorem dX13_heal_29 : decode cX13_heal 29 = .ok (.aload_n 0, 1) := by decide +kernel
theorem dX13_heal_30 : decode cX13_heal 30 = .ok (.getfield 275, 3) := by decide +kernel
theorem dX13_heal_33 : decode cX13_heal 33 = .ok (.iload_n 2, 1) := by decide +kernel
theorem dX13_heal_34 : decode cX13_heal 34 = .ok (.iaload, 1) := by decide +kernel
theorem dX13_heal_35 : decode cX13_heal 35 = .ok (.if_icmp .ge 189, 3) := by decide +kernel
theorem dX13_heal_38 : decode cX13_heal 38 = .ok (.iload_n 2, 1) := by decide +kernel
theorem dX13_heal_39 : decode cX13_heal 39 = .ok (.bipush 34, 2) := by decide +kernel
theorem dX13_heal_41 : decode cX13_heal 41 = .ok (.imul, 1) := by decide +kernel
theorem dX13_heal_42 : decode cX13_heal 42 = .ok (.iload 5, 2) := by decide +kernel
theorem dX13_heal_44 : decode cX13_heal 44 = .ok (.iadd, 1) := by decide +kernel
theorem dX13_heal_45 : decode cX13_heal 45 = .ok (.istore 6, 2) := by decide +kernel
theorem dX13_heal_47 : decode cX13_heal 47 = .ok (.aload_n 0, 1) := by decide +kernel
theorem dX13_heal_48 : decode cX13_heal 48 = .ok (.getfield 402, 3) := by decide +kernel
theorem dX13_heal_51 : decode cX13_heal 51 = .ok (.iload 6, 2) := by decide +kernel
theorem dX13_heal_53 : decode cX13_heal 53 = .ok (.iaload, 1) := by decide +kernel
theorem dX13_heal_54 : decode cX13_heal 54 = .ok (.iconst 1, 1) := by decide +kernel
theorem dX13_heal_55 : decode cX13_heal 55 = .ok (.if_icmp .ne 39, 3) := by decide +kernel
theorem dX13_heal_58 : decode cX13_heal 58 = .ok (.aload_n 0, 1) := by decide +kernel
theorem dX13_heal_59 : decode cX13_heal 59 = .ok (.getfield 350, 3) := by decide +kernel
theorem dX13_heal_62 : decode cX13_heal 62 = .ok (.iload 6, 2) := by decide +kernel
theorem dX13_heal_64 : decode cX13_heal 64 = .ok (.baload, 1) := by decide +kernel
theorem dX13_heal_65 : decode cX13_heal 65 = .ok (.ifCond .ne 29, 3) := by decide +kernel
theorem dX13_heal_68 : decode cX13_heal 68 = .ok (.aload_n 0, 1) := by decide +kernel
theorem dX13_heal_69 : decode cX13_heal 69 = .ok (.getfield 433, 3) := by decide +kernel
theorem dX13_heal_72 : decode cX13_heal 72 = .ok (.iload 6, 2) := by decide +kernel
theorem dX13_heal_74 : decode cX13_heal 74 = .ok (.iaload, 1) := by decide +kernel
theorem dX13_heal_75 : decode cX13_heal 75 = .ok (.ifCond .eq 19, 3) := by decide +kernel
theorem dX13_heal_78 : decode cX13_heal 78 = .ok (.aload_n 0, 1) := by decide +kernel
theorem dX13_heal_79 : decode cX13_heal 79 = .ok (.iload_n 1, 1) := by decide +kernel
theorem dX13_heal_80 : decode cX13_heal 80 = .ok (.iload 6, 2) := by decide +kernel
theorem dX13_heal_82 : decode cX13_heal 82 = .ok (.invokevirtual 627, 3) := by decide +kernel
theorem dX13_heal_85 : decode cX13_heal 85 = .ok (.bipush (-2), 2) := by decide +kernel
theorem dX13_heal_87 : decode cX13_heal 87 = .ok (.if_icmp .ne 7, 3) := by decide +kernel
theorem dX13_heal_90 : decode cX13_heal 90 = .ok (.iconst 1, 1) := by decide +kernel
theorem dX13_heal_91 : decode cX13_heal 91 = .ok (.goto 4, 3) := by decide +kernel
theorem dX13_heal_94 : decode cX13_heal 94 = .ok (.iconst 0, 1) := by decide +kernel
theorem dX13_heal_95 : decode cX13_heal 95 = .ok (.istore 7, 2) := by decide +kernel
theorem dX13_heal_97 : decode cX13_heal 97 = .ok (.iload 7, 2) := by decide +kernel
theorem dX13_heal_99 : decode cX13_heal 99 = .ok (.ifCond .eq 13, 3) := by decide +kernel
theorem dX13_heal_102 : decode cX13_heal 102 = .ok (.aload_n 0, 1) := by decide +kernel
theorem dX13_heal_103 : decode cX13_heal 103 = .ok (.iload_n 1, 1) := by decide +kernel
theorem dX13_heal_104 : decode cX13_heal 104 = .ok (.iload 6, 2) := by decide +kernel
theorem dX13_heal_106 : decode cX13_heal 106 = .ok (.invokevirtual 1417, 3) := by decide +kernel
theorem dX13_heal_109 : decode cX13_heal 109 = .ok (.goto 5, 3) := by decide +kernel
theorem dX13_heal_112 : decode cX13_heal 112 = .ok (.bipush (-2), 2) := by decide +kernel
theorem dX13_heal_114 : decode cX13_heal 114 = .ok (.istore 8, 2) := by decide +kernel
theorem dX13_heal_116 : decode cX13_heal 116 = .ok (.iload 8, 2) := by decide +kernel
theorem dX13_heal_118 : decode cX13_heal 118 = .ok (.bipush (-2), 2) := by decide +kernel
theorem dX13_heal_120 : decode cX13_heal 120 = .ok (.if_icmp .eq 98, 3) := by decide +kernel
theorem dX13_heal_123 : decode cX13_heal 123 = .ok (.aload_n 0, 1) := by decide +kernel
theorem dX13_heal_124 : decode cX13_heal 124 = .ok (.getfield 436, 3) := by decide +kernel
theorem dX13_heal_127 : decode cX13_heal 127 = .ok (.iload 8, 2) := by decide +kernel
theorem dX13_heal_129 : decode cX13_heal 129 = .ok (.baload, 1) := by decide +kernel
theorem dX13_heal_130 : decode cX13_heal 130 = .ok (.ifCond .ne 88, 3) := by decide +kernel
theorem dX13_heal_133 : decode cX13_heal 133 = .ok (.aload_n 0, 1) := by decide +kernel
theorem dX13_heal_134 : decode cX13_heal 134 = .ok (.getfield 433, 3) := by decide +kernel
theorem dX13_heal_137 : decode cX13_heal 137 = .ok (.iload 8, 2) := by decide +kernel
theorem dX13_heal_139 : decode cX13_heal 139 = .ok (.iaload, 1) := by decide +kernel
theorem dX13_heal_140 : decode cX13_heal 140 = .ok (.ifCond .eq 78, 3) := by decide +kernel
theorem dX13_heal_143 : decode cX13_heal 143 = .ok (.aload_n 0, 1) := by decide +kernel
theorem dX13_heal_144 : decode cX13_heal 144 = .ok (.getfield 341, 3) := by decide +kernel
theorem dX13_heal_147 : decode cX13_heal 147 = .ok (.iload 6, 2) := by decide +kernel
theorem dX13_heal_149 : decode cX13_heal 149 = .ok (.baload, 1) := by decide +kernel
theorem dX13_heal_150 : decode cX13_heal 150 = .ok (.aload_n 0, 1) := by decide +kernel
theorem dX13_heal_151 : decode cX13_heal 151 = .ok (.getfield 341, 3) := by decide +kernel
theorem dX13_heal_154 : decode cX13_heal 154 = .ok (.iload 8, 2) := by decide +kernel
theorem dX13_heal_156 : decode cX13_heal 156 = .ok (.baload, 1) := by decide +kernel
theorem dX13_heal_157 : decode cX13_heal 157 = .ok (.if_icmp .ne 61, 3) := by decide +kernel
theorem dX13_heal_160 : decode cX13_heal 160 = .ok (.aload_n 0, 1) := by decide +kernel
theorem dX13_heal_161 : decode cX13_heal 161 = .ok (.getfield 359, 3) := by decide +kernel
theorem dX13_heal_164 : decode cX13_heal 164 = .ok (.iload 8, 2) := by decide +kernel
theorem dX13_heal_166 : decode cX13_heal 166 = .ok (.laload, 1) := by decide +kernel
theorem dX13_heal_167 : decode cX13_heal 167 = .ok (.invokestatic 37, 3) := by decide +kernel
theorem dX13_heal_170 : decode cX13_heal 170 = .ok (.ifCond .eq 48, 3) := by decide +kernel
theorem dX13_heal_173 : decode cX13_heal 173 = .ok (.aload_n 0, 1) := by decide +kernel
theorem dX13_heal_174 : decode cX13_heal 174 = .ok (.aload_n 0, 1) := by decide +kernel
theorem dX13_heal_175 : decode cX13_heal 175 = .ok (.getfield 359, 3) := by decide +kernel
theorem dX13_heal_178 : decode cX13_heal 178 = .ok (.iload 8, 2) := by decide +kernel
theorem dX13_heal_180 : decode cX13_heal 180 = .ok (.laload, 1) := by decide +kernel
theorem dX13_heal_181 : decode cX13_heal 181 = .ok (.aload_n 0, 1) := by decide +kernel
theorem dX13_heal_182 : decode cX13_heal 182 = .ok (.getfield 359, 3) := by decide +kernel
theorem dX13_heal_185 : decode cX13_heal 185 = .ok (.iload 6, 2) := by decide +kernel
theorem dX13_heal_187 : decode cX13_heal 187 = .ok (.laload, 1) := by decide +kernel
theorem dX13_heal_188 : decode cX13_heal 188 = .ok (.invokevirtual 690, 3) := by decide +kernel
theorem dX13_heal_191 : decode cX13_heal 191 = .ok (.ifCond .eq 27, 3) := by decide +kernel
theorem dX13_heal_194 : decode cX13_heal 194 = .ok (.iload_n 3, 1) := by decide +kernel
theorem dX13_heal_195 : decode cX13_heal 195 = .ok (.bipush (-2), 2) := by decide +kernel
theorem dX13_heal_197 : decode cX13_heal 197 = .ok (.if_icmp .eq 18, 3) := by decide +kernel
theorem dX13_heal_200 : decode cX13_heal 200 = .ok (.aload_n 0, 1) := by decide +kernel
theorem dX13_heal_201 : decode cX13_heal 201 = .ok (.iload_n 3, 1) := by decide +kernel
theorem dX13_heal_202 : decode cX13_heal 202 = .ok (.iload 8, 2) := by decide +kernel
theorem dX13_heal_204 : decode cX13_heal 204 = .ok (.aload_n 0, 1) := by decide +kernel
theorem dX13_heal_205 : decode cX13_heal 205 = .ok (.getfield 359, 3) := by decide +kernel
theorem dX13_heal_208 : decode cX13_heal 208 = .ok (.iload 6, 2) := by decide +kernel
theorem dX13_heal_210 : decode cX13_heal 210 = .ok (.laload, 1) := by decide +kernel
theorem dX13_heal_211 : decode cX13_heal 211 = .ok (.invokevirtual 701, 3) := by decide +kernel
theorem dX13_heal_214 : decode cX13_heal 214 = .ok (.pop, 1) := by decide +kernel
theorem dX13_heal_215 : decode cX13_heal 215 = .ok (.iinc 4 1, 3) := by decide +kernel
theorem dX13_heal_218 : decode cX13_heal 218 = .ok (.iinc 5 1, 3) := by decide +kernel
theorem dX13_heal_221 : decode cX13_heal 221 = .ok (.goto (-194), 3) := by decide +kernel
theorem dX13_heal_224 : decode cX13_heal 224 = .ok (.iload 4, 2) := by decide +kernel
theorem dX13_heal_226 : decode cX13_heal 226 = .ok (.ireturn, 1) := by decide +kernel
theorem dX13_copyBuild_0 : decode cX13_copyBuild 0 = .ok (.aload_n 0, 1) := by decide +kernel
theorem dX13_copyBuild_1 : decode cX13_copyBuild 1 = .ok (.getfield 87, 3) := by decide +kernel
theorem dX13_copyBuild_4 : decode cX13_copyBuild 4 = .ok (.iload_n 1, 1) := by decide +kernel
theorem dX13_copyBuild_5 : decode cX13_copyBuild 5 = .ok (.sipush 4000, 3) := by decide +kernel
theorem dX13_copyBuild_8 : decode cX13_copyBuild 8 = .ok (.imul, 1) := by decide +kernel
theorem dX13_copyBuild_9 : decode cX13_copyBuild 9 = .ok (.aload_n 0, 1) := by decide +kernel
theorem dX13_copyBuild_10 : decode cX13_copyBuild 10 = .ok (.getfield 87, 3) := by decide +kernel
theorem dX13_copyBuild_13 : decode cX13_copyBuild 13 = .ok (.aload_n 0, 1) := by decide +kernel
theorem dX13_copyBuild_14 : decode cX13_copyBuild 14 = .ok (.getfield 84, 3) := by decide +kernel
theorem dX13_copyBuild_17 : decode cX13_copyBuild 17 = .ok (.sipush 4000, 3) := by decide +kernel
theorem dX13_copyBuild_20 : decode cX13_copyBuild 20 = .ok (.imul, 1) := by decide +kernel
theorem dX13_copyBuild_21 : decode cX13_copyBuild 21 = .ok (.sipush 4000, 3) := by decide +kernel
theorem dX13_copyBuild_24 : decode cX13_copyBuild 24 = .ok (.invokestatic 1444, 3) := by decide +kernel
theorem dX13_copyBuild_27 : decode cX13_copyBuild 27 = .ok (.aload_n 0, 1) := by decide +kernel
theorem dX13_copyBuild_28 : decode cX13_copyBuild 28 = .ok (.getfield 81, 3) := by decide +kernel
theorem dX13_copyBuild_31 : decode cX13_copyBuild 31 = .ok (.aload_n 0, 1) := by decide +kernel
theorem dX13_copyBuild_32 : decode cX13_copyBuild 32 = .ok (.getfield 84, 3) := by decide +kernel
theorem dX13_copyBuild_35 : decode cX13_copyBuild 35 = .ok (.aload_n 0, 1) := by decide +kernel
theorem dX13_copyBuild_36 : decode cX13_copyBuild 36 = .ok (.getfield 81, 3) := by decide +kernel
theorem dX13_copyBuild_39 : decode cX13_copyBuild 39 = .ok (.iload_n 1, 1) := by decide +kernel
theorem dX13_copyBuild_40 : decode cX13_copyBuild 40 = .ok (.iaload, 1) := by decide +kernel
theorem dX13_copyBuild_41 : decode cX13_copyBuild 41 = .ok (.iastore, 1) := by decide +kernel
theorem dX13_copyBuild_42 : decode cX13_copyBuild 42 = .ok (.aload_n 0, 1) := by decide +kernel
theorem dX13_copyBuild_43 : decode cX13_copyBuild 43 = .ok (.getfield 538, 3) := by decide +kernel
theorem dX13_copyBuild_46 : decode cX13_copyBuild 46 = .ok (.aload_n 0, 1) := by decide +kernel
theorem dX13_copyBuild_47 : decode cX13_copyBuild 47 = .ok (.getfield 84, 3) := by decide +kernel
theorem dX13_copyBuild_50 : decode cX13_copyBuild 50 = .ok (.iload_n 2, 1) := by decide +kernel
theorem dX13_copyBuild_51 : decode cX13_copyBuild 51 = .ok (.iastore, 1) := by decide +kernel
theorem dX13_copyBuild_52 : decode cX13_copyBuild 52 = .ok (.aload_n 0, 1) := by decide +kernel
theorem dX13_copyBuild_53 : decode cX13_copyBuild 53 = .ok (.getfield 113, 3) := by decide +kernel
theorem dX13_copyBuild_56 : decode cX13_copyBuild 56 = .ok (.aload_n 0, 1) := by decide +kernel
theorem dX13_copyBuild_57 : decode cX13_copyBuild 57 = .ok (.getfield 84, 3) := by decide +kernel
theorem dX13_copyBuild_60 : decode cX13_copyBuild 60 = .ok (.aload_n 0, 1) := by decide +kernel
theorem dX13_copyBuild_61 : decode cX13_copyBuild 61 = .ok (.getfield 113, 3) := by decide +kernel
theorem dX13_copyBuild_64 : decode cX13_copyBuild 64 = .ok (.iload_n 1, 1) := by decide +kernel
theorem dX13_copyBuild_65 : decode cX13_copyBuild 65 = .ok (.iaload, 1) := by decide +kernel
theorem dX13_copyBuild_66 : decode cX13_copyBuild 66 = .ok (.iastore, 1) := by decide +kernel
theorem dX13_copyBuild_67 : decode cX13_copyBuild 67 = .ok (.aload_n 0, 1) := by decide +kernel
theorem dX13_copyBuild_68 : decode cX13_copyBuild 68 = .ok (.getfield 103, 3) := by decide +kernel
theorem dX13_copyBuild_71 : decode cX13_copyBuild 71 = .ok (.iload_n 1, 1) := by decide +kernel
theorem dX13_copyBuild_72 : decode cX13_copyBuild 72 = .ok (.sipush 702, 3) := by decide +kernel
theorem dX13_copyBuild_75 : decode cX13_copyBuild 75 = .ok (.imul, 1) := by decide +kernel
theorem dX13_copyBuild_76 : decode cX13_copyBuild 76 = .ok (.aload_n 0, 1) := by decide +kernel
theorem dX13_copyBuild_77 : decode cX13_copyBuild 77 = .ok (.getfield 103, 3) := by decide +kernel
theorem dX13_copyBuild_80 : decode cX13_copyBuild 80 = .ok (.aload_n 0, 1) := by decide +kernel
theorem dX13_copyBuild_81 : decode cX13_copyBuild 81 = .ok (.getfield 84, 3) := by decide +kernel
theorem dX13_copyBuild_84 : decode cX13_copyBuild 84 = .ok (.sipush 702, 3) := by decide +kernel
theorem dX13_copyBuild_87 : decode cX13_copyBuild 87 = .ok (.imul, 1) := by decide +kernel
theorem dX13_copyBuild_88 : decode cX13_copyBuild 88 = .ok (.sipush 702, 3) := by decide +kernel
theorem dX13_copyBuild_91 : decode cX13_copyBuild 91 = .ok (.invokestatic 1444, 3) := by decide +kernel
theorem dX13_copyBuild_94 : decode cX13_copyBuild 94 = .ok (.aload_n 0, 1) := by decide +kernel
theorem dX13_copyBuild_95 : decode cX13_copyBuild 95 = .ok (.getfield 94, 3) := by decide +kernel
theorem dX13_copyBuild_98 : decode cX13_copyBuild 98 = .ok (.iload_n 1, 1) := by decide +kernel
theorem dX13_copyBuild_99 : decode cX13_copyBuild 99 = .ok (.sipush 702, 3) := by decide +kernel
theorem dX13_copyBuild_102 : decode cX13_copyBuild 102 = .ok (.imul, 1) := by decide +kernel
theorem dX13_copyBuild_103 : decode cX13_copyBuild 103 = .ok (.aload_n 0, 1) := by decide +kernel
theorem dX13_copyBuild_104 : decode cX13_copyBuild 104 = .ok (.getfield 94, 3) := by decide +kernel
theorem dX13_copyBuild_107 : decode cX13_copyBuild 107 = .ok (.aload_n 0, 1) := by decide +kernel
theorem dX13_copyBuild_108 : decode cX13_copyBuild 108 = .ok (.getfield 84, 3) := by decide +kernel
theorem dX13_copyBuild_111 : decode cX13_copyBuild 111 = .ok (.sipush 702, 3) := by decide +kernel
theorem dX13_copyBuild_114 : decode cX13_copyBuild 114 = .ok (.imul, 1) := by decide +kernel
theorem dX13_copyBuild_115 : decode cX13_copyBuild 115 = .ok (.sipush 702, 3) := by decide +kernel
theorem dX13_copyBuild_118 : decode cX13_copyBuild 118 = .ok (.invokestatic 1444, 3) := by decide +kernel
theorem dX13_copyBuild_121 : decode cX13_copyBuild 121 = .ok (.aload_n 0, 1) := by decide +kernel
theorem dX13_copyBuild_122 : decode cX13_copyBuild 122 = .ok (.getfield 110, 3) := by decide +kernel
theorem dX13_copyBuild_125 : decode cX13_copyBuild 125 = .ok (.iload_n 1, 1) := by decide +kernel
theorem dX13_copyBuild_126 : decode cX13_copyBuild 126 = .ok (.sipush 702, 3) := by decide +kernel
theorem dX13_copyBuild_129 : decode cX13_copyBuild 129 = .ok (.imul, 1) := by decide +kernel
theorem dX13_copyBuild_130 : decode cX13_copyBuild 130 = .ok (.aload_n 0, 1) := by decide +kernel
theorem dX13_copyBuild_131 : decode cX13_copyBuild 131 = .ok (.getfield 110, 3) := by decide +kernel
theorem dX13_copyBuild_134 : decode cX13_copyBuild 134 = .ok (.aload_n 0, 1) := by decide +kernel
theorem dX13_copyBuild_135 : decode cX13_copyBuild 135 = .ok (.getfield 84, 3) := by decide +kernel
theorem dX13_copyBuild_138 : decode cX13_copyBuild 138 = .ok (.sipush 702, 3) := by decide +kernel
theorem dX13_copyBuild_141 : decode cX13_copyBuild 141 = .ok (.imul, 1) := by decide +kernel
theorem dX13_copyBuild_142 : decode cX13_copyBuild 142 = .ok (.sipush 702, 3) := by decide +kernel
theorem dX13_copyBuild_145 : decode cX13_copyBuild 145 = .ok (.invokestatic 1444, 3) := by decide +kernel
theorem dX13_copyBuild_148 : decode cX13_copyBuild 148 = .ok (.aload_n 0, 1) := by decide +kernel
theorem dX13_copyBuild_149 : decode cX13_copyBuild 149 = .ok (.getfield 97, 3) := by decide +kernel
theorem dX13_copyBuild_152 : decode cX13_copyBuild 152 = .ok (.iload_n 1, 1) := by decide +kernel
theorem dX13_copyBuild_153 : decode cX13_copyBuild 153 = .ok (.sipush 702, 3) := by decide +kernel
theorem dX13_copyBuild_156 : decode cX13_copyBuild 156 = .ok (.imul, 1) := by decide +kernel
theorem dX13_copyBuild_157 : decode cX13_copyBuild 157 = .ok (.aload_n 0, 1) := by decide +kernel
theorem dX13_copyBuild_158 : decode cX13_copyBuild 158 = .ok (.getfield 97, 3) := by decide +kernel
theorem dX13_copyBuild_161 : decode cX13_copyBuild 161 = .ok (.aload_n 0, 1) := by decide +kernel
theorem dX13_copyBuild_162 : decode cX13_copyBuild 162 = .ok (.getfield 84, 3) := by decide +kernel
theorem dX13_copyBuild_165 : decode cX13_copyBuild 165 = .ok (.sipush 702, 3) := by decide +kernel
theorem dX13_copyBuild_168 : decode cX13_copyBuild 168 = .ok (.imul, 1) := by decide +kernel
theorem dX13_copyBuild_169 : decode cX13_copyBuild 169 = .ok (.sipush 702, 3) := by decide +kernel
theorem dX13_copyBuild_172 : decode cX13_copyBuild 172 = .ok (.invokestatic 1444, 3) := by decide +kernel
theorem dX13_copyBuild_175 : decode cX13_copyBuild 175 = .ok (.aload_n 0, 1) := by decide +kernel
theorem dX13_copyBuild_176 : decode cX13_copyBuild 176 = .ok (.getfield 100, 3) := by decide +kernel
theorem dX13_copyBuild_179 : decode cX13_copyBuild 179 = .ok (.iload_n 1, 1) := by decide +kernel
theorem dX13_copyBuild_180 : decode cX13_copyBuild 180 = .ok (.sipush 702, 3) := by decide +kernel
theorem dX13_copyBuild_183 : decode cX13_copyBuild 183 = .ok (.imul, 1) := by decide +kernel
theorem dX13_copyBuild_184 : decode cX13_copyBuild 184 = .ok (.aload_n 0, 1) := by decide +kernel
theorem dX13_copyBuild_185 : decode cX13_copyBuild 185 = .ok (.getfield 100, 3) := by decide +kernel
theorem dX13_copyBuild_188 : decode cX13_copyBuild 188 = .ok (.aload_n 0, 1) := by decide +kernel
theorem dX13_copyBuild_189 : decode cX13_copyBuild 189 = .ok (.getfield 84, 3) := by decide +kernel
theorem dX13_copyBuild_192 : decode cX13_copyBuild 192 = .ok (.sipush 702, 3) := by decide +kernel
theorem dX13_copyBuild_195 : decode cX13_copyBuild 195 = .ok (.imul, 1) := by decide +kernel
theorem dX13_copyBuild_196 : decode cX13_copyBuild 196 = .ok (.sipush 702, 3) := by decide +kernel
theorem dX13_copyBuild_199 : decode cX13_copyBuild 199 = .ok (.invokestatic 1444, 3) := by decide +kernel
theorem dX13_copyBuild_202 : decode cX13_copyBuild 202 = .ok (.aload_n 0, 1) := by decide +kernel
theorem dX13_copyBuild_203 : decode cX13_copyBuild 203 = .ok (.iload_n 1, 1) := by decide +kernel
theorem dX13_copyBuild_204 : decode cX13_copyBuild 204 = .ok (.bipush 12, 2) := by decide +kernel
theorem dX13_copyBuild_206 : decode cX13_copyBuild 206 = .ok (.imul, 1) := by decide +kernel
theorem dX13_copyBuild_207 : decode cX13_copyBuild 207 = .ok (.aload_n 0, 1) := by decide +kernel
theorem dX13_copyBuild_208 : decode cX13_copyBuild 208 = .ok (.getfield 84, 3) := by decide +kernel
theorem dX13_copyBuild_211 : decode cX13_copyBuild 211 = .ok (.bipush 12, 2) := by decide +kernel
theorem dX13_copyBuild_213 : decode cX13_copyBuild 213 = .ok (.imul, 1) := by decide +kernel
theorem dX13_copyBuild_214 : decode cX13_copyBuild 214 = .ok (.invokevirtual 1465, 3) := by decide +kernel
theorem dX13_copyBuild_217 : decode cX13_copyBuild 217 = .ok (.aload_n 0, 1) := by decide +kernel
theorem dX13_copyBuild_218 : decode cX13_copyBuild 218 = .ok (.iload_n 1, 1) := by decide +kernel
theorem dX13_copyBuild_219 : decode cX13_copyBuild 219 = .ok (.bipush 12, 2) := by decide +kernel
theorem dX13_copyBuild_221 : decode cX13_copyBuild 221 = .ok (.imul, 1) := by decide +kernel
theorem dX13_copyBuild_222 : decode cX13_copyBuild 222 = .ok (.bipush 34, 2) := by decide +kernel
theorem dX13_copyBuild_224 : decode cX13_copyBuild 224 = .ok (.imul, 1) := by decide +kernel
theorem dX13_copyBuild_225 : decode cX13_copyBuild 225 = .ok (.aload_n 0, 1) := by decide +kernel
theorem dX13_copyBuild_226 : decode cX13_copyBuild 226 = .ok (.getfield 84, 3) := by decide +kernel
theorem dX13_copyBuild_229 : decode cX13_copyBuild 229 = .ok (.bipush 12, 2) := by decide +kernel
theorem dX13_copyBuild_231 : decode cX13_copyBuild 231 = .ok (.imul, 1) := by decide +kernel
theorem dX13_copyBuild_232 : decode cX13_copyBuild 232 = .ok (.bipush 34, 2) := by decide +kernel
theorem dX13_copyBuild_234 : decode cX13_copyBuild 234 = .ok (.imul, 1) := by decide +kernel
theorem dX13_copyBuild_235 : decode cX13_copyBuild 235 = .ok (.invokevirtual 1468, 3) := by decide +kernel
theorem dX13_copyBuild_238 : decode cX13_copyBuild 238 = .ok (.aload_n 0, 1) := by decide +kernel
theorem dX13_copyBuild_239 : decode cX13_copyBuild 239 = .ok (.iload_n 1, 1) := by decide +kernel
theorem dX13_copyBuild_240 : decode cX13_copyBuild 240 = .ok (.sipush 1700, 3) := by decide +kernel
theorem dX13_copyBuild_243 : decode cX13_copyBuild 243 = .ok (.imul, 1) := by decide +kernel
theorem dX13_copyBuild_244 : decode cX13_copyBuild 244 = .ok (.aload_n 0, 1) := by decide +kernel
theorem dX13_copyBuild_245 : decode cX13_copyBuild 245 = .ok (.getfield 84, 3) := by decide +kernel
theorem dX13_copyBuild_248 : decode cX13_copyBuild 248 = .ok (.sipush 1700, 3) := by decide +kernel
theorem dX13_copyBuild_251 : decode cX13_copyBuild 251 = .ok (.imul, 1) := by decide +kernel
theorem dX13_copyBuild_252 : decode cX13_copyBuild 252 = .ok (.invokevirtual 1471, 3) := by decide +kernel
theorem dX13_copyBuild_255 : decode cX13_copyBuild 255 = .ok (.aload_n 0, 1) := by decide +kernel
theorem dX13_copyBuild_256 : decode cX13_copyBuild 256 = .ok (.getfield 230, 3) := by decide +kernel
theorem dX13_copyBuild_259 : decode cX13_copyBuild 259 = .ok (.aload_n 0, 1) := by decide +kernel
theorem dX13_copyBuild_260 : decode cX13_copyBuild 260 = .ok (.getfield 84, 3) := by decide +kernel
theorem dX13_copyBuild_263 : decode cX13_copyBuild 263 = .ok (.aload_n 0, 1) := by decide +kernel
theorem dX13_copyBuild_264 : decode cX13_copyBuild 264 = .ok (.getfield 230, 3) := by decide +kernel
theorem dX13_copyBuild_267 : decode cX13_copyBuild 267 = .ok (.iload_n 1, 1) := by decide +kernel
theorem dX13_copyBuild_268 : decode cX13_copyBuild 268 = .ok (.iaload, 1) := by decide +kernel
theorem dX13_copyBuild_269 : decode cX13_copyBuild 269 = .ok (.iastore, 1) := by decide +kernel
theorem dX13_copyBuild_270 : decode cX13_copyBuild 270 = .ok (.aload_n 0, 1) := by decide +kernel
theorem dX13_copyBuild_271 : decode cX13_copyBuild 271 = .ok (.getfield 170, 3) := by decide +kernel
theorem dX13_copyBuild_274 : decode cX13_copyBuild 274 = .ok (.aload_n 0, 1) := by decide +kernel
theorem dX13_copyBuild_275 : decode cX13_copyBuild 275 = .ok (.getfield 84, 3) := by decide +kernel
theorem dX13_copyBuild_278 : decode cX13_copyBuild 278 = .ok (.aload_n 0, 1) := by decide +kernel
theorem dX13_copyBuild_279 : decode cX13_copyBuild 279 = .ok (.getfield 170, 3) := by decide +kernel
theorem dX13_copyBuild_282 : decode cX13_copyBuild 282 = .ok (.iload_n 1, 1) := by decide +kernel
theorem dX13_copyBuild_283 : decode cX13_copyBuild 283 = .ok (.iaload, 1) := by decide +kernel
theorem dX13_copyBuild_284 : decode cX13_copyBuild 284 = .ok (.iastore, 1) := by decide +kernel
theorem dX13_copyBuild_285 : decode cX13_copyBuild 285 = .ok (.return_, 1) := by decide +kernel
theorem dX13_copyClasses_0 : decode cX13_copyClasses 0 = .ok (.aload_n 0, 1) := by decide +kernel
theorem dX13_copyClasses_1 : decode cX13_copyClasses 1 = .ok (.getfield 256, 3) := by decide +kernel
theorem dX13_copyClasses_4 : decode cX13_copyClasses 4 = .ok (.iload_n 1, 1) := by decide +kernel
theorem dX13_copyClasses_5 : decode cX13_copyClasses 5 = .ok (.aload_n 0, 1) := by decide +kernel
theorem dX13_copyClasses_6 : decode cX13_copyClasses 6 = .ok (.getfield 256, 3) := by decide +kernel
theorem dX13_copyClasses_9 : decode cX13_copyClasses 9 = .ok (.iload_n 2, 1) := by decide +kernel
theorem dX13_copyClasses_10 : decode cX13_copyClasses 10 = .ok (.bipush 12, 2) := by decide +kernel
theorem dX13_copyClasses_12 : decode cX13_copyClasses 12 = .ok (.invokestatic 1444, 3) := by decide +kernel
theorem dX13_copyClasses_15 : decode cX13_copyClasses 15 = .ok (.aload_n 0, 1) := by decide +kernel
theorem dX13_copyClasses_16 : decode cX13_copyClasses 16 = .ok (.getfield 259, 3) := by decide +kernel
theorem dX13_copyClasses_19 : decode cX13_copyClasses 19 = .ok (.iload_n 1, 1) := by decide +kernel
theorem dX13_copyClasses_20 : decode cX13_copyClasses 20 = .ok (.aload_n 0, 1) := by decide +kernel
theorem dX13_copyClasses_21 : decode cX13_copyClasses 21 = .ok (.getfield 259, 3) := by decide +kernel
theorem dX13_copyClasses_24 : decode cX13_copyClasses 24 = .ok (.iload_n 2, 1) := by decide +kernel
theorem dX13_copyClasses_25 : decode cX13_copyClasses 25 = .ok (.bipush 12, 2) := by decide +kernel
theorem dX13_copyClasses_27 : decode cX13_copyClasses 27 = .ok (.invokestatic 1444, 3) := by decide +kernel
theorem dX13_copyClasses_30 : decode cX13_copyClasses 30 = .ok (.aload_n 0, 1) := by decide +kernel
theorem dX13_copyClasses_31 : decode cX13_copyClasses 31 = .ok (.getfield 262, 3) := by decide +kernel
theorem dX13_copyClasses_34 : decode cX13_copyClasses 34 = .ok (.iload_n 1, 1) := by decide +kernel
theorem dX13_copyClasses_35 : decode cX13_copyClasses 35 = .ok (.aload_n 0, 1) := by decide +kernel
theorem dX13_copyClasses_36 : decode cX13_copyClasses 36 = .ok (.getfield 262, 3) := by decide +kernel
theorem dX13_copyClasses_39 : decode cX13_copyClasses 39 = .ok (.iload_n 2, 1) := by decide +kernel
theorem dX13_copyClasses_40 : decode cX13_copyClasses 40 = .ok (.bipush 12, 2) := by decide +kernel
theorem dX13_copyClasses_42 : decode cX13_copyClasses 42 = .ok (.invokestatic 1444, 3) := by decide +kernel
theorem dX13_copyClasses_45 : decode cX13_copyClasses 45 = .ok (.aload_n 0, 1) := by decide +kernel
theorem dX13_copyClasses_46 : decode cX13_copyClasses 46 = .ok (.getfield 266, 3) := by decide +kernel
theorem dX13_copyClasses_49 : decode cX13_copyClasses 49 = .ok (.iload_n 1, 1) := by decide +kernel
theorem dX13_copyClasses_50 : decode cX13_copyClasses 50 = .ok (.aload_n 0, 1) := by decide +kernel
theorem dX13_copyClasses_51 : decode cX13_copyClasses 51 = .ok (.getfield 266, 3) := by decide +kernel
theorem dX13_copyClasses_54 : decode cX13_copyClasses 54 = .ok (.iload_n 2, 1) := by decide +kernel
theorem dX13_copyClasses_55 : decode cX13_copyClasses 55 = .ok (.bipush 12, 2) := by decide +kernel
theorem dX13_copyClasses_57 : decode cX13_copyClasses 57 = .ok (.invokestatic 1444, 3) := by decide +kernel
theorem dX13_copyClasses_60 : decode cX13_copyClasses 60 = .ok (.aload_n 0, 1) := by decide +kernel
theorem dX13_copyClasses_61 : decode cX13_copyClasses 61 = .ok (.getfield 269, 3) := by decide +kernel
theorem dX13_copyClasses_64 : decode cX13_copyClasses 64 = .ok (.iload_n 1, 1) := by decide +kernel
theorem dX13_copyClasses_65 : decode cX13_copyClasses 65 = .ok (.aload_n 0, 1) := by decide +kernel
theorem dX13_copyClasses_66 : decode cX13_copyClasses 66 = .ok (.getfield 269, 3) := by decide +kernel
theorem dX13_copyClasses_69 : decode cX13_copyClasses 69 = .ok (.iload_n 2, 1) := by decide +kernel
theorem dX13_copyClasses_70 : decode cX13_copyClasses 70 = .ok (.bipush 12, 2) := by decide +kernel
theorem dX13_copyClasses_72 : decode cX13_copyClasses 72 = .ok (.invokestatic 1444, 3) := by decide +kernel
theorem dX13_copyClasses_75 : decode cX13_copyClasses 75 = .ok (.aload_n 0, 1) := by decide +kernel
theorem dX13_copyClasses_76 : decode cX13_copyClasses 76 = .ok (.getfield 288, 3) := by decide +kernel
theorem dX13_copyClasses_79 : decode cX13_copyClasses 79 = .ok (.iconst 4, 1) := by decide +kernel
theorem dX13_copyClasses_80 : decode cX13_copyClasses 80 = .ok (.iload_n 1, 1) := by decide +kernel
theorem dX13_copyClasses_81 : decode cX13_copyClasses 81 = .ok (.imul, 1) := by decide +kernel
theorem dX13_copyClasses_82 : decode cX13_copyClasses 82 = .ok (.aload_n 0, 1) := by decide +kernel
theorem dX13_copyClasses_83 : decode cX13_copyClasses 83 = .ok (.getfield 288, 3) := by decide +kernel
theorem dX13_copyClasses_86 : decode cX13_copyClasses 86 = .ok (.iconst 4, 1) := by decide +kernel
theorem dX13_copyClasses_87 : decode cX13_copyClasses 87 = .ok (.iload_n 2, 1) := by decide +kernel
theorem dX13_copyClasses_88 : decode cX13_copyClasses 88 = .ok (.imul, 1) := by decide +kernel
theorem dX13_copyClasses_89 : decode cX13_copyClasses 89 = .ok (.bipush 48, 2) := by decide +kernel
theorem dX13_copyClasses_91 : decode cX13_copyClasses 91 = .ok (.invokestatic 1444, 3) := by decide +kernel
theorem dX13_copyClasses_94 : decode cX13_copyClasses 94 = .ok (.aload_n 0, 1) := by decide +kernel
theorem dX13_copyClasses_95 : decode cX13_copyClasses 95 = .ok (.getfield 283, 3) := by decide +kernel
theorem dX13_copyClasses_98 : decode cX13_copyClasses 98 = .ok (.iload_n 1, 1) := by decide +kernel
theorem dX13_copyClasses_99 : decode cX13_copyClasses 99 = .ok (.aload_n 0, 1) := by decide +kernel
theorem dX13_copyClasses_100 : decode cX13_copyClasses 100 = .ok (.getfield 283, 3) := by decide +kernel
theorem dX13_copyClasses_103 : decode cX13_copyClasses 103 = .ok (.iload_n 2, 1) := by decide +kernel
theorem dX13_copyClasses_104 : decode cX13_copyClasses 104 = .ok (.bipush 12, 2) := by decide +kernel
theorem dX13_copyClasses_106 : decode cX13_copyClasses 106 = .ok (.invokestatic 1444, 3) := by decide +kernel
theorem dX13_copyClasses_109 : decode cX13_copyClasses 109 = .ok (.aload_n 0, 1) := by decide +kernel
theorem dX13_copyClasses_110 : decode cX13_copyClasses 110 = .ok (.getfield 272, 3) := by decide +kernel
theorem dX13_copyClasses_113 : decode cX13_copyClasses 113 = .ok (.iload_n 1, 1) := by decide +kernel
theorem dX13_copyClasses_114 : decode cX13_copyClasses 114 = .ok (.aload_n 0, 1) := by decide +kernel
theorem dX13_copyClasses_115 : decode cX13_copyClasses 115 = .ok (.getfield 272, 3) := by decide +kernel
theorem dX13_copyClasses_118 : decode cX13_copyClasses 118 = .ok (.iload_n 2, 1) := by decide +kernel
theorem dX13_copyClasses_119 : decode cX13_copyClasses 119 = .ok (.bipush 12, 2) := by decide +kernel
theorem dX13_copyClasses_121 : decode cX13_copyClasses 121 = .ok (.invokestatic 1444, 3) := by decide +kernel
theorem dX13_copyClasses_124 : decode cX13_copyClasses 124 = .ok (.aload_n 0, 1) := by decide +kernel
theorem dX13_copyClasses_125 : decode cX13_copyClasses 125 = .ok (.getfield 308, 3) := by decide +kernel
theorem dX13_copyClasses_128 : decode cX13_copyClasses 128 = .ok (.bipush 8, 2) := by decide +kernel
theorem dX13_copyClasses_130 : decode cX13_copyClasses 130 = .ok (.iload_n 1, 1) := by decide +kernel
theorem dX13_copyClasses_131 : decode cX13_copyClasses 131 = .ok (.imul, 1) := by decide +kernel
theorem dX13_copyClasses_132 : decode cX13_copyClasses 132 = .ok (.aload_n 0, 1) := by decide +kernel
theorem dX13_copyClasses_133 : decode cX13_copyClasses 133 = .ok (.getfield 308, 3) := by decide +kernel
theorem dX13_copyClasses_136 : decode cX13_copyClasses 136 = .ok (.bipush 8, 2) := by decide +kernel
theorem dX13_copyClasses_138 : decode cX13_copyClasses 138 = .ok (.iload_n 2, 1) := by decide +kernel
theorem dX13_copyClasses_139 : decode cX13_copyClasses 139 = .ok (.imul, 1) := by decide +kernel
theorem dX13_copyClasses_140 : decode cX13_copyClasses 140 = .ok (.bipush 96, 2) := by decide +kernel
theorem dX13_copyClasses_142 : decode cX13_copyClasses 142 = .ok (.invokestatic 1444, 3) := by decide +kernel
theorem dX13_copyClasses_145 : decode cX13_copyClasses 145 = .ok (.aload_n 0, 1) := by decide +kernel
theorem dX13_copyClasses_146 : decode cX13_copyClasses 146 = .ok (.getfield 303, 3) := by decide +kernel
theorem dX13_copyClasses_149 : decode cX13_copyClasses 149 = .ok (.iload_n 1, 1) := by decide +kernel
theorem dX13_copyClasses_150 : decode cX13_copyClasses 150 = .ok (.aload_n 0, 1) := by decide +kernel
theorem dX13_copyClasses_151 : decode cX13_copyClasses 151 = .ok (.getfield 303, 3) := by decide +kernel
theorem dX13_copyClasses_154 : decode cX13_copyClasses 154 = .ok (.iload_n 2, 1) := by decide +kernel
theorem dX13_copyClasses_155 : decode cX13_copyClasses 155 = .ok (.bipush 12, 2) := by decide +kernel
theorem dX13_copyClasses_157 : decode cX13_copyClasses 157 = .ok (.invokestatic 1444, 3) := by decide +kernel
theorem dX13_copyClasses_160 : decode cX13_copyClasses 160 = .ok (.aload_n 0, 1) := by decide +kernel
theorem dX13_copyClasses_161 : decode cX13_copyClasses 161 = .ok (.getfield 319, 3) := by decide +kernel
theorem dX13_copyClasses_164 : decode cX13_copyClasses 164 = .ok (.bipush 8, 2) := by decide +kernel
theorem dX13_copyClasses_166 : decode cX13_copyClasses 166 = .ok (.iload_n 1, 1) := by decide +kernel
theorem dX13_copyClasses_167 : decode cX13_copyClasses 167 = .ok (.imul, 1) := by decide +kernel
theorem dX13_copyClasses_168 : decode cX13_copyClasses 168 = .ok (.aload_n 0, 1) := by decide +kernel
theorem dX13_copyClasses_169 : decode cX13_copyClasses 169 = .ok (.getfield 319, 3) := by decide +kernel
theorem dX13_copyClasses_172 : decode cX13_copyClasses 172 = .ok (.bipush 8, 2) := by decide +kernel
theorem dX13_copyClasses_174 : decode cX13_copyClasses 174 = .ok (.iload_n 2, 1) := by decide +kernel
theorem dX13_copyClasses_175 : decode cX13_copyClasses 175 = .ok (.imul, 1) := by decide +kernel
theorem dX13_copyClasses_176 : decode cX13_copyClasses 176 = .ok (.bipush 96, 2) := by decide +kernel
theorem dX13_copyClasses_178 : decode cX13_copyClasses 178 = .ok (.invokestatic 1444, 3) := by decide +kernel
theorem dX13_copyClasses_181 : decode cX13_copyClasses 181 = .ok (.aload_n 0, 1) := by decide +kernel
theorem dX13_copyClasses_182 : decode cX13_copyClasses 182 = .ok (.getfield 314, 3) := by decide +kernel
theorem dX13_copyClasses_185 : decode cX13_copyClasses 185 = .ok (.iload_n 1, 1) := by decide +kernel
theorem dX13_copyClasses_186 : decode cX13_copyClasses 186 = .ok (.aload_n 0, 1) := by decide +kernel
theorem dX13_copyClasses_187 : decode cX13_copyClasses 187 = .ok (.getfield 314, 3) := by decide +kernel
theorem dX13_copyClasses_190 : decode cX13_copyClasses 190 = .ok (.iload_n 2, 1) := by decide +kernel
theorem dX13_copyClasses_191 : decode cX13_copyClasses 191 = .ok (.bipush 12, 2) := by decide +kernel
theorem dX13_copyClasses_193 : decode cX13_copyClasses 193 = .ok (.invokestatic 1444, 3) := by decide +kernel
theorem dX13_copyClasses_196 : decode cX13_copyClasses 196 = .ok (.aload_n 0, 1) := by decide +kernel
theorem dX13_copyClasses_197 : decode cX13_copyClasses 197 = .ok (.getfield 275, 3) := by decide +kernel
theorem dX13_copyClasses_200 : decode cX13_copyClasses 200 = .ok (.iload_n 1, 1) := by decide +kernel
theorem dX13_copyClasses_201 : decode cX13_copyClasses 201 = .ok (.aload_n 0, 1) := by decide +kernel
theorem dX13_copyClasses_202 : decode cX13_copyClasses 202 = .ok (.getfield 275, 3) := by decide +kernel
theorem dX13_copyClasses_205 : decode cX13_copyClasses 205 = .ok (.iload_n 2, 1) := by decide +kernel
theorem dX13_copyClasses_206 : decode cX13_copyClasses 206 = .ok (.bipush 12, 2) := by decide +kernel
theorem dX13_copyClasses_208 : decode cX13_copyClasses 208 = .ok (.invokestatic 1444, 3) := by decide +kernel
theorem dX13_copyClasses_211 : decode cX13_copyClasses 211 = .ok (.return_, 1) := by decide +kernel
theorem dX13_copyMembers_0 : decode cX13_copyMembers 0 = .ok (.sipush 408, 3) := by decide +kernel
theorem dX13_copyMembers_3 : decode cX13_copyMembers 3 = .ok (.istore_n 3, 1) := by decide +kernel
theorem dX13_copyMembers_4 : decode cX13_copyMembers 4 = .ok (.aload_n 0, 1) := by decide +kernel
theorem dX13_copyMembers_5 : decode cX13_copyMembers 5 = .ok (.getfield 402, 3) := by decide +kernel
theorem dX13_copyMembers_8 : decode cX13_copyMembers 8 = .ok (.iload_n 1, 1) := by decide +kernel
theorem dX13_copyMembers_9 : decode cX13_copyMembers 9 = .ok (.aload_n 0, 1) := by decide +kernel
theorem dX13_copyMembers_10 : decode cX13_copyMembers 10 = .ok (.getfield 402, 3) := by decide +kernel
theorem dX13_copyMembers_13 : decode cX13_copyMembers 13 = .ok (.iload_n 2, 1) := by decide +kernel
theorem dX13_copyMembers_14 : decode cX13_copyMembers 14 = .ok (.iload_n 3, 1) := by decide +kernel
theorem dX13_copyMembers_15 : decode cX13_copyMembers 15 = .ok (.invokestatic 1444, 3) := by decide +kernel
theorem dX13_copyMembers_18 : decode cX13_copyMembers 18 = .ok (.aload_n 0, 1) := by decide +kernel
theorem dX13_copyMembers_19 : decode cX13_copyMembers 19 = .ok (.getfield 399, 3) := by decide +kernel
theorem dX13_copyMembers_22 : decode cX13_copyMembers 22 = .ok (.iload_n 1, 1) := by decide +kernel
theorem dX13_copyMembers_23 : decode cX13_copyMembers 23 = .ok (.aload_n 0, 1) := by decide +kernel
theorem dX13_copyMembers_24 : decode cX13_copyMembers 24 = .ok (.getfield 399, 3) := by decide +kernel
theorem dX13_copyMembers_27 : decode cX13_copyMembers 27 = .ok (.iload_n 2, 1) := by decide +kernel
theorem dX13_copyMembers_28 : decode cX13_copyMembers 28 = .ok (.iload_n 3, 1) := by decide +kernel
theorem dX13_copyMembers_29 : decode cX13_copyMembers 29 = .ok (.invokestatic 1444, 3) := by decide +kernel
theorem dX13_copyMembers_32 : decode cX13_copyMembers 32 = .ok (.aload_n 0, 1) := by decide +kernel
theorem dX13_copyMembers_33 : decode cX13_copyMembers 33 = .ok (.getfield 433, 3) := by decide +kernel
theorem dX13_copyMembers_36 : decode cX13_copyMembers 36 = .ok (.iload_n 1, 1) := by decide +kernel
theorem dX13_copyMembers_37 : decode cX13_copyMembers 37 = .ok (.aload_n 0, 1) := by decide +kernel
theorem dX13_copyMembers_38 : decode cX13_copyMembers 38 = .ok (.getfield 433, 3) := by decide +kernel
theorem dX13_copyMembers_41 : decode cX13_copyMembers 41 = .ok (.iload_n 2, 1) := by decide +kernel
theorem dX13_copyMembers_42 : decode cX13_copyMembers 42 = .ok (.iload_n 3, 1) := by decide +kernel
theorem dX13_copyMembers_43 : decode cX13_copyMembers 43 = .ok (.invokestatic 1444, 3) := by decide +kernel
theorem dX13_copyMembers_46 : decode cX13_copyMembers 46 = .ok (.aload_n 0, 1) := by decide +kernel
theorem dX13_copyMembers_47 : decode cX13_copyMembers 47 = .ok (.getfield 341, 3) := by decide +kernel
theorem dX13_copyMembers_50 : decode cX13_copyMembers 50 = .ok (.iload_n 1, 1) := by decide +kernel
theorem dX13_copyMembers_51 : decode cX13_copyMembers 51 = .ok (.aload_n 0, 1) := by decide +kernel
theorem dX13_copyMembers_52 : decode cX13_copyMembers 52 = .ok (.getfield 341, 3) := by decide +kernel
theorem dX13_copyMembers_55 : decode cX13_copyMembers 55 = .ok (.iload_n 2, 1) := by decide +kernel
theorem dX13_copyMembers_56 : decode cX13_copyMembers 56 = .ok (.iload_n 3, 1) := by decide +kernel
theorem dX13_copyMembers_57 : decode cX13_copyMembers 57 = .ok (.invokestatic 1444, 3) := by decide +kernel
theorem dX13_copyMembers_60 : decode cX13_copyMembers 60 = .ok (.aload_n 0, 1) := by decide +kernel
theorem dX13_copyMembers_61 : decode cX13_copyMembers 61 = .ok (.getfield 344, 3) := by decide +kernel
theorem dX13_copyMembers_64 : decode cX13_copyMembers 64 = .ok (.iload_n 1, 1) := by decide +kernel
theorem dX13_copyMembers_65 : decode cX13_copyMembers 65 = .ok (.aload_n 0, 1) := by decide +kernel
theorem dX13_copyMembers_66 : decode cX13_copyMembers 66 = .ok (.getfield 344, 3) := by decide +kernel
theorem dX13_copyMembers_69 : decode cX13_copyMembers 69 = .ok (.iload_n 2, 1) := by decide +kernel
theorem dX13_copyMembers_70 : decode cX13_copyMembers 70 = .ok (.iload_n 3, 1) := by decide +kernel
theorem dX13_copyMembers_71 : decode cX13_copyMembers 71 = .ok (.invokestatic 1444, 3) := by decide +kernel
theorem dX13_copyMembers_74 : decode cX13_copyMembers 74 = .ok (.aload_n 0, 1) := by decide +kernel
theorem dX13_copyMembers_75 : decode cX13_copyMembers 75 = .ok (.getfield 436, 3) := by decide +kernel
theorem dX13_copyMembers_78 : decode cX13_copyMembers 78 = .ok (.iload_n 1, 1) := by decide +kernel
theorem dX13_copyMembers_79 : decode cX13_copyMembers 79 = .ok (.aload_n 0, 1) := by decide +kernel
theorem dX13_copyMembers_80 : decode cX13_copyMembers 80 = .ok (.getfield 436, 3) := by decide +kernel
theorem dX13_copyMembers_83 : decode cX13_copyMembers 83 = .ok (.iload_n 2, 1) := by decide +kernel
theorem dX13_copyMembers_84 : decode cX13_copyMembers 84 = .ok (.iload_n 3, 1) := by decide +kernel
theorem dX13_copyMembers_85 : decode cX13_copyMembers 85 = .ok (.invokestatic 1444, 3) := by decide +kernel
theorem dX13_copyMembers_88 : decode cX13_copyMembers 88 = .ok (.aload_n 0, 1) := by decide +kernel
theorem dX13_copyMembers_89 : decode cX13_copyMembers 89 = .ok (.getfield 347, 3) := by decide +kernel
theorem dX13_copyMembers_92 : decode cX13_copyMembers 92 = .ok (.iload_n 1, 1) := by decide +kernel
theorem dX13_copyMembers_93 : decode cX13_copyMembers 93 = .ok (.aload_n 0, 1) := by decide +kernel
theorem dX13_copyMembers_94 : decode cX13_copyMembers 94 = .ok (.getfield 347, 3) := by decide +kernel
theorem dX13_copyMembers_97 : decode cX13_copyMembers 97 = .ok (.iload_n 2, 1) := by decide +kernel
theorem dX13_copyMembers_98 : decode cX13_copyMembers 98 = .ok (.iload_n 3, 1) := by decide +kernel
theorem dX13_copyMembers_99 : decode cX13_copyMembers 99 = .ok (.invokestatic 1444, 3) := by decide +kernel
theorem dX13_copyMembers_102 : decode cX13_copyMembers 102 = .ok (.aload_n 0, 1) := by decide +kernel
theorem dX13_copyMembers_103 : decode cX13_copyMembers 103 = .ok (.getfield 350, 3) := by decide +kernel
theorem dX13_copyMembers_106 : decode cX13_copyMembers 106 = .ok (.iload_n 1, 1) := by decide +kernel
theorem dX13_copyMembers_107 : decode cX13_copyMembers 107 = .ok (.aload_n 0, 1) := by decide +kernel
theorem dX13_copyMembers_108 : decode cX13_copyMembers 108 = .ok (.getfield 350, 3) := by decide +kernel
theorem dX13_copyMembers_111 : decode cX13_copyMembers 111 = .ok (.iload_n 2, 1) := by decide +kernel
theorem dX13_copyMembers_112 : decode cX13_copyMembers 112 = .ok (.iload_n 3, 1) := by decide +kernel
theorem dX13_copyMembers_113 : decode cX13_copyMembers 113 = .ok (.invokestatic 1444, 3) := by decide +kernel
theorem dX13_copyMembers_116 : decode cX13_copyMembers 116 = .ok (.aload_n 0, 1) := by decide +kernel
theorem dX13_copyMembers_117 : decode cX13_copyMembers 117 = .ok (.getfield 353, 3) := by decide +kernel
theorem dX13_copyMembers_120 : decode cX13_copyMembers 120 = .ok (.iload_n 1, 1) := by decide +kernel
theorem dX13_copyMembers_121 : decode cX13_copyMembers 121 = .ok (.aload_n 0, 1) := by decide +kernel
theorem dX13_copyMembers_122 : decode cX13_copyMembers 122 = .ok (.getfield 353, 3) := by decide +kernel
theorem dX13_copyMembers_125 : decode cX13_copyMembers 125 = .ok (.iload_n 2, 1) := by decide +kernel
theorem dX13_copyMembers_126 : decode cX13_copyMembers 126 = .ok (.iload_n 3, 1) := by decide +kernel
theorem dX13_copyMembers_127 : decode cX13_copyMembers 127 = .ok (.invokestatic 1444, 3) := by decide +kernel
theorem dX13_copyMembers_130 : decode cX13_copyMembers 130 = .ok (.aload_n 0, 1) := by decide +kernel
theorem dX13_copyMembers_131 : decode cX13_copyMembers 131 = .ok (.getfield 356, 3) := by decide +kernel
theorem dX13_copyMembers_134 : decode cX13_copyMembers 134 = .ok (.iload_n 1, 1) := by decide +kernel
theorem dX13_copyMembers_135 : decode cX13_copyMembers 135 = .ok (.aload_n 0, 1) := by decide +kernel
theorem dX13_copyMembers_136 : decode cX13_copyMembers 136 = .ok (.getfield 356, 3) := by decide +kernel
theorem dX13_copyMembers_139 : decode cX13_copyMembers 139 = .ok (.iload_n 2, 1) := by decide +kernel
theorem dX13_copyMembers_140 : decode cX13_copyMembers 140 = .ok (.iload_n 3, 1) := by decide +kernel
theorem dX13_copyMembers_141 : decode cX13_copyMembers 141 = .ok (.invokestatic 1444, 3) := by decide +kernel
theorem dX13_copyMembers_144 : decode cX13_copyMembers 144 = .ok (.aload_n 0, 1) := by decide +kernel
theorem dX13_copyMembers_145 : decode cX13_copyMembers 145 = .ok (.getfield 359, 3) := by decide +kernel
theorem dX13_copyMembers_148 : decode cX13_copyMembers 148 = .ok (.iload_n 1, 1) := by decide +kernel
theorem dX13_copyMembers_149 : decode cX13_copyMembers 149 = .ok (.aload_n 0, 1) := by decide +kernel
theorem dX13_copyMembers_150 : decode cX13_copyMembers 150 = .ok (.getfield 359, 3) := by decide +kernel
theorem dX13_copyMembers_153 : decode cX13_copyMembers 153 = .ok (.iload_n 2, 1) := by decide +kernel
theorem dX13_copyMembers_154 : decode cX13_copyMembers 154 = .ok (.iload_n 3, 1) := by decide +kernel
theorem dX13_copyMembers_155 : decode cX13_copyMembers 155 = .ok (.invokestatic 1444, 3) := by decide +kernel
theorem dX13_copyMembers_158 : decode cX13_copyMembers 158 = .ok (.aload_n 0, 1) := by decide +kernel
theorem dX13_copyMembers_159 : decode cX13_copyMembers 159 = .ok (.getfield 362, 3) := by decide +kernel
theorem dX13_copyMembers_162 : decode cX13_copyMembers 162 = .ok (.iload_n 1, 1) := by decide +kernel
theorem dX13_copyMembers_163 : decode cX13_copyMembers 163 = .ok (.aload_n 0, 1) := by decide +kernel
theorem dX13_copyMembers_164 : decode cX13_copyMembers 164 = .ok (.getfield 362, 3) := by decide +kernel
theorem dX13_copyMembers_167 : decode cX13_copyMembers 167 = .ok (.iload_n 2, 1) := by decide +kernel
theorem dX13_copyMembers_168 : decode cX13_copyMembers 168 = .ok (.iload_n 3, 1) := by decide +kernel
theorem dX13_copyMembers_169 : decode cX13_copyMembers 169 = .ok (.invokestatic 1444, 3) := by decide +kernel
theorem dX13_copyMembers_172 : decode cX13_copyMembers 172 = .ok (.aload_n 0, 1) := by decide +kernel
theorem dX13_copyMembers_173 : decode cX13_copyMembers 173 = .ok (.getfield 442, 3) := by decide +kernel
theorem dX13_copyMembers_176 : decode cX13_copyMembers 176 = .ok (.iconst 4, 1) := by decide +kernel
theorem dX13_copyMembers_177 : decode cX13_copyMembers 177 = .ok (.iload_n 1, 1) := by decide +kernel
theorem dX13_copyMembers_178 : decode cX13_copyMembers 178 = .ok (.imul, 1) := by decide +kernel
theorem dX13_copyMembers_179 : decode cX13_copyMembers 179 = .ok (.aload_n 0, 1) := by decide +kernel
theorem dX13_copyMembers_180 : decode cX13_copyMembers 180 = .ok (.getfield 442, 3) := by decide +kernel
theorem dX13_copyMembers_183 : decode cX13_copyMembers 183 = .ok (.iconst 4, 1) := by decide +kernel
theorem dX13_copyMembers_184 : decode cX13_copyMembers 184 = .ok (.iload_n 2, 1) := by decide +kernel
theorem dX13_copyMembers_185 : decode cX13_copyMembers 185 = .ok (.imul, 1) := by decide +kernel
theorem dX13_copyMembers_186 : decode cX13_copyMembers 186 = .ok (.iconst 4, 1) := by decide +kernel
theorem dX13_copyMembers_187 : decode cX13_copyMembers 187 = .ok (.iload_n 3, 1) := by decide +kernel
theorem dX13_copyMembers_188 : decode cX13_copyMembers 188 = .ok (.imul, 1) := by decide +kernel
theorem dX13_copyMembers_189 : decode cX13_copyMembers 189 = .ok (.invokestatic 1444, 3) := by decide +kernel
theorem dX13_copyMembers_192 : decode cX13_copyMembers 192 = .ok (.aload_n 0, 1) := by decide +kernel
theorem dX13_copyMembers_193 : decode cX13_copyMembers 193 = .ok (.getfield 371, 3) := by decide +kernel
theorem dX13_copyMembers_196 : decode cX13_copyMembers 196 = .ok (.iload_n 1, 1) := by decide +kernel
theorem dX13_copyMembers_197 : decode cX13_copyMembers 197 = .ok (.aload_n 0, 1) := by decide +kernel
theorem dX13_copyMembers_198 : decode cX13_copyMembers 198 = .ok (.getfield 371, 3) := by decide +kernel
theorem dX13_copyMembers_201 : decode cX13_copyMembers 201 = .ok (.iload_n 2, 1) := by decide +kernel
theorem dX13_copyMembers_202 : decode cX13_copyMembers 202 = .ok (.iload_n 3, 1) := by decide +kernel
theorem dX13_copyMembers_203 : decode cX13_copyMembers 203 = .ok (.invokestatic 1444, 3) := by decide +kernel
theorem dX13_copyMembers_206 : decode cX13_copyMembers 206 = .ok (.aload_n 0, 1) := by decide +kernel
theorem dX13_copyMembers_207 : decode cX13_copyMembers 207 = .ok (.getfield 374, 3) := by decide +kernel
theorem dX13_copyMembers_210 : decode cX13_copyMembers 210 = .ok (.iload_n 1, 1) := by decide +kernel
theorem dX13_copyMembers_211 : decode cX13_copyMembers 211 = .ok (.aload_n 0, 1) := by decide +kernel
theorem dX13_copyMembers_212 : decode cX13_copyMembers 212 = .ok (.getfield 374, 3) := by decide +kernel
theorem dX13_copyMembers_215 : decode cX13_copyMembers 215 = .ok (.iload_n 2, 1) := by decide +kernel
theorem dX13_copyMembers_216 : decode cX13_copyMembers 216 = .ok (.iload_n 3, 1) := by decide +kernel
theorem dX13_copyMembers_217 : decode cX13_copyMembers 217 = .ok (.invokestatic 1444, 3) := by decide +kernel
theorem dX13_copyMembers_220 : decode cX13_copyMembers 220 = .ok (.aload_n 0, 1) := by decide +kernel
theorem dX13_copyMembers_221 : decode cX13_copyMembers 221 = .ok (.getfield 377, 3) := by decide +kernel
theorem dX13_copyMembers_224 : decode cX13_copyMembers 224 = .ok (.iload_n 1, 1) := by decide +kernel
theorem dX13_copyMembers_225 : decode cX13_copyMembers 225 = .ok (.aload_n 0, 1) := by decide +kernel
theorem dX13_copyMembers_226 : decode cX13_copyMembers 226 = .ok (.getfield 377, 3) := by decide +kernel
theorem dX13_copyMembers_229 : decode cX13_copyMembers 229 = .ok (.iload_n 2, 1) := by decide +kernel
theorem dX13_copyMembers_230 : decode cX13_copyMembers 230 = .ok (.iload_n 3, 1) := by decide +kernel
theorem dX13_copyMembers_231 : decode cX13_copyMembers 231 = .ok (.invokestatic 1444, 3) := by decide +kernel
theorem dX13_copyMembers_234 : decode cX13_copyMembers 234 = .ok (.aload_n 0, 1) := by decide +kernel
theorem dX13_copyMembers_235 : decode cX13_copyMembers 235 = .ok (.getfield 380, 3) := by decide +kernel
theorem dX13_copyMembers_238 : decode cX13_copyMembers 238 = .ok (.iload_n 1, 1) := by decide +kernel
theorem dX13_copyMembers_239 : decode cX13_copyMembers 239 = .ok (.aload_n 0, 1) := by decide +kernel
theorem dX13_copyMembers_240 : decode cX13_copyMembers 240 = .ok (.getfield 380, 3) := by decide +kernel
theorem dX13_copyMembers_243 : decode cX13_copyMembers 243 = .ok (.iload_n 2, 1) := by decide +kernel
theorem dX13_copyMembers_244 : decode cX13_copyMembers 244 = .ok (.iload_n 3, 1) := by decide +kernel
theorem dX13_copyMembers_245 : decode cX13_copyMembers 245 = .ok (.invokestatic 1444, 3) := by decide +kernel
theorem dX13_copyMembers_248 : decode cX13_copyMembers 248 = .ok (.aload_n 0, 1) := by decide +kernel
theorem dX13_copyMembers_249 : decode cX13_copyMembers 249 = .ok (.getfield 383, 3) := by decide +kernel
theorem dX13_copyMembers_252 : decode cX13_copyMembers 252 = .ok (.iload_n 1, 1) := by decide +kernel
theorem dX13_copyMembers_253 : decode cX13_copyMembers 253 = .ok (.aload_n 0, 1) := by decide +kernel
theorem dX13_copyMembers_254 : decode cX13_copyMembers 254 = .ok (.getfield 383, 3) := by decide +kernel
theorem dX13_copyMembers_257 : decode cX13_copyMembers 257 = .ok (.iload_n 2, 1) := by decide +kernel
theorem dX13_copyMembers_258 : decode cX13_copyMembers 258 = .ok (.iload_n 3, 1) := by decide +kernel
theorem dX13_copyMembers_259 : decode cX13_copyMembers 259 = .ok (.invokestatic 1444, 3) := by decide +kernel
theorem dX13_copyMembers_262 : decode cX13_copyMembers 262 = .ok (.aload_n 0, 1) := by decide +kernel
theorem dX13_copyMembers_263 : decode cX13_copyMembers 263 = .ok (.getfield 386, 3) := by decide +kernel
theorem dX13_copyMembers_266 : decode cX13_copyMembers 266 = .ok (.iload_n 1, 1) := by decide +kernel
theorem dX13_copyMembers_267 : decode cX13_copyMembers 267 = .ok (.aload_n 0, 1) := by decide +kernel
theorem dX13_copyMembers_268 : decode cX13_copyMembers 268 = .ok (.getfield 386, 3) := by decide +kernel
theorem dX13_copyMembers_271 : decode cX13_copyMembers 271 = .ok (.iload_n 2, 1) := by decide +kernel
theorem dX13_copyMembers_272 : decode cX13_copyMembers 272 = .ok (.iload_n 3, 1) := by decide +kernel
theorem dX13_copyMembers_273 : decode cX13_copyMembers 273 = .ok (.invokestatic 1444, 3) := by decide +kernel
theorem dX13_copyMembers_276 : decode cX13_copyMembers 276 = .ok (.aload_n 0, 1) := by decide +kernel
theorem dX13_copyMembers_277 : decode cX13_copyMembers 277 = .ok (.getfield 389, 3) := by decide +kernel
theorem dX13_copyMembers_280 : decode cX13_copyMembers 280 = .ok (.iload_n 1, 1) := by decide +kernel
theorem dX13_copyMembers_281 : decode cX13_copyMembers 281 = .ok (.aload_n 0, 1) := by decide +kernel
theorem dX13_copyMembers_282 : decode cX13_copyMembers 282 = .ok (.getfield 389, 3) := by decide +kernel
theorem dX13_copyMembers_285 : decode cX13_copyMembers 285 = .ok (.iload_n 2, 1) := by decide +kernel
theorem dX13_copyMembers_286 : decode cX13_copyMembers 286 = .ok (.iload_n 3, 1) := by decide +kernel
theorem dX13_copyMembers_287 : decode cX13_copyMembers 287 = .ok (.invokestatic 1444, 3) := by decide +kernel
theorem dX13_copyMembers_290 : decode cX13_copyMembers 290 = .ok (.iload_n 2, 1) := by decide +kernel
theorem dX13_copyMembers_291 : decode cX13_copyMembers 291 = .ok (.iload_n 1, 1) := by decide +kernel
theorem dX13_copyMembers_292 : decode cX13_copyMembers 292 = .ok (.isub, 1) := by decide +kernel
theorem dX13_copyMembers_293 : decode cX13_copyMembers 293 = .ok (.iload_n 3, 1) := by decide +kernel
theorem dX13_copyMembers_294 : decode cX13_copyMembers 294 = .ok (.idiv, 1) := by decide +kernel
theorem dX13_copyMembers_295 : decode cX13_copyMembers 295 = .ok (.sipush 1700, 3) := by decide +kernel
theorem dX13_copyMembers_298 : decode cX13_copyMembers 298 = .ok (.imul, 1) := by decide +kernel
theorem dX13_copyMembers_299 : decode cX13_copyMembers 299 = .ok (.istore 4, 2) := by decide +kernel
theorem dX13_copyMembers_301 : decode cX13_copyMembers 301 = .ok (.iconst 0, 1) := by decide +kernel
theorem dX13_copyMembers_302 : decode cX13_copyMembers 302 = .ok (.istore 5, 2) := by decide +kernel
theorem dX13_copyMembers_304 : decode cX13_copyMembers 304 = .ok (.iload 5, 2) := by decide +kernel
theorem dX13_copyMembers_306 : decode cX13_copyMembers 306 = .ok (.iload_n 3, 1) := by decide +kernel
theorem dX13_copyMembers_307 : decode cX13_copyMembers 307 = .ok (.if_icmp .ge 89, 3) := by decide +kernel
theorem dX13_copyMembers_310 : decode cX13_copyMembers 310 = .ok (.aload_n 0, 1) := by decide +kernel
theorem dX13_copyMembers_311 : decode cX13_copyMembers 311 = .ok (.getfield 365, 3) := by decide +kernel
theorem dX13_copyMembers_314 : decode cX13_copyMembers 314 = .ok (.iload_n 2, 1) := by decide +kernel
theorem dX13_copyMembers_315 : decode cX13_copyMembers 315 = .ok (.iload 5, 2) := by decide +kernel
theorem dX13_copyMembers_317 : decode cX13_copyMembers 317 = .ok (.iadd, 1) := by decide +kernel
theorem dX13_copyMembers_318 : decode cX13_copyMembers 318 = .ok (.aload_n 0, 1) := by decide +kernel
theorem dX13_copyMembers_319 : decode cX13_copyMembers 319 = .ok (.getfield 365, 3) := by decide +kernel
theorem dX13_copyMembers_322 : decode cX13_copyMembers 322 = .ok (.iload_n 1, 1) := by decide +kernel
theorem dX13_copyMembers_323 : decode cX13_copyMembers 323 = .ok (.iload 5, 2) := by decide +kernel
theorem dX13_copyMembers_325 : decode cX13_copyMembers 325 = .ok (.iadd, 1) := by decide +kernel
theorem dX13_copyMembers_326 : decode cX13_copyMembers 326 = .ok (.iaload, 1) := by decide +kernel
theorem dX13_copyMembers_327 : decode cX13_copyMembers 327 = .ok (.bipush (-2), 2) := by decide +kernel
theorem dX13_copyMembers_329 : decode cX13_copyMembers 329 = .ok (.if_icmp .ne 8, 3) := by decide +kernel
theorem dX13_copyMembers_332 : decode cX13_copyMembers 332 = .ok (.bipush (-2), 2) := by decide +kernel
theorem dX13_copyMembers_334 : decode cX13_copyMembers 334 = .ok (.goto 15, 3) := by decide +kernel
theorem dX13_copyMembers_337 : decode cX13_copyMembers 337 = .ok (.aload_n 0, 1) := by decide +kernel
theorem dX13_copyMembers_338 : decode cX13_copyMembers 338 = .ok (.getfield 365, 3) := by decide +kernel
theorem dX13_copyMembers_341 : decode cX13_copyMembers 341 = .ok (.iload_n 1, 1) := by decide +kernel
theorem dX13_copyMembers_342 : decode cX13_copyMembers 342 = .ok (.iload 5, 2) := by decide +kernel
theorem dX13_copyMembers_344 : decode cX13_copyMembers 344 = .ok (.iadd, 1) := by decide +kernel
theorem dX13_copyMembers_345 : decode cX13_copyMembers 345 = .ok (.iaload, 1) := by decide +kernel
theorem dX13_copyMembers_346 : decode cX13_copyMembers 346 = .ok (.iload 4, 2) := by decide +kernel
theorem dX13_copyMembers_348 : decode cX13_copyMembers 348 = .ok (.iadd, 1) := by decide +kernel
theorem dX13_copyMembers_349 : decode cX13_copyMembers 349 = .ok (.iastore, 1) := by decide +kernel
theorem dX13_copyMembers_350 : decode cX13_copyMembers 350 = .ok (.aload_n 0, 1) := by decide +kernel
theorem dX13_copyMembers_351 : decode cX13_copyMembers 351 = .ok (.getfield 368, 3) := by decide +kernel
theorem dX13_copyMembers_354 : decode cX13_copyMembers 354 = .ok (.iload_n 2, 1) := by decide +kernel
theorem dX13_copyMembers_355 : decode cX13_copyMembers 355 = .ok (.iload 5, 2) := by decide +kernel
theorem dX13_copyMembers_357 : decode cX13_copyMembers 357 = .ok (.iadd, 1) := by decide +kernel
theorem dX13_copyMembers_358 : decode cX13_copyMembers 358 = .ok (.aload_n 0, 1) := by decide +kernel
theorem dX13_copyMembers_359 : decode cX13_copyMembers 359 = .ok (.getfield 368, 3) := by decide +kernel
theorem dX13_copyMembers_362 : decode cX13_copyMembers 362 = .ok (.iload_n 1, 1) := by decide +kernel
theorem dX13_copyMembers_363 : decode cX13_copyMembers 363 = .ok (.iload 5, 2) := by decide +kernel
theorem dX13_copyMembers_365 : decode cX13_copyMembers 365 = .ok (.iadd, 1) := by decide +kernel
theorem dX13_copyMembers_366 : decode cX13_copyMembers 366 = .ok (.iaload, 1) := by decide +kernel
theorem dX13_copyMembers_367 : decode cX13_copyMembers 367 = .ok (.bipush (-2), 2) := by decide +kernel
theorem dX13_copyMembers_369 : decode cX13_copyMembers 369 = .ok (.if_icmp .ne 8, 3) := by decide +kernel
theorem dX13_copyMembers_372 : decode cX13_copyMembers 372 = .ok (.bipush (-2), 2) := by decide +kernel
theorem dX13_copyMembers_374 : decode cX13_copyMembers 374 = .ok (.goto 15, 3) := by decide +kernel
theorem dX13_copyMembers_377 : decode cX13_copyMembers 377 = .ok (.aload_n 0, 1) := by decide +kernel
theorem dX13_copyMembers_378 : decode cX13_copyMembers 378 = .ok (.getfield 368, 3) := by decide +kernel
theorem dX13_copyMembers_381 : decode cX13_copyMembers 381 = .ok (.iload_n 1, 1) := by decide +kernel
theorem dX13_copyMembers_382 : decode cX13_copyMembers 382 = .ok (.iload 5, 2) := by decide +kernel
theorem dX13_copyMembers_384 : decode cX13_copyMembers 384 = .ok (.iadd, 1) := by decide +kernel
theorem dX13_copyMembers_385 : decode cX13_copyMembers 385 = .ok (.iaload, 1) := by decide +kernel
theorem dX13_copyMembers_386 : decode cX13_copyMembers 386 = .ok (.iload 4, 2) := by decide +kernel
theorem dX13_copyMembers_388 : decode cX13_copyMembers 388 = .ok (.iadd, 1) := by decide +kernel
theorem dX13_copyMembers_389 : decode cX13_copyMembers 389 = .ok (.iastore, 1) := by decide +kernel
theorem dX13_copyMembers_390 : decode cX13_copyMembers 390 = .ok (.iinc 5 1, 3) := by decide +kernel
theorem dX13_copyMembers_393 : decode cX13_copyMembers 393 = .ok (.goto (-89), 3) := by decide +kernel
theorem dX13_copyMembers_396 : decode cX13_copyMembers 396 = .ok (.return_, 1) := by decide +kernel
theorem dX13_copyNodes_0 : decode cX13_copyNodes 0 = .ok (.aload_n 0, 1) := by decide +kernel
theorem dX13_copyNodes_1 : decode cX13_copyNodes 1 = .ok (.getfield 173, 3) := by decide +kernel
theorem dX13_copyNodes_4 : decode cX13_copyNodes 4 = .ok (.iload_n 1, 1) := by decide +kernel
theorem dX13_copyNodes_5 : decode cX13_copyNodes 5 = .ok (.aload_n 0, 1) := by decide +kernel
theorem dX13_copyNodes_6 : decode cX13_copyNodes 6 = .ok (.getfield 173, 3) := by decide +kernel
theorem dX13_copyNodes_9 : decode cX13_copyNodes 9 = .ok (.iload_n 2, 1) := by decide +kernel
theorem dX13_copyNodes_10 : decode cX13_copyNodes 10 = .ok (.sipush 1700, 3) := by decide +kernel
theorem dX13_copyNodes_13 : decode cX13_copyNodes 13 = .ok (.invokestatic 1444, 3) := by decide +kernel
theorem dX13_copyNodes_16 : decode cX13_copyNodes 16 = .ok (.aload_n 0, 1) := by decide +kernel
theorem dX13_copyNodes_17 : decode cX13_copyNodes 17 = .ok (.getfield 185, 3) := by decide +kernel
theorem dX13_copyNodes_20 : decode cX13_copyNodes 20 = .ok (.iload_n 1, 1) := by decide +kernel
theorem dX13_copyNodes_21 : decode cX13_copyNodes 21 = .ok (.aload_n 0, 1) := by decide +kernel
theorem dX13_copyNodes_22 : decode cX13_copyNodes 22 = .ok (.getfield 185, 3) := by decide +kernel
theorem dX13_copyNodes_25 : decode cX13_copyNodes 25 = .ok (.iload_n 2, 1) := by decide +kernel
theorem dX13_copyNodes_26 : decode cX13_copyNodes 26 = .ok (.sipush 1700, 3) := by decide +kernel

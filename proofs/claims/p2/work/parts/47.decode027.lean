theorem dX13_cast_34 : decode cX13_cast 34 = .ok (.ifCond .eq 7, 3) := by decide +kernel
theorem dX13_cast_37 : decode cX13_cast 37 = .ok (.iload_n 2, 1) := by decide +kernel
theorem dX13_cast_38 : decode cX13_cast 38 = .ok (.goto 9, 3) := by decide +kernel
theorem dX13_cast_41 : decode cX13_cast 41 = .ok (.aload_n 0, 1) := by decide +kernel
theorem dX13_cast_42 : decode cX13_cast 42 = .ok (.bipush 12, 2) := by decide +kernel
theorem dX13_cast_44 : decode cX13_cast 44 = .ok (.invokevirtual 1213, 3) := by decide +kernel
theorem dX13_cast_47 : decode cX13_cast 47 = .ok (.ireturn, 1) := by decide +kernel
theorem dX13_evalNew_0 : decode cX13_evalNew 0 = .ok (.aload_n 0, 1) := by decide +kernel
theorem dX13_evalNew_1 : decode cX13_evalNew 1 = .ok (.aload_n 0, 1) := by decide +kernel
theorem dX13_evalNew_2 : decode cX13_evalNew 2 = .ok (.getfield 221, 3) := by decide +kernel
theorem dX13_evalNew_5 : decode cX13_evalNew 5 = .ok (.iload_n 2, 1) := by decide +kernel
theorem dX13_evalNew_6 : decode cX13_evalNew 6 = .ok (.iaload, 1) := by decide +kernel
theorem dX13_evalNew_7 : decode cX13_evalNew 7 = .ok (.invokevirtual 1288, 3) := by decide +kernel
theorem dX13_evalNew_10 : decode cX13_evalNew 10 = .ok (.ifCond .eq 16, 3) := by decide +kernel
theorem dX13_evalNew_13 : decode cX13_evalNew 13 = .ok (.aload_n 0, 1) := by decide +kernel
theorem dX13_evalNew_14 : decode cX13_evalNew 14 = .ok (.aload_n 0, 1) := by decide +kernel
theorem dX13_evalNew_15 : decode cX13_evalNew 15 = .ok (.getfield 188, 3) := by decide +kernel
theorem dX13_evalNew_18 : decode cX13_evalNew 18 = .ok (.iload_n 2, 1) := by decide +kernel
theorem dX13_evalNew_19 : decode cX13_evalNew 19 = .ok (.laload, 1) := by decide +kernel
theorem dX13_evalNew_20 : decode cX13_evalNew 20 = .ok (.invokevirtual 551, 3) := by decide +kernel
theorem dX13_evalNew_23 : decode cX13_evalNew 23 = .ok (.goto 5, 3) := by decide +kernel
theorem dX13_evalNew_26 : decode cX13_evalNew 26 = .ok (.bipush (-2), 2) := by decide +kernel
theorem dX13_evalNew_28 : decode cX13_evalNew 28 = .ok (.istore_n 3, 1) := by decide +kernel
theorem dX13_evalNew_29 : decode cX13_evalNew 29 = .ok (.iload_n 3, 1) := by decide +kernel
theorem dX13_evalNew_30 : decode cX13_evalNew 30 = .ok (.bipush (-2), 2) := by decide +kernel
theorem dX13_evalNew_32 : decode cX13_evalNew 32 = .ok (.if_icmp .eq 8, 3) := by decide +kernel
theorem dX13_evalNew_35 : decode cX13_evalNew 35 = .ok (.aload_n 0, 1) := by decide +kernel
theorem dX13_evalNew_36 : decode cX13_evalNew 36 = .ok (.iload_n 3, 1) := by decide +kernel
theorem dX13_evalNew_37 : decode cX13_evalNew 37 = .ok (.invokevirtual 1222, 3) := by decide +kernel
theorem dX13_evalNew_40 : decode cX13_evalNew 40 = .ok (.iload_n 3, 1) := by decide +kernel
theorem dX13_evalNew_41 : decode cX13_evalNew 41 = .ok (.bipush (-2), 2) := by decide +kernel
theorem dX13_evalNew_43 : decode cX13_evalNew 43 = .ok (.if_icmp .eq 18, 3) := by decide +kernel
theorem dX13_evalNew_46 : decode cX13_evalNew 46 = .ok (.aload_n 0, 1) := by decide +kernel
theorem dX13_evalNew_47 : decode cX13_evalNew 47 = .ok (.getfield 1207, 3) := by decide +kernel
theorem dX13_evalNew_50 : decode cX13_evalNew 50 = .ok (.ifCond .ne 11, 3) := by decide +kernel
theorem dX13_evalNew_53 : decode cX13_evalNew 53 = .ok (.aload_n 0, 1) := by decide +kernel
theorem dX13_evalNew_54 : decode cX13_evalNew 54 = .ok (.iload_n 3, 1) := by decide +kernel
theorem dX13_evalNew_55 : decode cX13_evalNew 55 = .ok (.invokevirtual 1346, 3) := by decide +kernel
theorem dX13_evalNew_58 : decode cX13_evalNew 58 = .ok (.goto 4, 3) := by decide +kernel
theorem dX13_evalNew_61 : decode cX13_evalNew 61 = .ok (.iconst 0, 1) := by decide +kernel
theorem dX13_evalNew_62 : decode cX13_evalNew 62 = .ok (.istore 4, 2) := by decide +kernel
theorem dX13_evalNew_64 : decode cX13_evalNew 64 = .ok (.iload_n 3, 1) := by decide +kernel
theorem dX13_evalNew_65 : decode cX13_evalNew 65 = .ok (.bipush (-2), 2) := by decide +kernel
theorem dX13_evalNew_67 : decode cX13_evalNew 67 = .ok (.if_icmp .eq 10, 3) := by decide +kernel
theorem dX13_evalNew_70 : decode cX13_evalNew 70 = .ok (.aload_n 0, 1) := by decide +kernel
theorem dX13_evalNew_71 : decode cX13_evalNew 71 = .ok (.getfield 1207, 3) := by decide +kernel
theorem dX13_evalNew_74 : decode cX13_evalNew 74 = .ok (.ifCond .eq 15, 3) := by decide +kernel
theorem dX13_evalNew_77 : decode cX13_evalNew 77 = .ok (.aload_n 0, 1) := by decide +kernel
theorem dX13_evalNew_78 : decode cX13_evalNew 78 = .ok (.dup, 1) := by decide +kernel
theorem dX13_evalNew_79 : decode cX13_evalNew 79 = .ok (.getfield 1300, 3) := by decide +kernel
theorem dX13_evalNew_82 : decode cX13_evalNew 82 = .ok (.iconst 1, 1) := by decide +kernel
theorem dX13_evalNew_83 : decode cX13_evalNew 83 = .ok (.isub, 1) := by decide +kernel
theorem dX13_evalNew_84 : decode cX13_evalNew 84 = .ok (.putfield 1300, 3) := by decide +kernel
theorem dX13_evalNew_87 : decode cX13_evalNew 87 = .ok (.iconst 0, 1) := by decide +kernel
theorem dX13_evalNew_88 : decode cX13_evalNew 88 = .ok (.ireturn, 1) := by decide +kernel
theorem dX13_evalNew_89 : decode cX13_evalNew 89 = .ok (.aload_n 0, 1) := by decide +kernel
theorem dX13_evalNew_90 : decode cX13_evalNew 90 = .ok (.getfield 1328, 3) := by decide +kernel
theorem dX13_evalNew_93 : decode cX13_evalNew 93 = .ok (.iload_n 1, 1) := by decide +kernel
theorem dX13_evalNew_94 : decode cX13_evalNew 94 = .ok (.iload 4, 2) := by decide +kernel
theorem dX13_evalNew_96 : decode cX13_evalNew 96 = .ok (.iastore, 1) := by decide +kernel
theorem dX13_evalNew_97 : decode cX13_evalNew 97 = .ok (.aload_n 0, 1) := by decide +kernel
theorem dX13_evalNew_98 : decode cX13_evalNew 98 = .ok (.iload_n 1, 1) := by decide +kernel
theorem dX13_evalNew_99 : decode cX13_evalNew 99 = .ok (.aload_n 0, 1) := by decide +kernel
theorem dX13_evalNew_100 : decode cX13_evalNew 100 = .ok (.getfield 197, 3) := by decide +kernel
theorem dX13_evalNew_103 : decode cX13_evalNew 103 = .ok (.iload_n 2, 1) := by decide +kernel
theorem dX13_evalNew_104 : decode cX13_evalNew 104 = .ok (.iaload, 1) := by decide +kernel
theorem dX13_evalNew_105 : decode cX13_evalNew 105 = .ok (.invokevirtual 1331, 3) := by decide +kernel
theorem dX13_evalNew_108 : decode cX13_evalNew 108 = .ok (.iload 4, 2) := by decide +kernel
theorem dX13_evalNew_110 : decode cX13_evalNew 110 = .ok (.ireturn, 1) := by decide +kernel
theorem dX13_beginArgs_0 : decode cX13_beginArgs 0 = .ok (.aload_n 0, 1) := by decide +kernel
theorem dX13_beginArgs_1 : decode cX13_beginArgs 1 = .ok (.getfield 1306, 3) := by decide +kernel
theorem dX13_beginArgs_4 : decode cX13_beginArgs 4 = .ok (.iload_n 1, 1) := by decide +kernel
theorem dX13_beginArgs_5 : decode cX13_beginArgs 5 = .ok (.aload_n 0, 1) := by decide +kernel
theorem dX13_beginArgs_6 : decode cX13_beginArgs 6 = .ok (.getfield 1248, 3) := by decide +kernel
theorem dX13_beginArgs_9 : decode cX13_beginArgs 9 = .ok (.iastore, 1) := by decide +kernel
theorem dX13_beginArgs_10 : decode cX13_beginArgs 10 = .ok (.aload_n 0, 1) := by decide +kernel
theorem dX13_beginArgs_11 : decode cX13_beginArgs 11 = .ok (.getfield 1349, 3) := by decide +kernel
theorem dX13_beginArgs_14 : decode cX13_beginArgs 14 = .ok (.iload_n 1, 1) := by decide +kernel
theorem dX13_beginArgs_15 : decode cX13_beginArgs 15 = .ok (.iload_n 2, 1) := by decide +kernel
theorem dX13_beginArgs_16 : decode cX13_beginArgs 16 = .ok (.iastore, 1) := by decide +kernel
theorem dX13_beginArgs_17 : decode cX13_beginArgs 17 = .ok (.aload_n 0, 1) := by decide +kernel
theorem dX13_beginArgs_18 : decode cX13_beginArgs 18 = .ok (.getfield 1303, 3) := by decide +kernel
theorem dX13_beginArgs_21 : decode cX13_beginArgs 21 = .ok (.iload_n 1, 1) := by decide +kernel
theorem dX13_beginArgs_22 : decode cX13_beginArgs 22 = .ok (.iconst 2, 1) := by decide +kernel
theorem dX13_beginArgs_23 : decode cX13_beginArgs 23 = .ok (.iastore, 1) := by decide +kernel
theorem dX13_beginArgs_24 : decode cX13_beginArgs 24 = .ok (.return_, 1) := by decide +kernel
theorem dX13_evalCall_0 : decode cX13_evalCall 0 = .ok (.aload_n 0, 1) := by decide +kernel
theorem dX13_evalCall_1 : decode cX13_evalCall 1 = .ok (.getfield 1303, 3) := by decide +kernel
theorem dX13_evalCall_4 : decode cX13_evalCall 4 = .ok (.iload_n 1, 1) := by decide +kernel
theorem dX13_evalCall_5 : decode cX13_evalCall 5 = .ok (.iaload, 1) := by decide +kernel
theorem dX13_evalCall_6 : decode cX13_evalCall 6 = .ok (.iconst 3, 1) := by decide +kernel
theorem dX13_evalCall_7 : decode cX13_evalCall 7 = .ok (.if_icmp .ne 23, 3) := by decide +kernel
theorem dX13_evalCall_10 : decode cX13_evalCall 10 = .ok (.aload_n 0, 1) := by decide +kernel
theorem dX13_evalCall_11 : decode cX13_evalCall 11 = .ok (.getfield 1282, 3) := by decide +kernel
theorem dX13_evalCall_14 : decode cX13_evalCall 14 = .ok (.aload_n 0, 1) := by decide +kernel
theorem dX13_evalCall_15 : decode cX13_evalCall 15 = .ok (.getfield 1248, 3) := by decide +kernel
theorem dX13_evalCall_18 : decode cX13_evalCall 18 = .ok (.iload_n 3, 1) := by decide +kernel
theorem dX13_evalCall_19 : decode cX13_evalCall 19 = .ok (.iastore, 1) := by decide +kernel
theorem dX13_evalCall_20 : decode cX13_evalCall 20 = .ok (.aload_n 0, 1) := by decide +kernel
theorem dX13_evalCall_21 : decode cX13_evalCall 21 = .ok (.dup, 1) := by decide +kernel
theorem dX13_evalCall_22 : decode cX13_evalCall 22 = .ok (.getfield 1248, 3) := by decide +kernel
theorem dX13_evalCall_25 : decode cX13_evalCall 25 = .ok (.iconst 1, 1) := by decide +kernel
theorem dX13_evalCall_26 : decode cX13_evalCall 26 = .ok (.iadd, 1) := by decide +kernel
theorem dX13_evalCall_27 : decode cX13_evalCall 27 = .ok (.putfield 1248, 3) := by decide +kernel
theorem dX13_evalCall_30 : decode cX13_evalCall 30 = .ok (.aload_n 0, 1) := by decide +kernel
theorem dX13_evalCall_31 : decode cX13_evalCall 31 = .ok (.getfield 1349, 3) := by decide +kernel
theorem dX13_evalCall_34 : decode cX13_evalCall 34 = .ok (.iload_n 1, 1) := by decide +kernel
theorem dX13_evalCall_35 : decode cX13_evalCall 35 = .ok (.iaload, 1) := by decide +kernel
theorem dX13_evalCall_36 : decode cX13_evalCall 36 = .ok (.bipush (-2), 2) := by decide +kernel
theorem dX13_evalCall_38 : decode cX13_evalCall 38 = .ok (.if_icmp .eq 39, 3) := by decide +kernel
theorem dX13_evalCall_41 : decode cX13_evalCall 41 = .ok (.aload_n 0, 1) := by decide +kernel
theorem dX13_evalCall_42 : decode cX13_evalCall 42 = .ok (.getfield 1349, 3) := by decide +kernel
theorem dX13_evalCall_45 : decode cX13_evalCall 45 = .ok (.iload_n 1, 1) := by decide +kernel
theorem dX13_evalCall_46 : decode cX13_evalCall 46 = .ok (.iaload, 1) := by decide +kernel
theorem dX13_evalCall_47 : decode cX13_evalCall 47 = .ok (.istore 5, 2) := by decide +kernel
theorem dX13_evalCall_49 : decode cX13_evalCall 49 = .ok (.aload_n 0, 1) := by decide +kernel
theorem dX13_evalCall_50 : decode cX13_evalCall 50 = .ok (.getfield 1349, 3) := by decide +kernel
theorem dX13_evalCall_53 : decode cX13_evalCall 53 = .ok (.iload_n 1, 1) := by decide +kernel
theorem dX13_evalCall_54 : decode cX13_evalCall 54 = .ok (.aload_n 0, 1) := by decide +kernel
theorem dX13_evalCall_55 : decode cX13_evalCall 55 = .ok (.getfield 203, 3) := by decide +kernel
theorem dX13_evalCall_58 : decode cX13_evalCall 58 = .ok (.iload 5, 2) := by decide +kernel
theorem dX13_evalCall_60 : decode cX13_evalCall 60 = .ok (.iaload, 1) := by decide +kernel
theorem dX13_evalCall_61 : decode cX13_evalCall 61 = .ok (.iastore, 1) := by decide +kernel
theorem dX13_evalCall_62 : decode cX13_evalCall 62 = .ok (.aload_n 0, 1) := by decide +kernel
theorem dX13_evalCall_63 : decode cX13_evalCall 63 = .ok (.getfield 1303, 3) := by decide +kernel
theorem dX13_evalCall_66 : decode cX13_evalCall 66 = .ok (.iload_n 1, 1) := by decide +kernel
theorem dX13_evalCall_67 : decode cX13_evalCall 67 = .ok (.iconst 3, 1) := by decide +kernel
theorem dX13_evalCall_68 : decode cX13_evalCall 68 = .ok (.iastore, 1) := by decide +kernel
theorem dX13_evalCall_69 : decode cX13_evalCall 69 = .ok (.aload_n 0, 1) := by decide +kernel
theorem dX13_evalCall_70 : decode cX13_evalCall 70 = .ok (.iload 5, 2) := by decide +kernel
theorem dX13_evalCall_72 : decode cX13_evalCall 72 = .ok (.invokevirtual 1309, 3) := by decide +kernel
theorem dX13_evalCall_75 : decode cX13_evalCall 75 = .ok (.iload_n 3, 1) := by decide +kernel
theorem dX13_evalCall_76 : decode cX13_evalCall 76 = .ok (.ireturn, 1) := by decide +kernel
theorem dX13_evalCall_77 : decode cX13_evalCall 77 = .ok (.aload_n 0, 1) := by decide +kernel
theorem dX13_evalCall_78 : decode cX13_evalCall 78 = .ok (.getfield 1306, 3) := by decide +kernel
theorem dX13_evalCall_81 : decode cX13_evalCall 81 = .ok (.iload_n 1, 1) := by decide +kernel
theorem dX13_evalCall_82 : decode cX13_evalCall 82 = .ok (.iaload, 1) := by decide +kernel
theorem dX13_evalCall_83 : decode cX13_evalCall 83 = .ok (.istore 5, 2) := by decide +kernel
theorem dX13_evalCall_85 : decode cX13_evalCall 85 = .ok (.aload_n 0, 1) := by decide +kernel
theorem dX13_evalCall_86 : decode cX13_evalCall 86 = .ok (.getfield 173, 3) := by decide +kernel
theorem dX13_evalCall_89 : decode cX13_evalCall 89 = .ok (.iload_n 2, 1) := by decide +kernel
theorem dX13_evalCall_90 : decode cX13_evalCall 90 = .ok (.iaload, 1) := by decide +kernel
theorem dX13_evalCall_91 : decode cX13_evalCall 91 = .ok (.bipush 9, 2) := by decide +kernel
theorem dX13_evalCall_93 : decode cX13_evalCall 93 = .ok (.if_icmp .ne 44, 3) := by decide +kernel
theorem dX13_evalCall_96 : decode cX13_evalCall 96 = .ok (.aload_n 0, 1) := by decide +kernel
theorem dX13_evalCall_97 : decode cX13_evalCall 97 = .ok (.aload_n 0, 1) := by decide +kernel
theorem dX13_evalCall_98 : decode cX13_evalCall 98 = .ok (.getfield 224, 3) := by decide +kernel
theorem dX13_evalCall_101 : decode cX13_evalCall 101 = .ok (.iload_n 2, 1) := by decide +kernel
theorem dX13_evalCall_102 : decode cX13_evalCall 102 = .ok (.iaload, 1) := by decide +kernel
theorem dX13_evalCall_103 : decode cX13_evalCall 103 = .ok (.invokevirtual 1288, 3) := by decide +kernel
theorem dX13_evalCall_106 : decode cX13_evalCall 106 = .ok (.ifCond .eq 20, 3) := by decide +kernel
theorem dX13_evalCall_109 : decode cX13_evalCall 109 = .ok (.aload_n 0, 1) := by decide +kernel
theorem dX13_evalCall_110 : decode cX13_evalCall 110 = .ok (.aload_n 0, 1) := by decide +kernel
theorem dX13_evalCall_111 : decode cX13_evalCall 111 = .ok (.getfield 1124, 3) := by decide +kernel
theorem dX13_evalCall_114 : decode cX13_evalCall 114 = .ok (.aload_n 0, 1) := by decide +kernel
theorem dX13_evalCall_115 : decode cX13_evalCall 115 = .ok (.getfield 1328, 3) := by decide +kernel
theorem dX13_evalCall_118 : decode cX13_evalCall 118 = .ok (.iload_n 1, 1) := by decide +kernel
theorem dX13_evalCall_119 : decode cX13_evalCall 119 = .ok (.iaload, 1) := by decide +kernel
theorem dX13_evalCall_120 : decode cX13_evalCall 120 = .ok (.iload 5, 2) := by decide +kernel
theorem dX13_evalCall_122 : decode cX13_evalCall 122 = .ok (.invokevirtual 1291, 3) := by decide +kernel
theorem dX13_evalCall_125 : decode cX13_evalCall 125 = .ok (.pop, 1) := by decide +kernel
theorem dX13_evalCall_126 : decode cX13_evalCall 126 = .ok (.aload_n 0, 1) := by decide +kernel
theorem dX13_evalCall_127 : decode cX13_evalCall 127 = .ok (.getfield 1328, 3) := by decide +kernel
theorem dX13_evalCall_130 : decode cX13_evalCall 130 = .ok (.iload_n 1, 1) := by decide +kernel
theorem dX13_evalCall_131 : decode cX13_evalCall 131 = .ok (.iaload, 1) := by decide +kernel
theorem dX13_evalCall_132 : decode cX13_evalCall 132 = .ok (.istore 6, 2) := by decide +kernel
theorem dX13_evalCall_134 : decode cX13_evalCall 134 = .ok (.goto 95, 3) := by decide +kernel
theorem dX13_evalCall_137 : decode cX13_evalCall 137 = .ok (.aload_n 0, 1) := by decide +kernel
theorem dX13_evalCall_138 : decode cX13_evalCall 138 = .ok (.getfield 173, 3) := by decide +kernel
theorem dX13_evalCall_141 : decode cX13_evalCall 141 = .ok (.iload_n 2, 1) := by decide +kernel
theorem dX13_evalCall_142 : decode cX13_evalCall 142 = .ok (.iaload, 1) := by decide +kernel
theorem dX13_evalCall_143 : decode cX13_evalCall 143 = .ok (.bipush 8, 2) := by decide +kernel
theorem dX13_evalCall_145 : decode cX13_evalCall 145 = .ok (.if_icmp .eq 14, 3) := by decide +kernel
theorem dX13_evalCall_148 : decode cX13_evalCall 148 = .ok (.aload_n 0, 1) := by decide +kernel
theorem dX13_evalCall_149 : decode cX13_evalCall 149 = .ok (.getfield 173, 3) := by decide +kernel
theorem dX13_evalCall_152 : decode cX13_evalCall 152 = .ok (.iload_n 2, 1) := by decide +kernel
theorem dX13_evalCall_153 : decode cX13_evalCall 153 = .ok (.iaload, 1) := by decide +kernel
theorem dX13_evalCall_154 : decode cX13_evalCall 154 = .ok (.bipush 7, 2) := by decide +kernel
theorem dX13_evalCall_156 : decode cX13_evalCall 156 = .ok (.if_icmp .ne 37, 3) := by decide +kernel
theorem dX13_evalCall_159 : decode cX13_evalCall 159 = .ok (.aload_n 0, 1) := by decide +kernel
theorem dX13_evalCall_160 : decode cX13_evalCall 160 = .ok (.aload_n 0, 1) := by decide +kernel
theorem dX13_evalCall_161 : decode cX13_evalCall 161 = .ok (.getfield 221, 3) := by decide +kernel
theorem dX13_evalCall_164 : decode cX13_evalCall 164 = .ok (.iload_n 2, 1) := by decide +kernel
theorem dX13_evalCall_165 : decode cX13_evalCall 165 = .ok (.iaload, 1) := by decide +kernel
theorem dX13_evalCall_166 : decode cX13_evalCall 166 = .ok (.invokevirtual 1288, 3) := by decide +kernel
theorem dX13_evalCall_169 : decode cX13_evalCall 169 = .ok (.ifCond .eq 18, 3) := by decide +kernel
theorem dX13_evalCall_172 : decode cX13_evalCall 172 = .ok (.aload_n 0, 1) := by decide +kernel
theorem dX13_evalCall_173 : decode cX13_evalCall 173 = .ok (.aload_n 0, 1) := by decide +kernel
theorem dX13_evalCall_174 : decode cX13_evalCall 174 = .ok (.getfield 1124, 3) := by decide +kernel
theorem dX13_evalCall_177 : decode cX13_evalCall 177 = .ok (.iload 4, 2) := by decide +kernel
theorem dX13_evalCall_179 : decode cX13_evalCall 179 = .ok (.iload 5, 2) := by decide +kernel
theorem dX13_evalCall_181 : decode cX13_evalCall 181 = .ok (.invokevirtual 1291, 3) := by decide +kernel
theorem dX13_evalCall_184 : decode cX13_evalCall 184 = .ok (.goto 4, 3) := by decide +kernel
theorem dX13_evalCall_187 : decode cX13_evalCall 187 = .ok (.iconst 0, 1) := by decide +kernel
theorem dX13_evalCall_188 : decode cX13_evalCall 188 = .ok (.istore 6, 2) := by decide +kernel
theorem dX13_evalCall_190 : decode cX13_evalCall 190 = .ok (.goto 39, 3) := by decide +kernel
theorem dX13_evalCall_193 : decode cX13_evalCall 193 = .ok (.aload_n 0, 1) := by decide +kernel
theorem dX13_evalCall_194 : decode cX13_evalCall 194 = .ok (.aload_n 0, 1) := by decide +kernel
theorem dX13_evalCall_195 : decode cX13_evalCall 195 = .ok (.getfield 221, 3) := by decide +kernel
theorem dX13_evalCall_198 : decode cX13_evalCall 198 = .ok (.iload_n 2, 1) := by decide +kernel
theorem dX13_evalCall_199 : decode cX13_evalCall 199 = .ok (.iaload, 1) := by decide +kernel
theorem dX13_evalCall_200 : decode cX13_evalCall 200 = .ok (.aload_n 0, 1) := by decide +kernel
theorem dX13_evalCall_201 : decode cX13_evalCall 201 = .ok (.getfield 173, 3) := by decide +kernel
theorem dX13_evalCall_204 : decode cX13_evalCall 204 = .ok (.iload_n 2, 1) := by decide +kernel
theorem dX13_evalCall_205 : decode cX13_evalCall 205 = .ok (.iaload, 1) := by decide +kernel
theorem dX13_evalCall_206 : decode cX13_evalCall 206 = .ok (.bipush 13, 2) := by decide +kernel
theorem dX13_evalCall_208 : decode cX13_evalCall 208 = .ok (.if_icmp .ne 12, 3) := by decide +kernel
theorem dX13_evalCall_211 : decode cX13_evalCall 211 = .ok (.aload_n 0, 1) := by decide +kernel
theorem dX13_evalCall_212 : decode cX13_evalCall 212 = .ok (.getfield 1328, 3) := by decide +kernel
theorem dX13_evalCall_215 : decode cX13_evalCall 215 = .ok (.iload_n 1, 1) := by decide +kernel
theorem dX13_evalCall_216 : decode cX13_evalCall 216 = .ok (.iaload, 1) := by decide +kernel
theorem dX13_evalCall_217 : decode cX13_evalCall 217 = .ok (.goto 5, 3) := by decide +kernel
theorem dX13_evalCall_220 : decode cX13_evalCall 220 = .ok (.iload 4, 2) := by decide +kernel
theorem dX13_evalCall_222 : decode cX13_evalCall 222 = .ok (.iload 5, 2) := by decide +kernel
theorem dX13_evalCall_224 : decode cX13_evalCall 224 = .ok (.invokevirtual 1285, 3) := by decide +kernel
theorem dX13_evalCall_227 : decode cX13_evalCall 227 = .ok (.istore 6, 2) := by decide +kernel
theorem dX13_evalCall_229 : decode cX13_evalCall 229 = .ok (.aload_n 0, 1) := by decide +kernel
theorem dX13_evalCall_230 : decode cX13_evalCall 230 = .ok (.iload 5, 2) := by decide +kernel
theorem dX13_evalCall_232 : decode cX13_evalCall 232 = .ok (.putfield 1248, 3) := by decide +kernel
theorem dX13_evalCall_235 : decode cX13_evalCall 235 = .ok (.aload_n 0, 1) := by decide +kernel
theorem dX13_evalCall_236 : decode cX13_evalCall 236 = .ok (.dup, 1) := by decide +kernel
theorem dX13_evalCall_237 : decode cX13_evalCall 237 = .ok (.getfield 1300, 3) := by decide +kernel
theorem dX13_evalCall_240 : decode cX13_evalCall 240 = .ok (.iconst 1, 1) := by decide +kernel
theorem dX13_evalCall_241 : decode cX13_evalCall 241 = .ok (.isub, 1) := by decide +kernel
theorem dX13_evalCall_242 : decode cX13_evalCall 242 = .ok (.putfield 1300, 3) := by decide +kernel
theorem dX13_evalCall_245 : decode cX13_evalCall 245 = .ok (.iload 6, 2) := by decide +kernel
theorem dX13_evalCall_247 : decode cX13_evalCall 247 = .ok (.ireturn, 1) := by decide +kernel
theorem dX13_evalArgs_0 : decode cX13_evalArgs 0 = .ok (.aload_n 0, 1) := by decide +kernel
theorem dX13_evalArgs_1 : decode cX13_evalArgs 1 = .ok (.getfield 1248, 3) := by decide +kernel
theorem dX13_evalArgs_4 : decode cX13_evalArgs 4 = .ok (.istore 5, 2) := by decide +kernel
theorem dX13_evalArgs_6 : decode cX13_evalArgs 6 = .ok (.iload_n 1, 1) := by decide +kernel
theorem dX13_evalArgs_7 : decode cX13_evalArgs 7 = .ok (.istore 6, 2) := by decide +kernel
theorem dX13_evalArgs_9 : decode cX13_evalArgs 9 = .ok (.iload 6, 2) := by decide +kernel
theorem dX13_evalArgs_11 : decode cX13_evalArgs 11 = .ok (.bipush (-2), 2) := by decide +kernel
theorem dX13_evalArgs_13 : decode cX13_evalArgs 13 = .ok (.if_icmp .eq 55, 3) := by decide +kernel
theorem dX13_evalArgs_16 : decode cX13_evalArgs 16 = .ok (.aload_n 0, 1) := by decide +kernel
theorem dX13_evalArgs_17 : decode cX13_evalArgs 17 = .ok (.getfield 1207, 3) := by decide +kernel
theorem dX13_evalArgs_20 : decode cX13_evalArgs 20 = .ok (.ifCond .ne 48, 3) := by decide +kernel
theorem dX13_evalArgs_23 : decode cX13_evalArgs 23 = .ok (.aload_n 0, 1) := by decide +kernel
theorem dX13_evalArgs_24 : decode cX13_evalArgs 24 = .ok (.iload 6, 2) := by decide +kernel
theorem dX13_evalArgs_26 : decode cX13_evalArgs 26 = .ok (.iload_n 2, 1) := by decide +kernel
theorem dX13_evalArgs_27 : decode cX13_evalArgs 27 = .ok (.iload_n 3, 1) := by decide +kernel
theorem dX13_evalArgs_28 : decode cX13_evalArgs 28 = .ok (.iload 4, 2) := by decide +kernel
theorem dX13_evalArgs_30 : decode cX13_evalArgs 30 = .ok (.invokevirtual 1251, 3) := by decide +kernel
theorem dX13_evalArgs_33 : decode cX13_evalArgs 33 = .ok (.istore 7, 2) := by decide +kernel
theorem dX13_evalArgs_35 : decode cX13_evalArgs 35 = .ok (.aload_n 0, 1) := by decide +kernel
theorem dX13_evalArgs_36 : decode cX13_evalArgs 36 = .ok (.getfield 1282, 3) := by decide +kernel
theorem dX13_evalArgs_39 : decode cX13_evalArgs 39 = .ok (.aload_n 0, 1) := by decide +kernel
theorem dX13_evalArgs_40 : decode cX13_evalArgs 40 = .ok (.getfield 1248, 3) := by decide +kernel
theorem dX13_evalArgs_43 : decode cX13_evalArgs 43 = .ok (.iload 7, 2) := by decide +kernel
theorem dX13_evalArgs_45 : decode cX13_evalArgs 45 = .ok (.iastore, 1) := by decide +kernel
theorem dX13_evalArgs_46 : decode cX13_evalArgs 46 = .ok (.aload_n 0, 1) := by decide +kernel
theorem dX13_evalArgs_47 : decode cX13_evalArgs 47 = .ok (.dup, 1) := by decide +kernel
theorem dX13_evalArgs_48 : decode cX13_evalArgs 48 = .ok (.getfield 1248, 3) := by decide +kernel
theorem dX13_evalArgs_51 : decode cX13_evalArgs 51 = .ok (.iconst 1, 1) := by decide +kernel
theorem dX13_evalArgs_52 : decode cX13_evalArgs 52 = .ok (.iadd, 1) := by decide +kernel
theorem dX13_evalArgs_53 : decode cX13_evalArgs 53 = .ok (.putfield 1248, 3) := by decide +kernel
theorem dX13_evalArgs_56 : decode cX13_evalArgs 56 = .ok (.aload_n 0, 1) := by decide +kernel
theorem dX13_evalArgs_57 : decode cX13_evalArgs 57 = .ok (.getfield 203, 3) := by decide +kernel
theorem dX13_evalArgs_60 : decode cX13_evalArgs 60 = .ok (.iload 6, 2) := by decide +kernel
theorem dX13_evalArgs_62 : decode cX13_evalArgs 62 = .ok (.iaload, 1) := by decide +kernel
theorem dX13_evalArgs_63 : decode cX13_evalArgs 63 = .ok (.istore 6, 2) := by decide +kernel
theorem dX13_evalArgs_65 : decode cX13_evalArgs 65 = .ok (.goto (-56), 3) := by decide +kernel
theorem dX13_evalArgs_68 : decode cX13_evalArgs 68 = .ok (.iload 5, 2) := by decide +kernel
theorem dX13_evalArgs_70 : decode cX13_evalArgs 70 = .ok (.ireturn, 1) := by decide +kernel
theorem dX13_getOf_0 : decode cX13_getOf 0 = .ok (.aload_n 0, 1) := by decide +kernel
theorem dX13_getOf_1 : decode cX13_getOf 1 = .ok (.iload_n 1, 1) := by decide +kernel
theorem dX13_getOf_2 : decode cX13_getOf 2 = .ok (.invokevirtual 1288, 3) := by decide +kernel
theorem dX13_getOf_5 : decode cX13_getOf 5 = .ok (.ifCond .ne 5, 3) := by decide +kernel
theorem dX13_getOf_8 : decode cX13_getOf 8 = .ok (.iconst 0, 1) := by decide +kernel
theorem dX13_getOf_9 : decode cX13_getOf 9 = .ok (.ireturn, 1) := by decide +kernel
theorem dX13_getOf_10 : decode cX13_getOf 10 = .ok (.iload_n 2, 1) := by decide +kernel
theorem dX13_getOf_11 : decode cX13_getOf 11 = .ok (.ifCond .ne 10, 3) := by decide +kernel
theorem dX13_getOf_14 : decode cX13_getOf 14 = .ok (.aload_n 0, 1) := by decide +kernel
theorem dX13_getOf_15 : decode cX13_getOf 15 = .ok (.bipush 13, 2) := by decide +kernel
theorem dX13_getOf_17 : decode cX13_getOf 17 = .ok (.invokevirtual 1213, 3) := by decide +kernel
theorem dX13_getOf_20 : decode cX13_getOf 20 = .ok (.ireturn, 1) := by decide +kernel
theorem dX13_getOf_21 : decode cX13_getOf 21 = .ok (.aload_n 0, 1) := by decide +kernel
theorem dX13_getOf_22 : decode cX13_getOf 22 = .ok (.iload_n 2, 1) := by decide +kernel
theorem dX13_getOf_23 : decode cX13_getOf 23 = .ok (.aload_n 0, 1) := by decide +kernel
theorem dX13_getOf_24 : decode cX13_getOf 24 = .ok (.getfield 1124, 3) := by decide +kernel
theorem dX13_getOf_27 : decode cX13_getOf 27 = .ok (.invokevirtual 1294, 3) := by decide +kernel
theorem dX13_getOf_30 : decode cX13_getOf 30 = .ok (.istore_n 3, 1) := by decide +kernel
theorem dX13_getOf_31 : decode cX13_getOf 31 = .ok (.iload_n 3, 1) := by decide +kernel
theorem dX13_getOf_32 : decode cX13_getOf 32 = .ok (.bipush (-2), 2) := by decide +kernel
theorem dX13_getOf_34 : decode cX13_getOf 34 = .ok (.if_icmp .ne 7, 3) := by decide +kernel
theorem dX13_getOf_37 : decode cX13_getOf 37 = .ok (.iconst 0, 1) := by decide +kernel
theorem dX13_getOf_38 : decode cX13_getOf 38 = .ok (.goto 9, 3) := by decide +kernel
theorem dX13_getOf_41 : decode cX13_getOf 41 = .ok (.aload_n 0, 1) := by decide +kernel
theorem dX13_getOf_42 : decode cX13_getOf 42 = .ok (.getfield 1265, 3) := by decide +kernel
theorem dX13_getOf_45 : decode cX13_getOf 45 = .ok (.iload_n 3, 1) := by decide +kernel
theorem dX13_getOf_46 : decode cX13_getOf 46 = .ok (.iaload, 1) := by decide +kernel
theorem dX13_getOf_47 : decode cX13_getOf 47 = .ok (.ireturn, 1) := by decide +kernel
theorem dX13_getStatic_0 : decode cX13_getStatic 0 = .ok (.aload_n 0, 1) := by decide +kernel
theorem dX13_getStatic_1 : decode cX13_getStatic 1 = .ok (.iload_n 1, 1) := by decide +kernel
theorem dX13_getStatic_2 : decode cX13_getStatic 2 = .ok (.invokevirtual 1288, 3) := by decide +kernel
theorem dX13_getStatic_5 : decode cX13_getStatic 5 = .ok (.ifCond .ne 5, 3) := by decide +kernel
theorem dX13_getStatic_8 : decode cX13_getStatic 8 = .ok (.iconst 0, 1) := by decide +kernel
theorem dX13_getStatic_9 : decode cX13_getStatic 9 = .ok (.ireturn, 1) := by decide +kernel
theorem dX13_getStatic_10 : decode cX13_getStatic 10 = .ok (.aload_n 0, 1) := by decide +kernel
theorem dX13_getStatic_11 : decode cX13_getStatic 11 = .ok (.getfield 1124, 3) := by decide +kernel
theorem dX13_getStatic_14 : decode cX13_getStatic 14 = .ok (.istore_n 2, 1) := by decide +kernel
theorem dX13_getStatic_15 : decode cX13_getStatic 15 = .ok (.aload_n 0, 1) := by decide +kernel
theorem dX13_getStatic_16 : decode cX13_getStatic 16 = .ok (.aload_n 0, 1) := by decide +kernel
theorem dX13_getStatic_17 : decode cX13_getStatic 17 = .ok (.iload_n 2, 1) := by decide +kernel
theorem dX13_getStatic_18 : decode cX13_getStatic 18 = .ok (.invokevirtual 599, 3) := by decide +kernel
theorem dX13_getStatic_21 : decode cX13_getStatic 21 = .ok (.invokevirtual 1222, 3) := by decide +kernel
theorem dX13_getStatic_24 : decode cX13_getStatic 24 = .ok (.aload_n 0, 1) := by decide +kernel
theorem dX13_getStatic_25 : decode cX13_getStatic 25 = .ok (.getfield 1207, 3) := by decide +kernel
theorem dX13_getStatic_28 : decode cX13_getStatic 28 = .ok (.ifCond .ne 12, 3) := by decide +kernel
theorem dX13_getStatic_31 : decode cX13_getStatic 31 = .ok (.aload_n 0, 1) := by decide +kernel
theorem dX13_getStatic_32 : decode cX13_getStatic 32 = .ok (.getfield 1204, 3) := by decide +kernel
theorem dX13_getStatic_35 : decode cX13_getStatic 35 = .ok (.iload_n 2, 1) := by decide +kernel
theorem dX13_getStatic_36 : decode cX13_getStatic 36 = .ok (.iaload, 1) := by decide +kernel
theorem dX13_getStatic_37 : decode cX13_getStatic 37 = .ok (.goto 4, 3) := by decide +kernel
theorem dX13_getStatic_40 : decode cX13_getStatic 40 = .ok (.iconst 0, 1) := by decide +kernel
theorem dX13_getStatic_41 : decode cX13_getStatic 41 = .ok (.ireturn, 1) := by decide +kernel
theorem dX13_exec_0 : decode cX13_exec 0 = .ok (.aload_n 0, 1) := by decide +kernel
theorem dX13_exec_1 : decode cX13_exec 1 = .ok (.getfield 173, 3) := by decide +kernel
theorem dX13_exec_4 : decode cX13_exec 4 = .ok (.iload_n 1, 1) := by decide +kernel
theorem dX13_exec_5 : decode cX13_exec 5 = .ok (.iaload, 1) := by decide +kernel
theorem dX13_exec_6 : decode cX13_exec 6 = .ok (.bipush 20, 2) := by decide +kernel
theorem dX13_exec_8 : decode cX13_exec 8 = .ok (.if_icmp .eq 11, 3) := by decide +kernel
theorem dX13_exec_11 : decode cX13_exec 11 = .ok (.aload_n 0, 1) := by decide +kernel
theorem dX13_exec_12 : decode cX13_exec 12 = .ok (.invokevirtual 1271, 3) := by decide +kernel
theorem dX13_exec_15 : decode cX13_exec 15 = .ok (.ifCond .ne 4, 3) := by decide +kernel
theorem dX13_exec_18 : decode cX13_exec 18 = .ok (.return_, 1) := by decide +kernel
theorem dX13_exec_19 : decode cX13_exec 19 = .ok (.aload_n 0, 1) := by decide +kernel
theorem dX13_exec_20 : decode cX13_exec 20 = .ok (.getfield 173, 3) := by decide +kernel
theorem dX13_exec_23 : decode cX13_exec 23 = .ok (.iload_n 1, 1) := by decide +kernel
theorem dX13_exec_24 : decode cX13_exec 24 = .ok (.iaload, 1) := by decide +kernel
theorem dX13_exec_25 : decode cX13_exec 25 = .ok (.tableswitch 279 20 26 #[43, 90, 125, 190, 279, 279, 245], 43) := by decide +kernel
theorem dX13_exec_68 : decode cX13_exec 68 = .ok (.aload_n 0, 1) := by decide +kernel
theorem dX13_exec_69 : decode cX13_exec 69 = .ok (.getfield 194, 3) := by decide +kernel
theorem dX13_exec_72 : decode cX13_exec 72 = .ok (.iload_n 1, 1) := by decide +kernel
theorem dX13_exec_73 : decode cX13_exec 73 = .ok (.iaload, 1) := by decide +kernel
theorem dX13_exec_74 : decode cX13_exec 74 = .ok (.istore 5, 2) := by decide +kernel
theorem dX13_exec_76 : decode cX13_exec 76 = .ok (.iload 5, 2) := by decide +kernel
theorem dX13_exec_78 : decode cX13_exec 78 = .ok (.bipush (-2), 2) := by decide +kernel
theorem dX13_exec_80 : decode cX13_exec 80 = .ok (.if_icmp .eq 32, 3) := by decide +kernel
theorem dX13_exec_83 : decode cX13_exec 83 = .ok (.aload_n 0, 1) := by decide +kernel
theorem dX13_exec_84 : decode cX13_exec 84 = .ok (.getfield 1207, 3) := by decide +kernel
theorem dX13_exec_87 : decode cX13_exec 87 = .ok (.ifCond .ne 25, 3) := by decide +kernel
theorem dX13_exec_90 : decode cX13_exec 90 = .ok (.aload_n 0, 1) := by decide +kernel
theorem dX13_exec_91 : decode cX13_exec 91 = .ok (.iload 5, 2) := by decide +kernel
theorem dX13_exec_93 : decode cX13_exec 93 = .ok (.iload_n 2, 1) := by decide +kernel
theorem dX13_exec_94 : decode cX13_exec 94 = .ok (.iload_n 3, 1) := by decide +kernel
theorem dX13_exec_95 : decode cX13_exec 95 = .ok (.iload 4, 2) := by decide +kernel
theorem dX13_exec_97 : decode cX13_exec 97 = .ok (.invokevirtual 1255, 3) := by decide +kernel
theorem dX13_exec_100 : decode cX13_exec 100 = .ok (.aload_n 0, 1) := by decide +kernel
theorem dX13_exec_101 : decode cX13_exec 101 = .ok (.getfield 203, 3) := by decide +kernel
theorem dX13_exec_104 : decode cX13_exec 104 = .ok (.iload 5, 2) := by decide +kernel
theorem dX13_exec_106 : decode cX13_exec 106 = .ok (.iaload, 1) := by decide +kernel
theorem dX13_exec_107 : decode cX13_exec 107 = .ok (.istore 5, 2) := by decide +kernel
theorem dX13_exec_109 : decode cX13_exec 109 = .ok (.goto (-33), 3) := by decide +kernel
theorem dX13_exec_112 : decode cX13_exec 112 = .ok (.goto 201, 3) := by decide +kernel
theorem dX13_exec_115 : decode cX13_exec 115 = .ok (.aload_n 0, 1) := by decide +kernel
theorem dX13_exec_116 : decode cX13_exec 116 = .ok (.aload_n 0, 1) := by decide +kernel
theorem dX13_exec_117 : decode cX13_exec 117 = .ok (.getfield 194, 3) := by decide +kernel
theorem dX13_exec_120 : decode cX13_exec 120 = .ok (.iload_n 1, 1) := by decide +kernel
theorem dX13_exec_121 : decode cX13_exec 121 = .ok (.iaload, 1) := by decide +kernel
theorem dX13_exec_122 : decode cX13_exec 122 = .ok (.iload_n 2, 1) := by decide +kernel
theorem dX13_exec_123 : decode cX13_exec 123 = .ok (.iload_n 3, 1) := by decide +kernel
theorem dX13_exec_124 : decode cX13_exec 124 = .ok (.iload 4, 2) := by decide +kernel
theorem dX13_exec_126 : decode cX13_exec 126 = .ok (.invokevirtual 1251, 3) := by decide +kernel
theorem dX13_exec_129 : decode cX13_exec 129 = .ok (.istore 5, 2) := by decide +kernel
theorem dX13_exec_131 : decode cX13_exec 131 = .ok (.aload_n 0, 1) := by decide +kernel
theorem dX13_exec_132 : decode cX13_exec 132 = .ok (.getfield 1282, 3) := by decide +kernel
theorem dX13_exec_135 : decode cX13_exec 135 = .ok (.iload 4, 2) := by decide +kernel
theorem dX13_exec_137 : decode cX13_exec 137 = .ok (.aload_n 0, 1) := by decide +kernel
theorem dX13_exec_138 : decode cX13_exec 138 = .ok (.getfield 209, 3) := by decide +kernel
theorem dX13_exec_141 : decode cX13_exec 141 = .ok (.iload_n 1, 1) := by decide +kernel
theorem dX13_exec_142 : decode cX13_exec 142 = .ok (.iaload, 1) := by decide +kernel
theorem dX13_exec_143 : decode cX13_exec 143 = .ok (.iadd, 1) := by decide +kernel
theorem dX13_exec_144 : decode cX13_exec 144 = .ok (.iload 5, 2) := by decide +kernel
theorem dX13_exec_146 : decode cX13_exec 146 = .ok (.iastore, 1) := by decide +kernel
theorem dX13_exec_147 : decode cX13_exec 147 = .ok (.goto 166, 3) := by decide +kernel
theorem dX13_exec_150 : decode cX13_exec 150 = .ok (.aload_n 0, 1) := by decide +kernel
theorem dX13_exec_151 : decode cX13_exec 151 = .ok (.aload_n 0, 1) := by decide +kernel
theorem dX13_exec_152 : decode cX13_exec 152 = .ok (.getfield 194, 3) := by decide +kernel
theorem dX13_exec_155 : decode cX13_exec 155 = .ok (.iload_n 1, 1) := by decide +kernel
theorem dX13_exec_156 : decode cX13_exec 156 = .ok (.iaload, 1) := by decide +kernel
theorem dX13_exec_157 : decode cX13_exec 157 = .ok (.iload_n 2, 1) := by decide +kernel
theorem dX13_exec_158 : decode cX13_exec 158 = .ok (.iload_n 3, 1) := by decide +kernel
theorem dX13_exec_159 : decode cX13_exec 159 = .ok (.iload 4, 2) := by decide +kernel
theorem dX13_exec_161 : decode cX13_exec 161 = .ok (.invokevirtual 1251, 3) := by decide +kernel
theorem dX13_exec_164 : decode cX13_exec 164 = .ok (.istore 5, 2) := by decide +kernel
theorem dX13_exec_166 : decode cX13_exec 166 = .ok (.iload 5, 2) := by decide +kernel
theorem dX13_exec_168 : decode cX13_exec 168 = .ok (.ifCond .eq 12, 3) := by decide +kernel
theorem dX13_exec_171 : decode cX13_exec 171 = .ok (.aload_n 0, 1) := by decide +kernel
theorem dX13_exec_172 : decode cX13_exec 172 = .ok (.getfield 197, 3) := by decide +kernel
theorem dX13_exec_175 : decode cX13_exec 175 = .ok (.iload_n 1, 1) := by decide +kernel
theorem dX13_exec_176 : decode cX13_exec 176 = .ok (.iaload, 1) := by decide +kernel
theorem dX13_exec_177 : decode cX13_exec 177 = .ok (.goto 9, 3) := by decide +kernel
theorem dX13_exec_180 : decode cX13_exec 180 = .ok (.aload_n 0, 1) := by decide +kernel
theorem dX13_exec_181 : decode cX13_exec 181 = .ok (.getfield 200, 3) := by decide +kernel
theorem dX13_exec_184 : decode cX13_exec 184 = .ok (.iload_n 1, 1) := by decide +kernel
theorem dX13_exec_185 : decode cX13_exec 185 = .ok (.iaload, 1) := by decide +kernel
theorem dX13_exec_186 : decode cX13_exec 186 = .ok (.istore 6, 2) := by decide +kernel
theorem dX13_exec_188 : decode cX13_exec 188 = .ok (.aload_n 0, 1) := by decide +kernel
theorem dX13_exec_189 : decode cX13_exec 189 = .ok (.getfield 1207, 3) := by decide +kernel
theorem dX13_exec_192 : decode cX13_exec 192 = .ok (.ifCond .ne 121, 3) := by decide +kernel
theorem dX13_exec_195 : decode cX13_exec 195 = .ok (.iload 6, 2) := by decide +kernel
theorem dX13_exec_197 : decode cX13_exec 197 = .ok (.bipush (-2), 2) := by decide +kernel
theorem dX13_exec_199 : decode cX13_exec 199 = .ok (.if_icmp .eq 114, 3) := by decide +kernel
theorem dX13_exec_202 : decode cX13_exec 202 = .ok (.aload_n 0, 1) := by decide +kernel
theorem dX13_exec_203 : decode cX13_exec 203 = .ok (.iload 6, 2) := by decide +kernel
theorem dX13_exec_205 : decode cX13_exec 205 = .ok (.iload_n 2, 1) := by decide +kernel
theorem dX13_exec_206 : decode cX13_exec 206 = .ok (.iload_n 3, 1) := by decide +kernel
theorem dX13_exec_207 : decode cX13_exec 207 = .ok (.iload 4, 2) := by decide +kernel
theorem dX13_exec_209 : decode cX13_exec 209 = .ok (.invokevirtual 1255, 3) := by decide +kernel
theorem dX13_exec_212 : decode cX13_exec 212 = .ok (.goto 101, 3) := by decide +kernel
theorem dX13_exec_215 : decode cX13_exec 215 = .ok (.aload_n 0, 1) := by decide +kernel
theorem dX13_exec_216 : decode cX13_exec 216 = .ok (.getfield 1207, 3) := by decide +kernel
theorem dX13_exec_219 : decode cX13_exec 219 = .ok (.ifCond .ne 94, 3) := by decide +kernel
theorem dX13_exec_222 : decode cX13_exec 222 = .ok (.aload_n 0, 1) := by decide +kernel
theorem dX13_exec_223 : decode cX13_exec 223 = .ok (.invokevirtual 1271, 3) := by decide +kernel
theorem dX13_exec_226 : decode cX13_exec 226 = .ok (.ifCond .eq 87, 3) := by decide +kernel
theorem dX13_exec_229 : decode cX13_exec 229 = .ok (.aload_n 0, 1) := by decide +kernel
theorem dX13_exec_230 : decode cX13_exec 230 = .ok (.aload_n 0, 1) := by decide +kernel
theorem dX13_exec_231 : decode cX13_exec 231 = .ok (.getfield 194, 3) := by decide +kernel
theorem dX13_exec_234 : decode cX13_exec 234 = .ok (.iload_n 1, 1) := by decide +kernel
theorem dX13_exec_235 : decode cX13_exec 235 = .ok (.iaload, 1) := by decide +kernel
theorem dX13_exec_236 : decode cX13_exec 236 = .ok (.iload_n 2, 1) := by decide +kernel
theorem dX13_exec_237 : decode cX13_exec 237 = .ok (.iload_n 3, 1) := by decide +kernel
theorem dX13_exec_238 : decode cX13_exec 238 = .ok (.iload 4, 2) := by decide +kernel
theorem dX13_exec_240 : decode cX13_exec 240 = .ok (.invokevirtual 1251, 3) := by decide +kernel
theorem dX13_exec_243 : decode cX13_exec 243 = .ok (.ifCond .eq 70, 3) := by decide +kernel
theorem dX13_exec_246 : decode cX13_exec 246 = .ok (.aload_n 0, 1) := by decide +kernel
theorem dX13_exec_247 : decode cX13_exec 247 = .ok (.getfield 1207, 3) := by decide +kernel
theorem dX13_exec_250 : decode cX13_exec 250 = .ok (.ifCond .ne 63, 3) := by decide +kernel
theorem dX13_exec_253 : decode cX13_exec 253 = .ok (.aload_n 0, 1) := by decide +kernel
theorem dX13_exec_254 : decode cX13_exec 254 = .ok (.aload_n 0, 1) := by decide +kernel
theorem dX13_exec_255 : decode cX13_exec 255 = .ok (.getfield 197, 3) := by decide +kernel
theorem dX13_exec_258 : decode cX13_exec 258 = .ok (.iload_n 1, 1) := by decide +kernel
theorem dX13_exec_259 : decode cX13_exec 259 = .ok (.iaload, 1) := by decide +kernel
theorem dX13_exec_260 : decode cX13_exec 260 = .ok (.iload_n 2, 1) := by decide +kernel
theorem dX13_exec_261 : decode cX13_exec 261 = .ok (.iload_n 3, 1) := by decide +kernel
theorem dX13_exec_262 : decode cX13_exec 262 = .ok (.iload 4, 2) := by decide +kernel
theorem dX13_exec_264 : decode cX13_exec 264 = .ok (.invokevirtual 1255, 3) := by decide +kernel
theorem dX13_exec_267 : decode cX13_exec 267 = .ok (.goto (-52), 3) := by decide +kernel
theorem dX13_exec_270 : decode cX13_exec 270 = .ok (.aload_n 0, 1) := by decide +kernel
theorem dX13_exec_271 : decode cX13_exec 271 = .ok (.aload_n 0, 1) := by decide +kernel
theorem dX13_exec_272 : decode cX13_exec 272 = .ok (.getfield 194, 3) := by decide +kernel
theorem dX13_exec_275 : decode cX13_exec 275 = .ok (.iload_n 1, 1) := by decide +kernel
theorem dX13_exec_276 : decode cX13_exec 276 = .ok (.iaload, 1) := by decide +kernel
theorem dX13_exec_277 : decode cX13_exec 277 = .ok (.iload_n 2, 1) := by decide +kernel
theorem dX13_exec_278 : decode cX13_exec 278 = .ok (.iload_n 3, 1) := by decide +kernel
theorem dX13_exec_279 : decode cX13_exec 279 = .ok (.iload 4, 2) := by decide +kernel
theorem dX13_exec_281 : decode cX13_exec 281 = .ok (.invokevirtual 1255, 3) := by decide +kernel
theorem dX13_exec_284 : decode cX13_exec 284 = .ok (.aload_n 0, 1) := by decide +kernel
theorem dX13_exec_285 : decode cX13_exec 285 = .ok (.getfield 1207, 3) := by decide +kernel
theorem dX13_exec_288 : decode cX13_exec 288 = .ok (.iconst 2, 1) := by decide +kernel
theorem dX13_exec_289 : decode cX13_exec 289 = .ok (.if_icmp .ne 24, 3) := by decide +kernel
theorem dX13_exec_292 : decode cX13_exec 292 = .ok (.aload_n 0, 1) := by decide +kernel
theorem dX13_exec_293 : decode cX13_exec 293 = .ok (.iload_n 1, 1) := by decide +kernel
theorem dX13_exec_294 : decode cX13_exec 294 = .ok (.iload_n 2, 1) := by decide +kernel
theorem dX13_exec_295 : decode cX13_exec 295 = .ok (.iload_n 3, 1) := by decide +kernel
theorem dX13_exec_296 : decode cX13_exec 296 = .ok (.iload 4, 2) := by decide +kernel
theorem dX13_exec_298 : decode cX13_exec 298 = .ok (.invokevirtual 1352, 3) := by decide +kernel
theorem dX13_exec_301 : decode cX13_exec 301 = .ok (.goto 12, 3) := by decide +kernel
theorem dX13_exec_304 : decode cX13_exec 304 = .ok (.aload_n 0, 1) := by decide +kernel
theorem dX13_exec_305 : decode cX13_exec 305 = .ok (.iload_n 1, 1) := by decide +kernel
theorem dX13_exec_306 : decode cX13_exec 306 = .ok (.iload_n 2, 1) := by decide +kernel
theorem dX13_exec_307 : decode cX13_exec 307 = .ok (.iload_n 3, 1) := by decide +kernel
theorem dX13_exec_308 : decode cX13_exec 308 = .ok (.iload 4, 2) := by decide +kernel
theorem dX13_exec_310 : decode cX13_exec 310 = .ok (.invokevirtual 1355, 3) := by decide +kernel
theorem dX13_exec_313 : decode cX13_exec 313 = .ok (.return_, 1) := by decide +kernel
theorem dX13_caught_0 : decode cX13_caught 0 = .ok (.aload_n 0, 1) := by decide +kernel
theorem dX13_caught_1 : decode cX13_caught 1 = .ok (.getfield 1279, 3) := by decide +kernel
theorem dX13_caught_4 : decode cX13_caught 4 = .ok (.istore 5, 2) := by decide +kernel
theorem dX13_caught_6 : decode cX13_caught 6 = .ok (.aload_n 0, 1) := by decide +kernel
theorem dX13_caught_7 : decode cX13_caught 7 = .ok (.iconst 0, 1) := by decide +kernel
theorem dX13_caught_8 : decode cX13_caught 8 = .ok (.putfield 1207, 3) := by decide +kernel
theorem dX13_caught_11 : decode cX13_caught 11 = .ok (.aload_n 0, 1) := by decide +kernel
theorem dX13_caught_12 : decode cX13_caught 12 = .ok (.aload_n 0, 1) := by decide +kernel
theorem dX13_caught_13 : decode cX13_caught 13 = .ok (.getfield 221, 3) := by decide +kernel
theorem dX13_caught_16 : decode cX13_caught 16 = .ok (.iload_n 1, 1) := by decide +kernel
theorem dX13_caught_17 : decode cX13_caught 17 = .ok (.iaload, 1) := by decide +kernel
theorem dX13_caught_18 : decode cX13_caught 18 = .ok (.invokevirtual 1288, 3) := by decide +kernel
theorem dX13_caught_21 : decode cX13_caught 21 = .ok (.ifCond .ne 4, 3) := by decide +kernel
theorem dX13_caught_24 : decode cX13_caught 24 = .ok (.return_, 1) := by decide +kernel
theorem dX13_caught_25 : decode cX13_caught 25 = .ok (.aload_n 0, 1) := by decide +kernel
theorem dX13_caught_26 : decode cX13_caught 26 = .ok (.iload 5, 2) := by decide +kernel
theorem dX13_caught_28 : decode cX13_caught 28 = .ok (.aload_n 0, 1) := by decide +kernel
theorem dX13_caught_29 : decode cX13_caught 29 = .ok (.aload_n 0, 1) := by decide +kernel
theorem dX13_caught_30 : decode cX13_caught 30 = .ok (.getfield 188, 3) := by decide +kernel
theorem dX13_caught_33 : decode cX13_caught 33 = .ok (.iload_n 1, 1) := by decide +kernel
theorem dX13_caught_34 : decode cX13_caught 34 = .ok (.laload, 1) := by decide +kernel
theorem dX13_caught_35 : decode cX13_caught 35 = .ok (.invokevirtual 551, 3) := by decide +kernel
theorem dX13_caught_38 : decode cX13_caught 38 = .ok (.invokevirtual 1343, 3) := by decide +kernel
theorem dX13_caught_41 : decode cX13_caught 41 = .ok (.ifCond .eq 36, 3) := by decide +kernel
theorem dX13_caught_44 : decode cX13_caught 44 = .ok (.aload_n 0, 1) := by decide +kernel
theorem dX13_caught_45 : decode cX13_caught 45 = .ok (.getfield 1282, 3) := by decide +kernel
theorem dX13_caught_48 : decode cX13_caught 48 = .ok (.iload 4, 2) := by decide +kernel
theorem dX13_caught_50 : decode cX13_caught 50 = .ok (.aload_n 0, 1) := by decide +kernel
theorem dX13_caught_51 : decode cX13_caught 51 = .ok (.getfield 209, 3) := by decide +kernel
theorem dX13_caught_54 : decode cX13_caught 54 = .ok (.iload_n 1, 1) := by decide +kernel
theorem dX13_caught_55 : decode cX13_caught 55 = .ok (.iaload, 1) := by decide +kernel
theorem dX13_caught_56 : decode cX13_caught 56 = .ok (.iadd, 1) := by decide +kernel
theorem dX13_caught_57 : decode cX13_caught 57 = .ok (.iload 5, 2) := by decide +kernel
theorem dX13_caught_59 : decode cX13_caught 59 = .ok (.iastore, 1) := by decide +kernel
theorem dX13_caught_60 : decode cX13_caught 60 = .ok (.aload_n 0, 1) := by decide +kernel
theorem dX13_caught_61 : decode cX13_caught 61 = .ok (.aload_n 0, 1) := by decide +kernel
theorem dX13_caught_62 : decode cX13_caught 62 = .ok (.getfield 197, 3) := by decide +kernel
theorem dX13_caught_65 : decode cX13_caught 65 = .ok (.iload_n 1, 1) := by decide +kernel
theorem dX13_caught_66 : decode cX13_caught 66 = .ok (.iaload, 1) := by decide +kernel
theorem dX13_caught_67 : decode cX13_caught 67 = .ok (.iload_n 2, 1) := by decide +kernel
theorem dX13_caught_68 : decode cX13_caught 68 = .ok (.iload_n 3, 1) := by decide +kernel
theorem dX13_caught_69 : decode cX13_caught 69 = .ok (.iload 4, 2) := by decide +kernel
theorem dX13_caught_71 : decode cX13_caught 71 = .ok (.invokevirtual 1255, 3) := by decide +kernel
theorem dX13_caught_74 : decode cX13_caught 74 = .ok (.goto 14, 3) := by decide +kernel
theorem dX13_caught_77 : decode cX13_caught 77 = .ok (.aload_n 0, 1) := by decide +kernel
theorem dX13_caught_78 : decode cX13_caught 78 = .ok (.iload 5, 2) := by decide +kernel
theorem dX13_caught_80 : decode cX13_caught 80 = .ok (.putfield 1279, 3) := by decide +kernel
theorem dX13_caught_83 : decode cX13_caught 83 = .ok (.aload_n 0, 1) := by decide +kernel
theorem dX13_caught_84 : decode cX13_caught 84 = .ok (.iconst 2, 1) := by decide +kernel
theorem dX13_caught_85 : decode cX13_caught 85 = .ok (.putfield 1207, 3) := by decide +kernel
theorem dX13_caught_88 : decode cX13_caught 88 = .ok (.return_, 1) := by decide +kernel
theorem dX13_execOther_0 : decode cX13_execOther 0 = .ok (.aload_n 0, 1) := by decide +kernel
theorem dX13_execOther_1 : decode cX13_execOther 1 = .ok (.getfield 173, 3) := by decide +kernel
theorem dX13_execOther_4 : decode cX13_execOther 4 = .ok (.iload_n 1, 1) := by decide +kernel
theorem dX13_execOther_5 : decode cX13_execOther 5 = .ok (.iaload, 1) := by decide +kernel
theorem dX13_execOther_6 : decode cX13_execOther 6 = .ok (.tableswitch 289 24 30 #[42, 94, 289, 153, 209, 289, 277], 42) := by decide +kernel
theorem dX13_execOther_48 : decode cX13_execOther 48 = .ok (.aload_n 0, 1) := by decide +kernel
theorem dX13_execOther_49 : decode cX13_execOther 49 = .ok (.getfield 194, 3) := by decide +kernel
theorem dX13_execOther_52 : decode cX13_execOther 52 = .ok (.iload_n 1, 1) := by decide +kernel
theorem dX13_execOther_53 : decode cX13_execOther 53 = .ok (.iaload, 1) := by decide +kernel
theorem dX13_execOther_54 : decode cX13_execOther 54 = .ok (.bipush (-2), 2) := by decide +kernel
theorem dX13_execOther_56 : decode cX13_execOther 56 = .ok (.if_icmp .ne 7, 3) := by decide +kernel
theorem dX13_execOther_59 : decode cX13_execOther 59 = .ok (.iconst 0, 1) := by decide +kernel
theorem dX13_execOther_60 : decode cX13_execOther 60 = .ok (.goto 17, 3) := by decide +kernel
theorem dX13_execOther_63 : decode cX13_execOther 63 = .ok (.aload_n 0, 1) := by decide +kernel
theorem dX13_execOther_64 : decode cX13_execOther 64 = .ok (.aload_n 0, 1) := by decide +kernel
theorem dX13_execOther_65 : decode cX13_execOther 65 = .ok (.getfield 194, 3) := by decide +kernel
theorem dX13_execOther_68 : decode cX13_execOther 68 = .ok (.iload_n 1, 1) := by decide +kernel
theorem dX13_execOther_69 : decode cX13_execOther 69 = .ok (.iaload, 1) := by decide +kernel
theorem dX13_execOther_70 : decode cX13_execOther 70 = .ok (.iload_n 2, 1) := by decide +kernel
theorem dX13_execOther_71 : decode cX13_execOther 71 = .ok (.iload_n 3, 1) := by decide +kernel
theorem dX13_execOther_72 : decode cX13_execOther 72 = .ok (.iload 4, 2) := by decide +kernel
theorem dX13_execOther_74 : decode cX13_execOther 74 = .ok (.invokevirtual 1251, 3) := by decide +kernel
theorem dX13_execOther_77 : decode cX13_execOther 77 = .ok (.istore 5, 2) := by decide +kernel
theorem dX13_execOther_79 : decode cX13_execOther 79 = .ok (.aload_n 0, 1) := by decide +kernel
theorem dX13_execOther_80 : decode cX13_execOther 80 = .ok (.getfield 1207, 3) := by decide +kernel
theorem dX13_execOther_83 : decode cX13_execOther 83 = .ok (.ifCond .ne 227, 3) := by decide +kernel
theorem dX13_execOther_86 : decode cX13_execOther 86 = .ok (.aload_n 0, 1) := by decide +kernel
theorem dX13_execOther_87 : decode cX13_execOther 87 = .ok (.iload 5, 2) := by decide +kernel
theorem dX13_execOther_89 : decode cX13_execOther 89 = .ok (.putfield 1279, 3) := by decide +kernel
theorem dX13_execOther_92 : decode cX13_execOther 92 = .ok (.aload_n 0, 1) := by decide +kernel
theorem dX13_execOther_93 : decode cX13_execOther 93 = .ok (.iconst 1, 1) := by decide +kernel
theorem dX13_execOther_94 : decode cX13_execOther 94 = .ok (.putfield 1207, 3) := by decide +kernel
theorem dX13_execOther_97 : decode cX13_execOther 97 = .ok (.goto 213, 3) := by decide +kernel
theorem dX13_execOther_100 : decode cX13_execOther 100 = .ok (.aload_n 0, 1) := by decide +kernel
theorem dX13_execOther_101 : decode cX13_execOther 101 = .ok (.aload_n 0, 1) := by decide +kernel
theorem dX13_execOther_102 : decode cX13_execOther 102 = .ok (.getfield 194, 3) := by decide +kernel
theorem dX13_execOther_105 : decode cX13_execOther 105 = .ok (.iload_n 1, 1) := by decide +kernel
theorem dX13_execOther_106 : decode cX13_execOther 106 = .ok (.iaload, 1) := by decide +kernel
theorem dX13_execOther_107 : decode cX13_execOther 107 = .ok (.iload_n 2, 1) := by decide +kernel
theorem dX13_execOther_108 : decode cX13_execOther 108 = .ok (.iload_n 3, 1) := by decide +kernel
theorem dX13_execOther_109 : decode cX13_execOther 109 = .ok (.iload 4, 2) := by decide +kernel
theorem dX13_execOther_111 : decode cX13_execOther 111 = .ok (.invokevirtual 1251, 3) := by decide +kernel
theorem dX13_execOther_114 : decode cX13_execOther 114 = .ok (.istore 5, 2) := by decide +kernel
theorem dX13_execOther_116 : decode cX13_execOther 116 = .ok (.aload_n 0, 1) := by decide +kernel
theorem dX13_execOther_117 : decode cX13_execOther 117 = .ok (.getfield 1207, 3) := by decide +kernel
theorem dX13_execOther_120 : decode cX13_execOther 120 = .ok (.ifCond .ne 18, 3) := by decide +kernel
theorem dX13_execOther_123 : decode cX13_execOther 123 = .ok (.iload 5, 2) := by decide +kernel
theorem dX13_execOther_125 : decode cX13_execOther 125 = .ok (.ifCond .ne 13, 3) := by decide +kernel
theorem dX13_execOther_128 : decode cX13_execOther 128 = .ok (.aload_n 0, 1) := by decide +kernel
theorem dX13_execOther_129 : decode cX13_execOther 129 = .ok (.bipush 13, 2) := by decide +kernel
theorem dX13_execOther_131 : decode cX13_execOther 131 = .ok (.invokevirtual 1213, 3) := by decide +kernel
theorem dX13_execOther_134 : decode cX13_execOther 134 = .ok (.pop, 1) := by decide +kernel
theorem dX13_execOther_135 : decode cX13_execOther 135 = .ok (.goto 175, 3) := by decide +kernel
theorem dX13_execOther_138 : decode cX13_execOther 138 = .ok (.aload_n 0, 1) := by decide +kernel
theorem dX13_execOther_139 : decode cX13_execOther 139 = .ok (.getfield 1207, 3) := by decide +kernel
theorem dX13_execOther_142 : decode cX13_execOther 142 = .ok (.ifCond .ne 168, 3) := by decide +kernel
theorem dX13_execOther_145 : decode cX13_execOther 145 = .ok (.aload_n 0, 1) := by decide +kernel
theorem dX13_execOther_146 : decode cX13_execOther 146 = .ok (.iload 5, 2) := by decide +kernel
theorem dX13_execOther_148 : decode cX13_execOther 148 = .ok (.putfield 1279, 3) := by decide +kernel
theorem dX13_execOther_151 : decode cX13_execOther 151 = .ok (.aload_n 0, 1) := by decide +kernel
theorem dX13_execOther_152 : decode cX13_execOther 152 = .ok (.iconst 2, 1) := by decide +kernel
theorem dX13_execOther_153 : decode cX13_execOther 153 = .ok (.putfield 1207, 3) := by decide +kernel
theorem dX13_execOther_156 : decode cX13_execOther 156 = .ok (.goto 154, 3) := by decide +kernel
theorem dX13_execOther_159 : decode cX13_execOther 159 = .ok (.aload_n 0, 1) := by decide +kernel
theorem dX13_execOther_160 : decode cX13_execOther 160 = .ok (.aload_n 0, 1) := by decide +kernel
theorem dX13_execOther_161 : decode cX13_execOther 161 = .ok (.getfield 194, 3) := by decide +kernel
theorem dX13_execOther_164 : decode cX13_execOther 164 = .ok (.iload_n 1, 1) := by decide +kernel
theorem dX13_execOther_165 : decode cX13_execOther 165 = .ok (.iaload, 1) := by decide +kernel
theorem dX13_execOther_166 : decode cX13_execOther 166 = .ok (.iload_n 2, 1) := by decide +kernel
theorem dX13_execOther_167 : decode cX13_execOther 167 = .ok (.iload_n 3, 1) := by decide +kernel
theorem dX13_execOther_168 : decode cX13_execOther 168 = .ok (.iload 4, 2) := by decide +kernel
theorem dX13_execOther_170 : decode cX13_execOther 170 = .ok (.invokevirtual 1251, 3) := by decide +kernel
theorem dX13_execOther_173 : decode cX13_execOther 173 = .ok (.istore 5, 2) := by decide +kernel
theorem dX13_execOther_175 : decode cX13_execOther 175 = .ok (.aload_n 0, 1) := by decide +kernel
theorem dX13_execOther_176 : decode cX13_execOther 176 = .ok (.getfield 1207, 3) := by decide +kernel
theorem dX13_execOther_179 : decode cX13_execOther 179 = .ok (.ifCond .ne 131, 3) := by decide +kernel
theorem dX13_execOther_182 : decode cX13_execOther 182 = .ok (.aload_n 0, 1) := by decide +kernel
theorem dX13_execOther_183 : decode cX13_execOther 183 = .ok (.getfield 1358, 3) := by decide +kernel
theorem dX13_execOther_186 : decode cX13_execOther 186 = .ok (.bipush 100, 2) := by decide +kernel
theorem dX13_execOther_188 : decode cX13_execOther 188 = .ok (.if_icmp .ge 122, 3) := by decide +kernel
theorem dX13_execOther_191 : decode cX13_execOther 191 = .ok (.aload_n 0, 1) := by decide +kernel
theorem dX13_execOther_192 : decode cX13_execOther 192 = .ok (.getfield 1361, 3) := by decide +kernel
theorem dX13_execOther_195 : decode cX13_execOther 195 = .ok (.aload_n 0, 1) := by decide +kernel
theorem dX13_execOther_196 : decode cX13_execOther 196 = .ok (.getfield 1358, 3) := by decide +kernel
theorem dX13_execOther_199 : decode cX13_execOther 199 = .ok (.iload 5, 2) := by decide +kernel
theorem dX13_execOther_201 : decode cX13_execOther 201 = .ok (.iastore, 1) := by decide +kernel
theorem dX13_execOther_202 : decode cX13_execOther 202 = .ok (.aload_n 0, 1) := by decide +kernel
theorem dX13_execOther_203 : decode cX13_execOther 203 = .ok (.dup, 1) := by decide +kernel
theorem dX13_execOther_204 : decode cX13_execOther 204 = .ok (.getfield 1358, 3) := by decide +kernel
theorem dX13_execOther_207 : decode cX13_execOther 207 = .ok (.iconst 1, 1) := by decide +kernel
theorem dX13_execOther_208 : decode cX13_execOther 208 = .ok (.iadd, 1) := by decide +kernel
theorem dX13_execOther_209 : decode cX13_execOther 209 = .ok (.putfield 1358, 3) := by decide +kernel
theorem dX13_execOther_212 : decode cX13_execOther 212 = .ok (.goto 98, 3) := by decide +kernel
theorem dX13_execOther_215 : decode cX13_execOther 215 = .ok (.aload_n 0, 1) := by decide +kernel
theorem dX13_execOther_216 : decode cX13_execOther 216 = .ok (.aload_n 0, 1) := by decide +kernel
theorem dX13_execOther_217 : decode cX13_execOther 217 = .ok (.getfield 194, 3) := by decide +kernel
theorem dX13_execOther_220 : decode cX13_execOther 220 = .ok (.iload_n 1, 1) := by decide +kernel
theorem dX13_execOther_221 : decode cX13_execOther 221 = .ok (.iaload, 1) := by decide +kernel
theorem dX13_execOther_222 : decode cX13_execOther 222 = .ok (.iload_n 2, 1) := by decide +kernel
theorem dX13_execOther_223 : decode cX13_execOther 223 = .ok (.iload_n 3, 1) := by decide +kernel
theorem dX13_execOther_224 : decode cX13_execOther 224 = .ok (.iload 4, 2) := by decide +kernel
theorem dX13_execOther_226 : decode cX13_execOther 226 = .ok (.invokevirtual 1364, 3) := by decide +kernel
theorem dX13_execOther_229 : decode cX13_execOther 229 = .ok (.istore 5, 2) := by decide +kernel
theorem dX13_execOther_231 : decode cX13_execOther 231 = .ok (.aload_n 0, 1) := by decide +kernel
theorem dX13_execOther_232 : decode cX13_execOther 232 = .ok (.getfield 1207, 3) := by decide +kernel
theorem dX13_execOther_235 : decode cX13_execOther 235 = .ok (.ifCond .ne 39, 3) := by decide +kernel
theorem dX13_execOther_238 : decode cX13_execOther 238 = .ok (.aload_n 0, 1) := by decide +kernel
theorem dX13_execOther_239 : decode cX13_execOther 239 = .ok (.getfield 221, 3) := by decide +kernel
theorem dX13_execOther_242 : decode cX13_execOther 242 = .ok (.iload_n 1, 1) := by decide +kernel
theorem dX13_execOther_243 : decode cX13_execOther 243 = .ok (.iaload, 1) := by decide +kernel
theorem dX13_execOther_244 : decode cX13_execOther 244 = .ok (.bipush (-2), 2) := by decide +kernel
theorem dX13_execOther_246 : decode cX13_execOther 246 = .ok (.if_icmp .eq 28, 3) := by decide +kernel
theorem dX13_execOther_249 : decode cX13_execOther 249 = .ok (.aload_n 0, 1) := by decide +kernel
theorem dX13_execOther_250 : decode cX13_execOther 250 = .ok (.aload_n 0, 1) := by decide +kernel
theorem dX13_execOther_251 : decode cX13_execOther 251 = .ok (.getfield 221, 3) := by decide +kernel
theorem dX13_execOther_254 : decode cX13_execOther 254 = .ok (.iload_n 1, 1) := by decide +kernel
theorem dX13_execOther_255 : decode cX13_execOther 255 = .ok (.iaload, 1) := by decide +kernel
theorem dX13_execOther_256 : decode cX13_execOther 256 = .ok (.invokevirtual 1288, 3) := by decide +kernel
theorem dX13_execOther_259 : decode cX13_execOther 259 = .ok (.ifCond .eq 15, 3) := by decide +kernel
theorem dX13_execOther_262 : decode cX13_execOther 262 = .ok (.aload_n 0, 1) := by decide +kernel
theorem dX13_execOther_263 : decode cX13_execOther 263 = .ok (.aload_n 0, 1) := by decide +kernel
theorem dX13_execOther_264 : decode cX13_execOther 264 = .ok (.getfield 1124, 3) := by decide +kernel
theorem dX13_execOther_267 : decode cX13_execOther 267 = .ok (.iload_n 3, 1) := by decide +kernel
theorem dX13_execOther_268 : decode cX13_execOther 268 = .ok (.iload 5, 2) := by decide +kernel
theorem dX13_execOther_270 : decode cX13_execOther 270 = .ok (.invokevirtual 1291, 3) := by decide +kernel
theorem dX13_execOther_273 : decode cX13_execOther 273 = .ok (.pop, 1) := by decide +kernel
theorem dX13_execOther_274 : decode cX13_execOther 274 = .ok (.aload_n 0, 1) := by decide +kernel
theorem dX13_execOther_275 : decode cX13_execOther 275 = .ok (.iload 5, 2) := by decide +kernel
theorem dX13_execOther_277 : decode cX13_execOther 277 = .ok (.putfield 1248, 3) := by decide +kernel
theorem dX13_execOther_280 : decode cX13_execOther 280 = .ok (.goto 30, 3) := by decide +kernel
theorem dX13_execOther_283 : decode cX13_execOther 283 = .ok (.aload_n 0, 1) := by decide +kernel
theorem dX13_execOther_284 : decode cX13_execOther 284 = .ok (.iload_n 1, 1) := by decide +kernel
theorem dX13_execOther_285 : decode cX13_execOther 285 = .ok (.iload_n 2, 1) := by decide +kernel
theorem dX13_execOther_286 : decode cX13_execOther 286 = .ok (.iload_n 3, 1) := by decide +kernel
theorem dX13_execOther_287 : decode cX13_execOther 287 = .ok (.iload 4, 2) := by decide +kernel
theorem dX13_execOther_289 : decode cX13_execOther 289 = .ok (.invokevirtual 1367, 3) := by decide +kernel
theorem dX13_execOther_292 : decode cX13_execOther 292 = .ok (.goto 18, 3) := by decide +kernel
theorem dX13_execOther_295 : decode cX13_execOther 295 = .ok (.aload_n 0, 1) := by decide +kernel
theorem dX13_execOther_296 : decode cX13_execOther 296 = .ok (.aload_n 0, 1) := by decide +kernel
theorem dX13_execOther_297 : decode cX13_execOther 297 = .ok (.getfield 194, 3) := by decide +kernel
theorem dX13_execOther_300 : decode cX13_execOther 300 = .ok (.iload_n 1, 1) := by decide +kernel
theorem dX13_execOther_301 : decode cX13_execOther 301 = .ok (.iaload, 1) := by decide +kernel
theorem dX13_execOther_302 : decode cX13_execOther 302 = .ok (.iload_n 2, 1) := by decide +kernel
theorem dX13_execOther_303 : decode cX13_execOther 303 = .ok (.iload_n 3, 1) := by decide +kernel
theorem dX13_execOther_304 : decode cX13_execOther 304 = .ok (.iload 4, 2) := by decide +kernel
theorem dX13_execOther_306 : decode cX13_execOther 306 = .ok (.invokevirtual 1251, 3) := by decide +kernel
theorem dX13_execOther_309 : decode cX13_execOther 309 = .ok (.pop, 1) := by decide +kernel
theorem dX13_execOther_310 : decode cX13_execOther 310 = .ok (.return_, 1) := by decide +kernel
theorem dX13_execPut_0 : decode cX13_execPut 0 = .ok (.aload_n 0, 1) := by decide +kernel
theorem dX13_execPut_1 : decode cX13_execPut 1 = .ok (.getfield 194, 3) := by decide +kernel
theorem dX13_execPut_4 : decode cX13_execPut 4 = .ok (.iload_n 1, 1) := by decide +kernel
theorem dX13_execPut_5 : decode cX13_execPut 5 = .ok (.iaload, 1) := by decide +kernel
theorem dX13_execPut_6 : decode cX13_execPut 6 = .ok (.istore 5, 2) := by decide +kernel
theorem dX13_execPut_8 : decode cX13_execPut 8 = .ok (.aload_n 0, 1) := by decide +kernel
theorem dX13_execPut_9 : decode cX13_execPut 9 = .ok (.getfield 173, 3) := by decide +kernel
theorem dX13_execPut_12 : decode cX13_execPut 12 = .ok (.iload 5, 2) := by decide +kernel
theorem dX13_execPut_14 : decode cX13_execPut 14 = .ok (.iaload, 1) := by decide +kernel
theorem dX13_execPut_15 : decode cX13_execPut 15 = .ok (.bipush 12, 2) := by decide +kernel
theorem dX13_execPut_17 : decode cX13_execPut 17 = .ok (.if_icmp .ne 21, 3) := by decide +kernel
theorem dX13_execPut_20 : decode cX13_execPut 20 = .ok (.aload_n 0, 1) := by decide +kernel
theorem dX13_execPut_21 : decode cX13_execPut 21 = .ok (.aload_n 0, 1) := by decide +kernel
theorem dX13_execPut_22 : decode cX13_execPut 22 = .ok (.getfield 194, 3) := by decide +kernel
theorem dX13_execPut_25 : decode cX13_execPut 25 = .ok (.iload 5, 2) := by decide +kernel
theorem dX13_execPut_27 : decode cX13_execPut 27 = .ok (.iaload, 1) := by decide +kernel
theorem dX13_execPut_28 : decode cX13_execPut 28 = .ok (.iload_n 2, 1) := by decide +kernel
theorem dX13_execPut_29 : decode cX13_execPut 29 = .ok (.iload_n 3, 1) := by decide +kernel
theorem dX13_execPut_30 : decode cX13_execPut 30 = .ok (.iload 4, 2) := by decide +kernel
theorem dX13_execPut_32 : decode cX13_execPut 32 = .ok (.invokevirtual 1251, 3) := by decide +kernel
theorem dX13_execPut_35 : decode cX13_execPut 35 = .ok (.goto 4, 3) := by decide +kernel
theorem dX13_execPut_38 : decode cX13_execPut 38 = .ok (.iload_n 3, 1) := by decide +kernel
theorem dX13_execPut_39 : decode cX13_execPut 39 = .ok (.istore 6, 2) := by decide +kernel
theorem dX13_execPut_41 : decode cX13_execPut 41 = .ok (.aload_n 0, 1) := by decide +kernel
theorem dX13_execPut_42 : decode cX13_execPut 42 = .ok (.getfield 1207, 3) := by decide +kernel
theorem dX13_execPut_45 : decode cX13_execPut 45 = .ok (.ifCond .ne 20, 3) := by decide +kernel
theorem dX13_execPut_48 : decode cX13_execPut 48 = .ok (.aload_n 0, 1) := by decide +kernel
theorem dX13_execPut_49 : decode cX13_execPut 49 = .ok (.aload_n 0, 1) := by decide +kernel
theorem dX13_execPut_50 : decode cX13_execPut 50 = .ok (.getfield 197, 3) := by decide +kernel
theorem dX13_execPut_53 : decode cX13_execPut 53 = .ok (.iload_n 1, 1) := by decide +kernel
theorem dX13_execPut_54 : decode cX13_execPut 54 = .ok (.iaload, 1) := by decide +kernel
theorem dX13_execPut_55 : decode cX13_execPut 55 = .ok (.iload_n 2, 1) := by decide +kernel
theorem dX13_execPut_56 : decode cX13_execPut 56 = .ok (.iload_n 3, 1) := by decide +kernel
theorem dX13_execPut_57 : decode cX13_execPut 57 = .ok (.iload 4, 2) := by decide +kernel
theorem dX13_execPut_59 : decode cX13_execPut 59 = .ok (.invokevirtual 1251, 3) := by decide +kernel
theorem dX13_execPut_62 : decode cX13_execPut 62 = .ok (.goto 4, 3) := by decide +kernel
theorem dX13_execPut_65 : decode cX13_execPut 65 = .ok (.iconst 0, 1) := by decide +kernel
theorem dX13_execPut_66 : decode cX13_execPut 66 = .ok (.istore 7, 2) := by decide +kernel
theorem dX13_execPut_68 : decode cX13_execPut 68 = .ok (.aload_n 0, 1) := by decide +kernel
theorem dX13_execPut_69 : decode cX13_execPut 69 = .ok (.getfield 1207, 3) := by decide +kernel
theorem dX13_execPut_72 : decode cX13_execPut 72 = .ok (.ifCond .eq 4, 3) := by decide +kernel
theorem dX13_execPut_75 : decode cX13_execPut 75 = .ok (.return_, 1) := by decide +kernel
theorem dX13_execPut_76 : decode cX13_execPut 76 = .ok (.aload_n 0, 1) := by decide +kernel
theorem dX13_execPut_77 : decode cX13_execPut 77 = .ok (.getfield 209, 3) := by decide +kernel
theorem dX13_execPut_80 : decode cX13_execPut 80 = .ok (.iload 5, 2) := by decide +kernel
theorem dX13_execPut_82 : decode cX13_execPut 82 = .ok (.iaload, 1) := by decide +kernel
theorem dX13_execPut_83 : decode cX13_execPut 83 = .ok (.ifCond .lt 21, 3) := by decide +kernel
theorem dX13_execPut_86 : decode cX13_execPut 86 = .ok (.aload_n 0, 1) := by decide +kernel
theorem dX13_execPut_87 : decode cX13_execPut 87 = .ok (.getfield 1282, 3) := by decide +kernel
theorem dX13_execPut_90 : decode cX13_execPut 90 = .ok (.iload 4, 2) := by decide +kernel
theorem dX13_execPut_92 : decode cX13_execPut 92 = .ok (.aload_n 0, 1) := by decide +kernel
theorem dX13_execPut_93 : decode cX13_execPut 93 = .ok (.getfield 209, 3) := by decide +kernel
theorem dX13_execPut_96 : decode cX13_execPut 96 = .ok (.iload 5, 2) := by decide +kernel
theorem dX13_execPut_98 : decode cX13_execPut 98 = .ok (.iaload, 1) := by decide +kernel
theorem dX13_execPut_99 : decode cX13_execPut 99 = .ok (.iadd, 1) := by decide +kernel
theorem dX13_execPut_100 : decode cX13_execPut 100 = .ok (.iload 7, 2) := by decide +kernel
theorem dX13_execPut_102 : decode cX13_execPut 102 = .ok (.iastore, 1) := by decide +kernel
theorem dX13_execPut_103 : decode cX13_execPut 103 = .ok (.return_, 1) := by decide +kernel
theorem dX13_execPut_104 : decode cX13_execPut 104 = .ok (.aload_n 0, 1) := by decide +kernel
theorem dX13_execPut_105 : decode cX13_execPut 105 = .ok (.aload_n 0, 1) := by decide +kernel
theorem dX13_execPut_106 : decode cX13_execPut 106 = .ok (.getfield 221, 3) := by decide +kernel
theorem dX13_execPut_109 : decode cX13_execPut 109 = .ok (.iload_n 1, 1) := by decide +kernel
theorem dX13_execPut_110 : decode cX13_execPut 110 = .ok (.iaload, 1) := by decide +kernel
theorem dX13_execPut_111 : decode cX13_execPut 111 = .ok (.invokevirtual 1288, 3) := by decide +kernel
theorem dX13_execPut_114 : decode cX13_execPut 114 = .ok (.ifCond .ne 4, 3) := by decide +kernel
theorem dX13_execPut_117 : decode cX13_execPut 117 = .ok (.return_, 1) := by decide +kernel
theorem dX13_execPut_118 : decode cX13_execPut 118 = .ok (.aload_n 0, 1) := by decide +kernel
theorem dX13_execPut_119 : decode cX13_execPut 119 = .ok (.getfield 1124, 3) := by decide +kernel
theorem dX13_execPut_122 : decode cX13_execPut 122 = .ok (.istore 8, 2) := by decide +kernel
theorem dX13_execPut_124 : decode cX13_execPut 124 = .ok (.aload_n 0, 1) := by decide +kernel
theorem dX13_execPut_125 : decode cX13_execPut 125 = .ok (.getfield 209, 3) := by decide +kernel
theorem dX13_execPut_128 : decode cX13_execPut 128 = .ok (.iload 5, 2) := by decide +kernel
theorem dX13_execPut_130 : decode cX13_execPut 130 = .ok (.iaload, 1) := by decide +kernel
theorem dX13_execPut_131 : decode cX13_execPut 131 = .ok (.bipush (-12), 2) := by decide +kernel
theorem dX13_execPut_133 : decode cX13_execPut 133 = .ok (.if_icmp .eq 32, 3) := by decide +kernel
theorem dX13_execPut_136 : decode cX13_execPut 136 = .ok (.aload_n 0, 1) := by decide +kernel
theorem dX13_execPut_137 : decode cX13_execPut 137 = .ok (.aload_n 0, 1) := by decide +kernel
theorem dX13_execPut_138 : decode cX13_execPut 138 = .ok (.iload 8, 2) := by decide +kernel
theorem dX13_execPut_140 : decode cX13_execPut 140 = .ok (.invokevirtual 599, 3) := by decide +kernel
theorem dX13_execPut_143 : decode cX13_execPut 143 = .ok (.invokevirtual 1222, 3) := by decide +kernel
theorem dX13_execPut_146 : decode cX13_execPut 146 = .ok (.aload_n 0, 1) := by decide +kernel
theorem dX13_execPut_147 : decode cX13_execPut 147 = .ok (.getfield 1207, 3) := by decide +kernel
theorem dX13_execPut_150 : decode cX13_execPut 150 = .ok (.ifCond .ne 56, 3) := by decide +kernel
theorem dX13_execPut_153 : decode cX13_execPut 153 = .ok (.aload_n 0, 1) := by decide +kernel
theorem dX13_execPut_154 : decode cX13_execPut 154 = .ok (.getfield 1204, 3) := by decide +kernel
theorem dX13_execPut_157 : decode cX13_execPut 157 = .ok (.iload 8, 2) := by decide +kernel
theorem dX13_execPut_159 : decode cX13_execPut 159 = .ok (.iload 7, 2) := by decide +kernel
theorem dX13_execPut_161 : decode cX13_execPut 161 = .ok (.iastore, 1) := by decide +kernel
theorem dX13_execPut_162 : decode cX13_execPut 162 = .ok (.goto 44, 3) := by decide +kernel
theorem dX13_execPut_165 : decode cX13_execPut 165 = .ok (.iload 6, 2) := by decide +kernel
theorem dX13_execPut_167 : decode cX13_execPut 167 = .ok (.ifCond .ne 13, 3) := by decide +kernel
theorem dX13_execPut_170 : decode cX13_execPut 170 = .ok (.aload_n 0, 1) := by decide +kernel
theorem dX13_execPut_171 : decode cX13_execPut 171 = .ok (.bipush 13, 2) := by decide +kernel
theorem dX13_execPut_173 : decode cX13_execPut 173 = .ok (.invokevirtual 1213, 3) := by decide +kernel
theorem dX13_execPut_176 : decode cX13_execPut 176 = .ok (.pop, 1) := by decide +kernel
theorem dX13_execPut_177 : decode cX13_execPut 177 = .ok (.goto 29, 3) := by decide +kernel
theorem dX13_execPut_180 : decode cX13_execPut 180 = .ok (.aload_n 0, 1) := by decide +kernel
theorem dX13_execPut_181 : decode cX13_execPut 181 = .ok (.iload 6, 2) := by decide +kernel
theorem dX13_execPut_183 : decode cX13_execPut 183 = .ok (.iload 8, 2) := by decide +kernel
theorem dX13_execPut_185 : decode cX13_execPut 185 = .ok (.invokevirtual 1294, 3) := by decide +kernel
theorem dX13_execPut_188 : decode cX13_execPut 188 = .ok (.istore 9, 2) := by decide +kernel
theorem dX13_execPut_190 : decode cX13_execPut 190 = .ok (.iload 9, 2) := by decide +kernel
theorem dX13_execPut_192 : decode cX13_execPut 192 = .ok (.bipush (-2), 2) := by decide +kernel
theorem dX13_execPut_194 : decode cX13_execPut 194 = .ok (.if_icmp .eq 12, 3) := by decide +kernel
theorem dX13_execPut_197 : decode cX13_execPut 197 = .ok (.aload_n 0, 1) := by decide +kernel
theorem dX13_execPut_198 : decode cX13_execPut 198 = .ok (.getfield 1265, 3) := by decide +kernel
theorem dX13_execPut_201 : decode cX13_execPut 201 = .ok (.iload 9, 2) := by decide +kernel
theorem dX13_execPut_203 : decode cX13_execPut 203 = .ok (.iload 7, 2) := by decide +kernel
theorem dX13_execPut_205 : decode cX13_execPut 205 = .ok (.iastore, 1) := by decide +kernel
theorem dX13_execPut_206 : decode cX13_execPut 206 = .ok (.return_, 1) := by decide +kernel
theorem dX13_named_0 : decode cX13_named 0 = .ok (.iconst 0, 1) := by decide +kernel
theorem dX13_named_1 : decode cX13_named 1 = .ok (.istore_n 1, 1) := by decide +kernel
theorem dX13_named_2 : decode cX13_named 2 = .ok (.iconst 0, 1) := by decide +kernel
theorem dX13_named_3 : decode cX13_named 3 = .ok (.istore_n 2, 1) := by decide +kernel
theorem dX13_named_4 : decode cX13_named 4 = .ok (.aload_n 0, 1) := by decide +kernel
theorem dX13_named_5 : decode cX13_named 5 = .ok (.getfield 57, 3) := by decide +kernel
theorem dX13_named_8 : decode cX13_named 8 = .ok (.iconst 5, 1) := by decide +kernel
theorem dX13_named_9 : decode cX13_named 9 = .ok (.if_icmp .lt 38, 3) := by decide +kernel
theorem dX13_named_12 : decode cX13_named 12 = .ok (.aload_n 0, 1) := by decide +kernel
theorem dX13_named_13 : decode cX13_named 13 = .ok (.getfield 63, 3) := by decide +kernel
theorem dX13_named_16 : decode cX13_named 16 = .ok (.iconst 0, 1) := by decide +kernel
theorem dX13_named_17 : decode cX13_named 17 = .ok (.iaload, 1) := by decide +kernel
theorem dX13_named_18 : decode cX13_named 18 = .ok (.invokestatic 116, 3) := by decide +kernel
theorem dX13_named_21 : decode cX13_named 21 = .ok (.ifCond .eq 26, 3) := by decide +kernel
theorem dX13_named_24 : decode cX13_named 24 = .ok (.aload_n 0, 1) := by decide +kernel
theorem dX13_named_25 : decode cX13_named 25 = .ok (.getfield 63, 3) := by decide +kernel
theorem dX13_named_28 : decode cX13_named 28 = .ok (.iconst 1, 1) := by decide +kernel
theorem dX13_named_29 : decode cX13_named 29 = .ok (.iaload, 1) := by decide +kernel
theorem dX13_named_30 : decode cX13_named 30 = .ok (.bipush 46, 2) := by decide +kernel
theorem dX13_named_32 : decode cX13_named 32 = .ok (.if_icmp .ne 15, 3) := by decide +kernel
theorem dX13_named_35 : decode cX13_named 35 = .ok (.aload_n 0, 1) := by decide +kernel
theorem dX13_named_36 : decode cX13_named 36 = .ok (.getfield 63, 3) := by decide +kernel
theorem dX13_named_39 : decode cX13_named 39 = .ok (.iconst 2, 1) := by decide +kernel
theorem dX13_named_40 : decode cX13_named 40 = .ok (.iaload, 1) := by decide +kernel
theorem dX13_named_41 : decode cX13_named 41 = .ok (.invokestatic 120, 3) := by decide +kernel
theorem dX13_named_44 : decode cX13_named 44 = .ok (.ifCond .ne 6, 3) := by decide +kernel
theorem dX13_named_47 : decode cX13_named 47 = .ok (.bipush (-2), 2) := by decide +kernel
theorem dX13_named_49 : decode cX13_named 49 = .ok (.ireturn, 1) := by decide +kernel
theorem dX13_named_50 : decode cX13_named 50 = .ok (.aload_n 0, 1) := by decide +kernel
theorem dX13_named_51 : decode cX13_named 51 = .ok (.getfield 63, 3) := by decide +kernel
theorem dX13_named_54 : decode cX13_named 54 = .ok (.iconst 0, 1) := by decide +kernel
theorem dX13_named_55 : decode cX13_named 55 = .ok (.iaload, 1) := by decide +kernel
theorem dX13_named_56 : decode cX13_named 56 = .ok (.invokestatic 78, 3) := by decide +kernel
theorem dX13_named_59 : decode cX13_named 59 = .ok (.i2l, 1) := by decide +kernel
theorem dX13_named_60 : decode cX13_named 60 = .ok (.lstore_n 3, 1) := by decide +kernel
theorem dX13_named_61 : decode cX13_named 61 = .ok (.iconst 2, 1) := by decide +kernel
theorem dX13_named_62 : decode cX13_named 62 = .ok (.istore_n 1, 1) := by decide +kernel
theorem dX13_named_63 : decode cX13_named 63 = .ok (.iload_n 1, 1) := by decide +kernel
theorem dX13_named_64 : decode cX13_named 64 = .ok (.aload_n 0, 1) := by decide +kernel
theorem dX13_named_65 : decode cX13_named 65 = .ok (.getfield 57, 3) := by decide +kernel
theorem dX13_named_68 : decode cX13_named 68 = .ok (.if_icmp .ge 43, 3) := by decide +kernel
theorem dX13_named_71 : decode cX13_named 71 = .ok (.aload_n 0, 1) := by decide +kernel
theorem dX13_named_72 : decode cX13_named 72 = .ok (.getfield 63, 3) := by decide +kernel
theorem dX13_named_75 : decode cX13_named 75 = .ok (.iload_n 1, 1) := by decide +kernel
theorem dX13_named_76 : decode cX13_named 76 = .ok (.iaload, 1) := by decide +kernel
theorem dX13_named_77 : decode cX13_named 77 = .ok (.invokestatic 78, 3) := by decide +kernel
theorem dX13_named_80 : decode cX13_named 80 = .ok (.ifCond .eq 31, 3) := by decide +kernel
theorem dX13_named_83 : decode cX13_named 83 = .ok (.iload_n 1, 1) := by decide +kernel
theorem dX13_named_84 : decode cX13_named 84 = .ok (.bipush 12, 2) := by decide +kernel
theorem dX13_named_86 : decode cX13_named 86 = .ok (.if_icmp .ge 25, 3) := by decide +kernel
theorem dX13_named_89 : decode cX13_named 89 = .ok (.lload_n 3, 1) := by decide +kernel
theorem dX13_named_90 : decode cX13_named 90 = .ok (.bipush 6, 2) := by decide +kernel
theorem dX13_named_92 : decode cX13_named 92 = .ok (.lshl, 1) := by decide +kernel
theorem dX13_named_93 : decode cX13_named 93 = .ok (.aload_n 0, 1) := by decide +kernel
theorem dX13_named_94 : decode cX13_named 94 = .ok (.getfield 63, 3) := by decide +kernel
theorem dX13_named_97 : decode cX13_named 97 = .ok (.iload_n 1, 1) := by decide +kernel
theorem dX13_named_98 : decode cX13_named 98 = .ok (.iaload, 1) := by decide +kernel
theorem dX13_named_99 : decode cX13_named 99 = .ok (.invokestatic 78, 3) := by decide +kernel
theorem dX13_named_102 : decode cX13_named 102 = .ok (.i2l, 1) := by decide +kernel
theorem dX13_named_103 : decode cX13_named 103 = .ok (.lor, 1) := by decide +kernel
theorem dX13_named_104 : decode cX13_named 104 = .ok (.lstore_n 3, 1) := by decide +kernel
theorem dX13_named_105 : decode cX13_named 105 = .ok (.iinc 1 1, 3) := by decide +kernel
theorem dX13_named_108 : decode cX13_named 108 = .ok (.goto (-45), 3) := by decide +kernel
theorem dX13_named_111 : decode cX13_named 111 = .ok (.iload_n 1, 1) := by decide +kernel
theorem dX13_named_112 : decode cX13_named 112 = .ok (.bipush 11, 2) := by decide +kernel
theorem dX13_named_114 : decode cX13_named 114 = .ok (.if_icmp .gt 38, 3) := by decide +kernel
theorem dX13_named_117 : decode cX13_named 117 = .ok (.iload_n 1, 1) := by decide +kernel
theorem dX13_named_118 : decode cX13_named 118 = .ok (.iconst 1, 1) := by decide +kernel
theorem dX13_named_119 : decode cX13_named 119 = .ok (.iadd, 1) := by decide +kernel
theorem dX13_named_120 : decode cX13_named 120 = .ok (.aload_n 0, 1) := by decide +kernel
theorem dX13_named_121 : decode cX13_named 121 = .ok (.getfield 57, 3) := by decide +kernel
theorem dX13_named_124 : decode cX13_named 124 = .ok (.if_icmp .ge 28, 3) := by decide +kernel
theorem dX13_named_127 : decode cX13_named 127 = .ok (.aload_n 0, 1) := by decide +kernel
theorem dX13_named_128 : decode cX13_named 128 = .ok (.getfield 63, 3) := by decide +kernel
theorem dX13_named_131 : decode cX13_named 131 = .ok (.iload_n 1, 1) := by decide +kernel
theorem dX13_named_132 : decode cX13_named 132 = .ok (.iaload, 1) := by decide +kernel
theorem dX13_named_133 : decode cX13_named 133 = .ok (.bipush 46, 2) := by decide +kernel
theorem dX13_named_135 : decode cX13_named 135 = .ok (.if_icmp .ne 17, 3) := by decide +kernel
theorem dX13_named_138 : decode cX13_named 138 = .ok (.aload_n 0, 1) := by decide +kernel
theorem dX13_named_139 : decode cX13_named 139 = .ok (.getfield 63, 3) := by decide +kernel
theorem dX13_named_142 : decode cX13_named 142 = .ok (.iload_n 1, 1) := by decide +kernel
theorem dX13_named_143 : decode cX13_named 143 = .ok (.iconst 1, 1) := by decide +kernel
theorem dX13_named_144 : decode cX13_named 144 = .ok (.iadd, 1) := by decide +kernel
theorem dX13_named_145 : decode cX13_named 145 = .ok (.iaload, 1) := by decide +kernel
theorem dX13_named_146 : decode cX13_named 146 = .ok (.invokestatic 116, 3) := by decide +kernel
theorem dX13_named_149 : decode cX13_named 149 = .ok (.ifCond .ne 6, 3) := by decide +kernel
theorem dX13_named_152 : decode cX13_named 152 = .ok (.bipush (-2), 2) := by decide +kernel
theorem dX13_named_154 : decode cX13_named 154 = .ok (.ireturn, 1) := by decide +kernel
theorem dX13_named_155 : decode cX13_named 155 = .ok (.iload_n 1, 1) := by decide +kernel
theorem dX13_named_156 : decode cX13_named 156 = .ok (.iconst 1, 1) := by decide +kernel
theorem dX13_named_157 : decode cX13_named 157 = .ok (.iadd, 1) := by decide +kernel
theorem dX13_named_158 : decode cX13_named 158 = .ok (.istore_n 2, 1) := by decide +kernel
theorem dX13_named_159 : decode cX13_named 159 = .ok (.lconst 0, 1) := by decide +kernel
theorem dX13_named_160 : decode cX13_named 160 = .ok (.lstore 5, 2) := by decide +kernel
theorem dX13_named_162 : decode cX13_named 162 = .ok (.iload_n 2, 1) := by decide +kernel
theorem dX13_named_163 : decode cX13_named 163 = .ok (.aload_n 0, 1) := by decide +kernel
theorem dX13_named_164 : decode cX13_named 164 = .ok (.getfield 57, 3) := by decide +kernel
theorem dX13_named_167 : decode cX13_named 167 = .ok (.if_icmp .ge 47, 3) := by decide +kernel
theorem dX13_named_170 : decode cX13_named 170 = .ok (.aload_n 0, 1) := by decide +kernel
theorem dX13_named_171 : decode cX13_named 171 = .ok (.getfield 63, 3) := by decide +kernel
theorem dX13_named_174 : decode cX13_named 174 = .ok (.iload_n 2, 1) := by decide +kernel
theorem dX13_named_175 : decode cX13_named 175 = .ok (.iaload, 1) := by decide +kernel
theorem dX13_named_176 : decode cX13_named 176 = .ok (.invokestatic 78, 3) := by decide +kernel
theorem dX13_named_179 : decode cX13_named 179 = .ok (.ifCond .eq 35, 3) := by decide +kernel
theorem dX13_named_182 : decode cX13_named 182 = .ok (.iload_n 2, 1) := by decide +kernel
theorem dX13_named_183 : decode cX13_named 183 = .ok (.iload_n 1, 1) := by decide +kernel
theorem dX13_named_184 : decode cX13_named 184 = .ok (.isub, 1) := by decide +kernel
theorem dX13_named_185 : decode cX13_named 185 = .ok (.bipush 12, 2) := by decide +kernel
theorem dX13_named_187 : decode cX13_named 187 = .ok (.if_icmp .ge 27, 3) := by decide +kernel
theorem dX13_named_190 : decode cX13_named 190 = .ok (.lload 5, 2) := by decide +kernel
theorem dX13_named_192 : decode cX13_named 192 = .ok (.bipush 6, 2) := by decide +kernel
theorem dX13_named_194 : decode cX13_named 194 = .ok (.lshl, 1) := by decide +kernel
theorem dX13_named_195 : decode cX13_named 195 = .ok (.aload_n 0, 1) := by decide +kernel
theorem dX13_named_196 : decode cX13_named 196 = .ok (.getfield 63, 3) := by decide +kernel
theorem dX13_named_199 : decode cX13_named 199 = .ok (.iload_n 2, 1) := by decide +kernel
theorem dX13_named_200 : decode cX13_named 200 = .ok (.iaload, 1) := by decide +kernel
theorem dX13_named_201 : decode cX13_named 201 = .ok (.invokestatic 78, 3) := by decide +kernel
theorem dX13_named_204 : decode cX13_named 204 = .ok (.i2l, 1) := by decide +kernel
theorem dX13_named_205 : decode cX13_named 205 = .ok (.lor, 1) := by decide +kernel
theorem dX13_named_206 : decode cX13_named 206 = .ok (.lstore 5, 2) := by decide +kernel
theorem dX13_named_208 : decode cX13_named 208 = .ok (.iinc 2 1, 3) := by decide +kernel
theorem dX13_named_211 : decode cX13_named 211 = .ok (.goto (-49), 3) := by decide +kernel
theorem dX13_named_214 : decode cX13_named 214 = .ok (.iload_n 2, 1) := by decide +kernel
theorem dX13_named_215 : decode cX13_named 215 = .ok (.aload_n 0, 1) := by decide +kernel
theorem dX13_named_216 : decode cX13_named 216 = .ok (.getfield 57, 3) := by decide +kernel
theorem dX13_named_219 : decode cX13_named 219 = .ok (.if_icmp .lt 20, 3) := by decide +kernel
theorem dX13_named_222 : decode cX13_named 222 = .ok (.iload_n 2, 1) := by decide +kernel
theorem dX13_named_223 : decode cX13_named 223 = .ok (.iload_n 1, 1) := by decide +kernel
theorem dX13_named_224 : decode cX13_named 224 = .ok (.isub, 1) := by decide +kernel
theorem dX13_named_225 : decode cX13_named 225 = .ok (.bipush 11, 2) := by decide +kernel
theorem dX13_named_227 : decode cX13_named 227 = .ok (.if_icmp .gt 12, 3) := by decide +kernel
theorem dX13_named_230 : decode cX13_named 230 = .ok (.aload_n 0, 1) := by decide +kernel
theorem dX13_named_231 : decode cX13_named 231 = .ok (.lload 5, 2) := by decide +kernel
theorem dX13_named_233 : decode cX13_named 233 = .ok (.invokevirtual 126, 3) := by decide +kernel
theorem dX13_named_236 : decode cX13_named 236 = .ok (.ifCond .eq 8, 3) := by decide +kernel
theorem dX13_named_239 : decode cX13_named 239 = .ok (.bipush (-2), 2) := by decide +kernel
theorem dX13_named_241 : decode cX13_named 241 = .ok (.goto 12, 3) := by decide +kernel
theorem dX13_named_244 : decode cX13_named 244 = .ok (.aload_n 0, 1) := by decide +kernel
theorem dX13_named_245 : decode cX13_named 245 = .ok (.lload_n 3, 1) := by decide +kernel
theorem dX13_named_246 : decode cX13_named 246 = .ok (.ldc2_w 5, 3) := by decide +kernel
theorem dX13_named_249 : decode cX13_named 249 = .ok (.lor, 1) := by decide +kernel
theorem dX13_named_250 : decode cX13_named 250 = .ok (.invokevirtual 551, 3) := by decide +kernel
theorem dX13_named_253 : decode cX13_named 253 = .ok (.istore 7, 2) := by decide +kernel
theorem dX13_named_255 : decode cX13_named 255 = .ok (.iconst 0, 1) := by decide +kernel
theorem dX13_named_256 : decode cX13_named 256 = .ok (.istore 8, 2) := by decide +kernel
theorem dX13_named_258 : decode cX13_named 258 = .ok (.iload 7, 2) := by decide +kernel
theorem dX13_named_260 : decode cX13_named 260 = .ok (.bipush (-2), 2) := by decide +kernel
theorem dX13_named_262 : decode cX13_named 262 = .ok (.if_icmp .eq 90, 3) := by decide +kernel
theorem dX13_named_265 : decode cX13_named 265 = .ok (.iload 8, 2) := by decide +kernel
theorem dX13_named_267 : decode cX13_named 267 = .ok (.aload_n 0, 1) := by decide +kernel
theorem dX13_named_268 : decode cX13_named 268 = .ok (.getfield 275, 3) := by decide +kernel
theorem dX13_named_271 : decode cX13_named 271 = .ok (.iload 7, 2) := by decide +kernel
theorem dX13_named_273 : decode cX13_named 273 = .ok (.iaload, 1) := by decide +kernel
theorem dX13_named_274 : decode cX13_named 274 = .ok (.if_icmp .ge 78, 3) := by decide +kernel
theorem dX13_named_277 : decode cX13_named 277 = .ok (.iload 7, 2) := by decide +kernel
theorem dX13_named_279 : decode cX13_named 279 = .ok (.bipush 34, 2) := by decide +kernel
theorem dX13_named_281 : decode cX13_named 281 = .ok (.imul, 1) := by decide +kernel
theorem dX13_named_282 : decode cX13_named 282 = .ok (.iload 8, 2) := by decide +kernel
theorem dX13_named_284 : decode cX13_named 284 = .ok (.iadd, 1) := by decide +kernel
theorem dX13_named_285 : decode cX13_named 285 = .ok (.istore 9, 2) := by decide +kernel
theorem dX13_named_287 : decode cX13_named 287 = .ok (.aload_n 0, 1) := by decide +kernel
theorem dX13_named_288 : decode cX13_named 288 = .ok (.getfield 402, 3) := by decide +kernel
theorem dX13_named_291 : decode cX13_named 291 = .ok (.iload 9, 2) := by decide +kernel
theorem dX13_named_293 : decode cX13_named 293 = .ok (.iaload, 1) := by decide +kernel
theorem dX13_named_294 : decode cX13_named 294 = .ok (.iconst 1, 1) := by decide +kernel
theorem dX13_named_295 : decode cX13_named 295 = .ok (.if_icmp .ne 51, 3) := by decide +kernel
theorem dX13_named_298 : decode cX13_named 298 = .ok (.aload_n 0, 1) := by decide +kernel
theorem dX13_named_299 : decode cX13_named 299 = .ok (.getfield 356, 3) := by decide +kernel
theorem dX13_named_302 : decode cX13_named 302 = .ok (.iload 9, 2) := by decide +kernel
theorem dX13_named_304 : decode cX13_named 304 = .ok (.laload, 1) := by decide +kernel
theorem dX13_named_305 : decode cX13_named 305 = .ok (.lload 5, 2) := by decide +kernel
theorem dX13_named_307 : decode cX13_named 307 = .ok (.lcmp, 1) := by decide +kernel
theorem dX13_named_308 : decode cX13_named 308 = .ok (.ifCond .ne 38, 3) := by decide +kernel
theorem dX13_named_311 : decode cX13_named 311 = .ok (.aload_n 0, 1) := by decide +kernel
theorem dX13_named_312 : decode cX13_named 312 = .ok (.getfield 362, 3) := by decide +kernel
theorem dX13_named_315 : decode cX13_named 315 = .ok (.iload 9, 2) := by decide +kernel
theorem dX13_named_317 : decode cX13_named 317 = .ok (.iaload, 1) := by decide +kernel
theorem dX13_named_318 : decode cX13_named 318 = .ok (.ifCond .ne 28, 3) := by decide +kernel
theorem dX13_named_321 : decode cX13_named 321 = .ok (.aload_n 0, 1) := by decide +kernel
theorem dX13_named_322 : decode cX13_named 322 = .ok (.getfield 341, 3) := by decide +kernel
theorem dX13_named_325 : decode cX13_named 325 = .ok (.iload 9, 2) := by decide +kernel
theorem dX13_named_327 : decode cX13_named 327 = .ok (.baload, 1) := by decide +kernel
theorem dX13_named_328 : decode cX13_named 328 = .ok (.ifCond .eq 18, 3) := by decide +kernel
theorem dX13_named_331 : decode cX13_named 331 = .ok (.aload_n 0, 1) := by decide +kernel
theorem dX13_named_332 : decode cX13_named 332 = .ok (.getfield 368, 3) := by decide +kernel
theorem dX13_named_335 : decode cX13_named 335 = .ok (.iload 9, 2) := by decide +kernel
theorem dX13_named_337 : decode cX13_named 337 = .ok (.iaload, 1) := by decide +kernel
theorem dX13_named_338 : decode cX13_named 338 = .ok (.bipush (-2), 2) := by decide +kernel
theorem dX13_named_340 : decode cX13_named 340 = .ok (.if_icmp .eq 6, 3) := by decide +kernel
theorem dX13_named_343 : decode cX13_named 343 = .ok (.iload 9, 2) := by decide +kernel
theorem dX13_named_345 : decode cX13_named 345 = .ok (.ireturn, 1) := by decide +kernel
theorem dX13_named_346 : decode cX13_named 346 = .ok (.iinc 8 1, 3) := by decide +kernel
theorem dX13_named_349 : decode cX13_named 349 = .ok (.goto (-91), 3) := by decide +kernel
theorem dX13_named_352 : decode cX13_named 352 = .ok (.bipush (-2), 2) := by decide +kernel
theorem dX13_named_354 : decode cX13_named 354 = .ok (.ireturn, 1) := by decide +kernel
theorem dX13_run_0 : decode cX13_run 0 = .ok (.aload_n 0, 1) := by decide +kernel
theorem dX13_run_1 : decode cX13_run 1 = .ok (.invokevirtual 1370, 3) := by decide +kernel
theorem dX13_run_4 : decode cX13_run 4 = .ok (.istore_n 1, 1) := by decide +kernel
theorem dX13_run_5 : decode cX13_run 5 = .ok (.aload_n 0, 1) := by decide +kernel
theorem dX13_run_6 : decode cX13_run 6 = .ok (.iconst 0, 1) := by decide +kernel
theorem dX13_run_7 : decode cX13_run 7 = .ok (.putfield 57, 3) := by decide +kernel
theorem dX13_run_10 : decode cX13_run 10 = .ok (.iload_n 1, 1) := by decide +kernel
theorem dX13_run_11 : decode cX13_run 11 = .ok (.bipush (-2), 2) := by decide +kernel
theorem dX13_run_13 : decode cX13_run 13 = .ok (.if_icmp .ne 6, 3) := by decide +kernel
theorem dX13_run_16 : decode cX13_run 16 = .ok (.bipush (-2), 2) := by decide +kernel
theorem dX13_run_18 : decode cX13_run 18 = .ok (.ireturn, 1) := by decide +kernel
theorem dX13_run_19 : decode cX13_run 19 = .ok (.aload_n 0, 1) := by decide +kernel
theorem dX13_run_20 : decode cX13_run 20 = .ok (.iconst 0, 1) := by decide +kernel
theorem dX13_run_21 : decode cX13_run 21 = .ok (.putfield 1268, 3) := by decide +kernel
theorem dX13_run_24 : decode cX13_run 24 = .ok (.aload_n 0, 1) := by decide +kernel
theorem dX13_run_25 : decode cX13_run 25 = .ok (.iconst 0, 1) := by decide +kernel
theorem dX13_run_26 : decode cX13_run 26 = .ok (.putfield 1358, 3) := by decide +kernel
theorem dX13_run_29 : decode cX13_run 29 = .ok (.aload_n 0, 1) := by decide +kernel
theorem dX13_run_30 : decode cX13_run 30 = .ok (.iconst 0, 1) := by decide +kernel
theorem dX13_run_31 : decode cX13_run 31 = .ok (.putfield 1373, 3) := by decide +kernel
theorem dX13_run_34 : decode cX13_run 34 = .ok (.aload_n 0, 1) := by decide +kernel
theorem dX13_run_35 : decode cX13_run 35 = .ok (.iconst 0, 1) := by decide +kernel
theorem dX13_run_36 : decode cX13_run 36 = .ok (.putfield 1219, 3) := by decide +kernel
theorem dX13_run_39 : decode cX13_run 39 = .ok (.aload_n 0, 1) := by decide +kernel
theorem dX13_run_40 : decode cX13_run 40 = .ok (.iconst 0, 1) := by decide +kernel
theorem dX13_run_41 : decode cX13_run 41 = .ok (.putfield 1248, 3) := by decide +kernel
theorem dX13_run_44 : decode cX13_run 44 = .ok (.aload_n 0, 1) := by decide +kernel
theorem dX13_run_45 : decode cX13_run 45 = .ok (.iconst 0, 1) := by decide +kernel
theorem dX13_run_46 : decode cX13_run 46 = .ok (.putfield 1300, 3) := by decide +kernel
theorem dX13_run_49 : decode cX13_run 49 = .ok (.aload_n 0, 1) := by decide +kernel
theorem dX13_run_50 : decode cX13_run 50 = .ok (.iconst 0, 1) := by decide +kernel
theorem dX13_run_51 : decode cX13_run 51 = .ok (.putfield 1230, 3) := by decide +kernel
theorem dX13_run_54 : decode cX13_run 54 = .ok (.aload_n 0, 1) := by decide +kernel
theorem dX13_run_55 : decode cX13_run 55 = .ok (.iconst 0, 1) := by decide +kernel
theorem dX13_run_56 : decode cX13_run 56 = .ok (.putfield 1207, 3) := by decide +kernel
theorem dX13_run_59 : decode cX13_run 59 = .ok (.aload_n 0, 1) := by decide +kernel
theorem dX13_run_60 : decode cX13_run 60 = .ok (.aload_n 0, 1) := by decide +kernel
theorem dX13_run_61 : decode cX13_run 61 = .ok (.iload_n 1, 1) := by decide +kernel
theorem dX13_run_62 : decode cX13_run 62 = .ok (.invokevirtual 599, 3) := by decide +kernel
theorem dX13_run_65 : decode cX13_run 65 = .ok (.invokevirtual 1222, 3) := by decide +kernel
theorem dX13_run_68 : decode cX13_run 68 = .ok (.aload_n 0, 1) := by decide +kernel
theorem dX13_run_69 : decode cX13_run 69 = .ok (.getfield 1207, 3) := by decide +kernel
theorem dX13_run_72 : decode cX13_run 72 = .ok (.ifCond .ne 13, 3) := by decide +kernel
theorem dX13_run_75 : decode cX13_run 75 = .ok (.aload_n 0, 1) := by decide +kernel
theorem dX13_run_76 : decode cX13_run 76 = .ok (.iload_n 1, 1) := by decide +kernel
theorem dX13_run_77 : decode cX13_run 77 = .ok (.iconst 0, 1) := by decide +kernel
theorem dX13_run_78 : decode cX13_run 78 = .ok (.iconst 0, 1) := by decide +kernel
theorem dX13_run_79 : decode cX13_run 79 = .ok (.invokevirtual 1291, 3) := by decide +kernel
theorem dX13_run_82 : decode cX13_run 82 = .ok (.goto 4, 3) := by decide +kernel
theorem dX13_run_85 : decode cX13_run 85 = .ok (.iconst 0, 1) := by decide +kernel
theorem dX13_run_86 : decode cX13_run 86 = .ok (.istore_n 2, 1) := by decide +kernel
theorem dX13_run_87 : decode cX13_run 87 = .ok (.aload_n 0, 1) := by decide +kernel
theorem dX13_run_88 : decode cX13_run 88 = .ok (.getfield 1207, 3) := by decide +kernel
theorem dX13_run_91 : decode cX13_run 91 = .ok (.iconst 3, 1) := by decide +kernel
theorem dX13_run_92 : decode cX13_run 92 = .ok (.if_icmp .ne 11, 3) := by decide +kernel
theorem dX13_run_95 : decode cX13_run 95 = .ok (.bipush (-10), 2) := by decide +kernel
theorem dX13_run_97 : decode cX13_run 97 = .ok (.aload_n 0, 1) := by decide +kernel
theorem dX13_run_98 : decode cX13_run 98 = .ok (.getfield 1210, 3) := by decide +kernel
theorem dX13_run_101 : decode cX13_run 101 = .ok (.isub, 1) := by decide +kernel
theorem dX13_run_102 : decode cX13_run 102 = .ok (.ireturn, 1) := by decide +kernel
theorem dX13_run_103 : decode cX13_run 103 = .ok (.aload_n 0, 1) := by decide +kernel
theorem dX13_run_104 : decode cX13_run 104 = .ok (.aload_n 0, 1) := by decide +kernel
theorem dX13_run_105 : decode cX13_run 105 = .ok (.getfield 1207, 3) := by decide +kernel
theorem dX13_run_108 : decode cX13_run 108 = .ok (.iconst 2, 1) := by decide +kernel
theorem dX13_run_109 : decode cX13_run 109 = .ok (.if_icmp .ne 10, 3) := by decide +kernel
theorem dX13_run_112 : decode cX13_run 112 = .ok (.aload_n 0, 1) := by decide +kernel
theorem dX13_run_113 : decode cX13_run 113 = .ok (.getfield 1279, 3) := by decide +kernel
theorem dX13_run_116 : decode cX13_run 116 = .ok (.goto 4, 3) := by decide +kernel
theorem dX13_run_119 : decode cX13_run 119 = .ok (.iload_n 2, 1) := by decide +kernel
theorem dX13_run_120 : decode cX13_run 120 = .ok (.putfield 1373, 3) := by decide +kernel
theorem dX13_run_123 : decode cX13_run 123 = .ok (.aload_n 0, 1) := by decide +kernel
theorem dX13_run_124 : decode cX13_run 124 = .ok (.getfield 1207, 3) := by decide +kernel
theorem dX13_run_127 : decode cX13_run 127 = .ok (.iconst 2, 1) := by decide +kernel
theorem dX13_run_128 : decode cX13_run 128 = .ok (.if_icmp .ne 7, 3) := by decide +kernel
theorem dX13_run_131 : decode cX13_run 131 = .ok (.iconst 2, 1) := by decide +kernel
theorem dX13_run_132 : decode cX13_run 132 = .ok (.goto 4, 3) := by decide +kernel
theorem dX13_run_135 : decode cX13_run 135 = .ok (.iconst 1, 1) := by decide +kernel
theorem dX13_run_136 : decode cX13_run 136 = .ok (.ireturn, 1) := by decide +kernel
theorem dX13_value_0 : decode cX13_value 0 = .ok (.aload_n 0, 1) := by decide +kernel
theorem dX13_value_1 : decode cX13_value 1 = .ok (.getfield 1373, 3) := by decide +kernel
theorem dX13_value_4 : decode cX13_value 4 = .ok (.ireturn, 1) := by decide +kernel
theorem dX13_told_0 : decode cX13_told 0 = .ok (.iload_n 1, 1) := by decide +kernel
theorem dX13_told_1 : decode cX13_told 1 = .ok (.ifCond .lt 9, 3) := by decide +kernel
theorem dX13_told_4 : decode cX13_told 4 = .ok (.iload_n 1, 1) := by decide +kernel
theorem dX13_told_5 : decode cX13_told 5 = .ok (.bipush 7, 2) := by decide +kernel
theorem dX13_told_7 : decode cX13_told 7 = .ok (.if_icmp .le 5, 3) := by decide +kernel
theorem dX13_told_10 : decode cX13_told 10 = .ok (.iconst (-1), 1) := by decide +kernel
theorem dX13_told_11 : decode cX13_told 11 = .ok (.ireturn, 1) := by decide +kernel
theorem dX13_told_12 : decode cX13_told 12 = .ok (.iload_n 1, 1) := by decide +kernel
theorem dX13_told_13 : decode cX13_told 13 = .ok (.tableswitch 78 0 6 #[43, 48, 53, 58, 63, 68, 73], 43) := by decide +kernel
theorem dX13_told_56 : decode cX13_told 56 = .ok (.aload_n 0, 1) := by decide +kernel
theorem dX13_told_57 : decode cX13_told 57 = .ok (.getfield 1268, 3) := by decide +kernel
theorem dX13_told_60 : decode cX13_told 60 = .ok (.ireturn, 1) := by decide +kernel
theorem dX13_told_61 : decode cX13_told 61 = .ok (.aload_n 0, 1) := by decide +kernel
theorem dX13_told_62 : decode cX13_told 62 = .ok (.getfield 1358, 3) := by decide +kernel
theorem dX13_told_65 : decode cX13_told 65 = .ok (.ireturn, 1) := by decide +kernel
theorem dX13_told_66 : decode cX13_told 66 = .ok (.aload_n 0, 1) := by decide +kernel
theorem dX13_told_67 : decode cX13_told 67 = .ok (.getfield 1198, 3) := by decide +kernel
theorem dX13_told_70 : decode cX13_told 70 = .ok (.ireturn, 1) := by decide +kernel
theorem dX13_told_71 : decode cX13_told 71 = .ok (.aload_n 0, 1) := by decide +kernel
theorem dX13_told_72 : decode cX13_told 72 = .ok (.getfield 1201, 3) := by decide +kernel
theorem dX13_told_75 : decode cX13_told 75 = .ok (.ireturn, 1) := by decide +kernel
theorem dX13_told_76 : decode cX13_told 76 = .ok (.aload_n 0, 1) := by decide +kernel
theorem dX13_told_77 : decode cX13_told 77 = .ok (.getfield 1086, 3) := by decide +kernel
theorem dX13_told_80 : decode cX13_told 80 = .ok (.ireturn, 1) := by decide +kernel
theorem dX13_told_81 : decode cX13_told 81 = .ok (.aload_n 0, 1) := by decide +kernel
theorem dX13_told_82 : decode cX13_told 82 = .ok (.getfield 1071, 3) := by decide +kernel
theorem dX13_told_85 : decode cX13_told 85 = .ok (.ireturn, 1) := by decide +kernel
theorem dX13_told_86 : decode cX13_told 86 = .ok (.aload_n 0, 1) := by decide +kernel
theorem dX13_told_87 : decode cX13_told 87 = .ok (.getfield 57, 3) := by decide +kernel
theorem dX13_told_90 : decode cX13_told 90 = .ok (.ireturn, 1) := by decide +kernel
theorem dX13_told_91 : decode cX13_told 91 = .ok (.aload_n 0, 1) := by decide +kernel
theorem dX13_told_92 : decode cX13_told 92 = .ok (.getfield 950, 3) := by decide +kernel
theorem dX13_told_95 : decode cX13_told 95 = .ok (.ireturn, 1) := by decide +kernel
theorem dX13_number_0 : decode cX13_number 0 = .ok (.iload_n 1, 1) := by decide +kernel
theorem dX13_number_1 : decode cX13_number 1 = .ok (.ifCond .lt 11, 3) := by decide +kernel
theorem dX13_number_4 : decode cX13_number 4 = .ok (.iload_n 1, 1) := by decide +kernel
theorem dX13_number_5 : decode cX13_number 5 = .ok (.aload_n 0, 1) := by decide +kernel
theorem dX13_number_6 : decode cX13_number 6 = .ok (.getfield 1358, 3) := by decide +kernel
theorem dX13_number_9 : decode cX13_number 9 = .ok (.if_icmp .lt 7, 3) := by decide +kernel
theorem dX13_number_12 : decode cX13_number 12 = .ok (.iconst 0, 1) := by decide +kernel
theorem dX13_number_13 : decode cX13_number 13 = .ok (.goto 9, 3) := by decide +kernel
theorem dX13_number_16 : decode cX13_number 16 = .ok (.aload_n 0, 1) := by decide +kernel
theorem dX13_number_17 : decode cX13_number 17 = .ok (.getfield 1361, 3) := by decide +kernel
theorem dX13_number_20 : decode cX13_number 20 = .ok (.iload_n 1, 1) := by decide +kernel
theorem dX13_number_21 : decode cX13_number 21 = .ok (.iaload, 1) := by decide +kernel
theorem dX13_number_22 : decode cX13_number 22 = .ok (.ireturn, 1) := by decide +kernel
theorem dX13_event__0 : decode cX13_event_ 0 = .ok (.iload_n 1, 1) := by decide +kernel
theorem dX13_event__1 : decode cX13_event_ 1 = .ok (.ifCond .lt 11, 3) := by decide +kernel
theorem dX13_event__4 : decode cX13_event_ 4 = .ok (.iload_n 1, 1) := by decide +kernel
theorem dX13_event__5 : decode cX13_event_ 5 = .ok (.aload_n 0, 1) := by decide +kernel
theorem dX13_event__6 : decode cX13_event_ 6 = .ok (.getfield 1086, 3) := by decide +kernel
theorem dX13_event__9 : decode cX13_event_ 9 = .ok (.if_icmp .lt 7, 3) := by decide +kernel
theorem dX13_event__12 : decode cX13_event_ 12 = .ok (.iconst (-1), 1) := by decide +kernel
theorem dX13_event__13 : decode cX13_event_ 13 = .ok (.goto 9, 3) := by decide +kernel
theorem dX13_event__16 : decode cX13_event_ 16 = .ok (.aload_n 0, 1) := by decide +kernel
theorem dX13_event__17 : decode cX13_event_ 17 = .ok (.getfield 1083, 3) := by decide +kernel
theorem dX13_event__20 : decode cX13_event_ 20 = .ok (.iload_n 1, 1) := by decide +kernel
theorem dX13_event__21 : decode cX13_event_ 21 = .ok (.iaload, 1) := by decide +kernel
theorem dX13_event__22 : decode cX13_event_ 22 = .ok (.ireturn, 1) := by decide +kernel
theorem dX13_name_0 : decode cX13_name 0 = .ok (.iload_n 1, 1) := by decide +kernel
theorem dX13_name_1 : decode cX13_name 1 = .ok (.ifCond .lt 11, 3) := by decide +kernel
theorem dX13_name_4 : decode cX13_name 4 = .ok (.iload_n 1, 1) := by decide +kernel
theorem dX13_name_5 : decode cX13_name 5 = .ok (.aload_n 0, 1) := by decide +kernel
theorem dX13_name_6 : decode cX13_name 6 = .ok (.getfield 1071, 3) := by decide +kernel
theorem dX13_name_9 : decode cX13_name 9 = .ok (.if_icmp .lt 5, 3) := by decide +kernel
theorem dX13_name_12 : decode cX13_name 12 = .ok (.iconst (-1), 1) := by decide +kernel
theorem dX13_name_13 : decode cX13_name 13 = .ok (.ireturn, 1) := by decide +kernel
theorem dX13_name_14 : decode cX13_name 14 = .ok (.aload_n 0, 1) := by decide +kernel
theorem dX13_name_15 : decode cX13_name 15 = .ok (.iconst 0, 1) := by decide +kernel
theorem dX13_name_16 : decode cX13_name 16 = .ok (.putfield 15, 3) := by decide +kernel
theorem dX13_name_19 : decode cX13_name 19 = .ok (.aload_n 0, 1) := by decide +kernel
theorem dX13_name_20 : decode cX13_name 20 = .ok (.aload_n 0, 1) := by decide +kernel
theorem dX13_name_21 : decode cX13_name 21 = .ok (.getfield 256, 3) := by decide +kernel
theorem dX13_name_24 : decode cX13_name 24 = .ok (.aload_n 0, 1) := by decide +kernel
theorem dX13_name_25 : decode cX13_name 25 = .ok (.getfield 1077, 3) := by decide +kernel
theorem dX13_name_28 : decode cX13_name 28 = .ok (.iload_n 1, 1) := by decide +kernel
theorem dX13_name_29 : decode cX13_name 29 = .ok (.iaload, 1) := by decide +kernel
theorem dX13_name_30 : decode cX13_name 30 = .ok (.laload, 1) := by decide +kernel
theorem dX13_name_31 : decode cX13_name 31 = .ok (.invokevirtual 53, 3) := by decide +kernel
theorem dX13_name_34 : decode cX13_name 34 = .ok (.aload_n 0, 1) := by decide +kernel
theorem dX13_name_35 : decode cX13_name 35 = .ok (.getfield 15, 3) := by decide +kernel
theorem dX13_name_38 : decode cX13_name 38 = .ok (.ireturn, 1) := by decide +kernel
theorem dX13_state_0 : decode cX13_state 0 = .ok (.iload_n 1, 1) := by decide +kernel
theorem dX13_state_1 : decode cX13_state 1 = .ok (.ifCond .lt 11, 3) := by decide +kernel
theorem dX13_state_4 : decode cX13_state 4 = .ok (.iload_n 1, 1) := by decide +kernel
theorem dX13_state_5 : decode cX13_state 5 = .ok (.aload_n 0, 1) := by decide +kernel
theorem dX13_state_6 : decode cX13_state 6 = .ok (.getfield 1071, 3) := by decide +kernel
theorem dX13_state_9 : decode cX13_state 9 = .ok (.if_icmp .lt 7, 3) := by decide +kernel
theorem dX13_state_12 : decode cX13_state 12 = .ok (.iconst (-1), 1) := by decide +kernel
theorem dX13_state_13 : decode cX13_state 13 = .ok (.goto 9, 3) := by decide +kernel
theorem dX13_state_16 : decode cX13_state 16 = .ok (.aload_n 0, 1) := by decide +kernel
theorem dX13_state_17 : decode cX13_state 17 = .ok (.getfield 1089, 3) := by decide +kernel
theorem dX13_state_20 : decode cX13_state 20 = .ok (.iload_n 1, 1) := by decide +kernel
theorem dX13_state_21 : decode cX13_state 21 = .ok (.iaload, 1) := by decide +kernel
theorem dX13_state_22 : decode cX13_state 22 = .ok (.ireturn, 1) := by decide +kernel
theorem dX13_classOf_0 : decode cX13_classOf 0 = .ok (.iload_n 1, 1) := by decide +kernel
theorem dX13_classOf_1 : decode cX13_classOf 1 = .ok (.iconst 1, 1) := by decide +kernel
theorem dX13_classOf_2 : decode cX13_classOf 2 = .ok (.if_icmp .lt 11, 3) := by decide +kernel
theorem dX13_classOf_5 : decode cX13_classOf 5 = .ok (.iload_n 1, 1) := by decide +kernel
theorem dX13_classOf_6 : decode cX13_classOf 6 = .ok (.aload_n 0, 1) := by decide +kernel
theorem dX13_classOf_7 : decode cX13_classOf 7 = .ok (.getfield 1198, 3) := by decide +kernel
theorem dX13_classOf_10 : decode cX13_classOf 10 = .ok (.if_icmp .le 7, 3) := by decide +kernel
theorem dX13_classOf_13 : decode cX13_classOf 13 = .ok (.iconst (-1), 1) := by decide +kernel
theorem dX13_classOf_14 : decode cX13_classOf 14 = .ok (.goto 14, 3) := by decide +kernel
theorem dX13_classOf_17 : decode cX13_classOf 17 = .ok (.aload_n 0, 1) := by decide +kernel
theorem dX13_classOf_18 : decode cX13_classOf 18 = .ok (.getfield 1068, 3) := by decide +kernel
theorem dX13_classOf_21 : decode cX13_classOf 21 = .ok (.aload_n 0, 1) := by decide +kernel
theorem dX13_classOf_22 : decode cX13_classOf 22 = .ok (.getfield 1216, 3) := by decide +kernel
theorem dX13_classOf_25 : decode cX13_classOf 25 = .ok (.iload_n 1, 1) := by decide +kernel
theorem dX13_classOf_26 : decode cX13_classOf 26 = .ok (.iaload, 1) := by decide +kernel
theorem dX13_classOf_27 : decode cX13_classOf 27 = .ok (.iaload, 1) := by decide +kernel
theorem dX13_classOf_28 : decode cX13_classOf 28 = .ok (.ireturn, 1) := by decide +kernel
theorem dX13_fieldOf_0 : decode cX13_fieldOf 0 = .ok (.iload_n 1, 1) := by decide +kernel
theorem dX13_fieldOf_1 : decode cX13_fieldOf 1 = .ok (.iconst 1, 1) := by decide +kernel
theorem dX13_fieldOf_2 : decode cX13_fieldOf 2 = .ok (.if_icmp .lt 38, 3) := by decide +kernel
theorem dX13_fieldOf_5 : decode cX13_fieldOf 5 = .ok (.iload_n 1, 1) := by decide +kernel
theorem dX13_fieldOf_6 : decode cX13_fieldOf 6 = .ok (.aload_n 0, 1) := by decide +kernel
theorem dX13_fieldOf_7 : decode cX13_fieldOf 7 = .ok (.getfield 1198, 3) := by decide +kernel
theorem dX13_fieldOf_10 : decode cX13_fieldOf 10 = .ok (.if_icmp .gt 30, 3) := by decide +kernel
theorem dX13_fieldOf_13 : decode cX13_fieldOf 13 = .ok (.iload_n 2, 1) := by decide +kernel
theorem dX13_fieldOf_14 : decode cX13_fieldOf 14 = .ok (.ifCond .lt 26, 3) := by decide +kernel
theorem dX13_fieldOf_17 : decode cX13_fieldOf 17 = .ok (.iload_n 2, 1) := by decide +kernel
theorem dX13_fieldOf_18 : decode cX13_fieldOf 18 = .ok (.aload_n 0, 1) := by decide +kernel
theorem dX13_fieldOf_19 : decode cX13_fieldOf 19 = .ok (.getfield 1262, 3) := by decide +kernel
theorem dX13_fieldOf_22 : decode cX13_fieldOf 22 = .ok (.iload_n 1, 1) := by decide +kernel
theorem dX13_fieldOf_23 : decode cX13_fieldOf 23 = .ok (.iconst 1, 1) := by decide +kernel
theorem dX13_fieldOf_24 : decode cX13_fieldOf 24 = .ok (.iadd, 1) := by decide +kernel
theorem dX13_fieldOf_25 : decode cX13_fieldOf 25 = .ok (.iaload, 1) := by decide +kernel
theorem dX13_fieldOf_26 : decode cX13_fieldOf 26 = .ok (.aload_n 0, 1) := by decide +kernel
theorem dX13_fieldOf_27 : decode cX13_fieldOf 27 = .ok (.getfield 1262, 3) := by decide +kernel
theorem dX13_fieldOf_30 : decode cX13_fieldOf 30 = .ok (.iload_n 1, 1) := by decide +kernel
theorem dX13_fieldOf_31 : decode cX13_fieldOf 31 = .ok (.iaload, 1) := by decide +kernel
theorem dX13_fieldOf_32 : decode cX13_fieldOf 32 = .ok (.isub, 1) := by decide +kernel
theorem dX13_fieldOf_33 : decode cX13_fieldOf 33 = .ok (.if_icmp .ge 7, 3) := by decide +kernel
theorem dX13_fieldOf_36 : decode cX13_fieldOf 36 = .ok (.iconst 1, 1) := by decide +kernel
theorem dX13_fieldOf_37 : decode cX13_fieldOf 37 = .ok (.goto 4, 3) := by decide +kernel
theorem dX13_fieldOf_40 : decode cX13_fieldOf 40 = .ok (.iconst 0, 1) := by decide +kernel
theorem dX13_fieldOf_41 : decode cX13_fieldOf 41 = .ok (.istore_n 3, 1) := by decide +kernel
theorem dX13_fieldOf_42 : decode cX13_fieldOf 42 = .ok (.iload_n 3, 1) := by decide +kernel
theorem dX13_fieldOf_43 : decode cX13_fieldOf 43 = .ok (.ifCond .eq 19, 3) := by decide +kernel
theorem dX13_fieldOf_46 : decode cX13_fieldOf 46 = .ok (.aload_n 0, 1) := by decide +kernel
theorem dX13_fieldOf_47 : decode cX13_fieldOf 47 = .ok (.getfield 1265, 3) := by decide +kernel
theorem dX13_fieldOf_50 : decode cX13_fieldOf 50 = .ok (.aload_n 0, 1) := by decide +kernel
theorem dX13_fieldOf_51 : decode cX13_fieldOf 51 = .ok (.getfield 1262, 3) := by decide +kernel
theorem dX13_fieldOf_54 : decode cX13_fieldOf 54 = .ok (.iload_n 1, 1) := by decide +kernel
theorem dX13_fieldOf_55 : decode cX13_fieldOf 55 = .ok (.iaload, 1) := by decide +kernel
theorem dX13_fieldOf_56 : decode cX13_fieldOf 56 = .ok (.iload_n 2, 1) := by decide +kernel
